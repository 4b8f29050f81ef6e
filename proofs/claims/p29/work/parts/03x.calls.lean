theorem BG_sub {l : List Cond} (h : ∀ w ∈ l, w ∈ BG) : GoodIn BG l := fun w hw => ⟨h w hw, good_of_word (List.mem_filter.mp (h w hw)).2⟩
def xMB (y : MethodName) (cb : ByteArray) (nL : Nat) (ret : Option FieldType) (n : Nat) : Prop := Cond.initialized y.cls ∈ BG ∧ Cond.code y cb nL ret ∈ BG ∧ (y.cls ≠ "java/lang/invoke/MethodHandle" ∧ y.cls ≠ "java/lang/invoke/VarHandle" ∧ (parseMethodDescriptor y.desc).map (fun d => d.parameters.length) = some n) ∧ plainName y.cls = true
def xMV (y : MethodName) (cb : ByteArray) (nL : Nat) (ret : Option FieldType) (n : Nat) : Prop := Cond.instanceMethod y ∈ BG ∧ Cond.selects y.cls y y ∈ BG ∧ xMB y cb nL ret n
def xMS (y : MethodName) (cb : ByteArray) (nL : Nat) (ret : Option FieldType) (n : Nat) : Prop := Cond.static y ∈ BG ∧ xMB y cb nL ret n
def xMI (y : MethodName) (cb : ByteArray) (nL : Nat) (n : Nat) : Prop := Cond.instanceMethod y ∈ BG ∧ y.name = "<init>" ∧ xMB y cb nL none n
theorem YM_of {l : Launch} {y : MethodName} {cc : ByteArray} {nL : Nat} {ret : Option FieldType} {fr lo ce sl : Nat} {Z : xZ} {B0 : Nat} {av : List Value} {lay : xK → Nat} {C : xK → Option xE} {post : Option Value → (xK → Nat) → (xK → Option xE) → Prop} {n : Nat} (M : xMB y cc nL ret n) (own : String) (hown : y.cls = own) (lv0 : List (Option Value)) (hlv : xl lv0 0 = lv_args 0 av) (hlen : (lg_sl av).length ≤ nL)
    (body : ∀ (p : Program) (e : Env) (s : State) (m : MethodId) (args : Array Value) (below : List Frame) (meth : Method) (c : Code), Cx p m meth c cc nL s args own Z B0 → meth.sig.returnType = ret → meth.name = y.name → V p l e { frames := fr, cells := ce, slots := sl, locals := lo } s m args below meth c (MQ below (yQ Z B0 post) args s ce sl (fun q => B0 ≤ q)) Z B0 nL lay C 0 0 0 lv0 []) : YM l y cc nL ret fr lo ce sl Z B0 av lay C post := by
  refine Met.ofW (cc := cc) (maxL := nL) (ret := ret) M.2.2.2 rfl ?_
  intro p e s m args below meth c s₁ B hml hv
  obtain ⟨rfl, hP, hKn, hB⟩ := hv
  have X : Cx p m meth c cc nL s av.toArray own Z B0 := ⟨⟨B.exec, B.bytes, hml, by rw [← hown]; exact findClass_of_methodNamed B.named, fun w hw => atoms_spec (ws := Cond.code y cc nL ret :: BG) B.pre w (List.mem_cons_of_mem _ hw)⟩, hKn, hB, B.notSynchronized⟩
  rw [lg_entry_eq]
  exact body p e s m av.toArray below meth c X B.returns (name_of_methodNamed B.named B.method).1 _ s.heap [] (by rw [hlv]; exact lv_entry av hlen) hP va_S.rf
section XC
variable {p : Program} {l : Launch} {e : Env} {R : Room} {s : State} {m : MethodId} {args : Array Value} {below : List Frame} {meth : Method} {c : Code} {Q : State → Prop} {Z : xZ} {B0 nL : Nat} {lay : xK → Nat} {C : xK → Option xE} {cells slots pc : Nat} {lv : List (Option Value)} {rest st : List Value} {cc : ByteArray} {own : String} {post : Option Value → (xK → Nat) → (xK → Option xE) → Prop} {ce sl : Nat}
theorem v_iret (X : Cx p m meth c cc nL s args own Z B0) (hr : meth.sig.returnType = some .int) {v : Int32} (hdg : decode cc pc = .ok (.ireturn, 1)) (h1 : cells ≤ ce) (h2 : slots ≤ sl) (hp : post (some (.int v)) lay C) : V p l e R s m args below meth c (MQ below (yQ Z B0 post) args s ce sl (fun q => B0 ≤ q)) Z B0 nL lay C cells slots pc lv [.int v] :=
  fun ls H locs hl hP hS => W.widen h1 h2 (W.iret X.1.1 X.1.2.1 hr (fun t ht hW => ⟨⟨_, lay, C, rfl, hp, by rw [ht]; exact hP⟩, hS.F ht⟩) hS.2.2 hdg X.2.2.2)
theorem v_zret (X : Cx p m meth c cc nL s args own Z B0) (hr : meth.sig.returnType = some .boolean) {v : Int32} (hdg : decode cc pc = .ok (.ireturn, 1)) (h1 : cells ≤ ce) (h2 : slots ≤ sl) (hn : narrow .boolean (.int v) = .int v) (hp : post (some (.int v)) lay C) : V p l e R s m args below meth c (MQ below (yQ Z B0 post) args s ce sl (fun q => B0 ≤ q)) Z B0 nL lay C cells slots pc lv [.int v] :=
  fun ls H locs hl hP hS => W.widen h1 h2 (W.zret X.1.1 X.1.2.1 hr hn (fun t ht hW => ⟨⟨_, lay, C, rfl, hp, by rw [ht]; exact hP⟩, hS.F ht⟩) hS.2.2 hdg X.2.2.2)
theorem v_lret (X : Cx p m meth c cc nL s args own Z B0) (hr : meth.sig.returnType = some .long) {v : Int64} (hdg : decode cc pc = .ok (.lreturn, 1)) (h1 : cells ≤ ce) (h2 : slots ≤ sl) (hp : post (some (.long v)) lay C) : V p l e R s m args below meth c (MQ below (yQ Z B0 post) args s ce sl (fun q => B0 ≤ q)) Z B0 nL lay C cells slots pc lv [.long v] :=
  fun ls H locs hl hP hS => W.widen h1 h2 (W.lret X.1.1 X.1.2.1 hr (fun t ht hW => ⟨⟨_, lay, C, rfl, hp, by rw [ht]; exact hP⟩, hS.F ht⟩) hS.2.2 hdg X.2.2.2)
theorem v_vret (X : Cx p m meth c cc nL s args own Z B0) (hr : meth.sig.returnType = none) (hdg : decode cc pc = .ok (.return_, 1)) (h1 : cells ≤ ce) (h2 : slots ≤ sl) (hp : post none lay C) : V p l e R s m args below meth c (MQ below (yQ Z B0 post) args s ce sl (fun q => B0 ≤ q)) Z B0 nL lay C cells slots pc lv [] :=
  fun ls H locs hl hP hS => W.widen h1 h2 (W.vret X.1.1 X.1.2.1 hr (fun t ht hW => ⟨⟨_, lay, C, rfl, hp, by rw [ht]; exact hP⟩, hS.F ht⟩) hS.2.2 hdg X.2.2.2)
theorem v_aret (X : Cx p m meth c cc nL s args own Z B0) {cn : String} (hr : meth.sig.returnType = some (.object cn)) {v : Value} (hv : v = .null ∨ ∃ a, v = .ref a) (hdg : decode cc pc = .ok (.areturn, 1)) (h1 : cells ≤ ce) (h2 : slots ≤ sl) (hp : post (some v) lay C) : V p l e R s m args below meth c (MQ below (yQ Z B0 post) args s ce sl (fun q => B0 ≤ q)) Z B0 nL lay C cells slots pc lv [v] :=
  fun ls H locs hl hP hS => W.widen h1 h2 (W.aret X.1.1 X.1.2.1 hr (Or.inl ⟨_, rfl⟩) hv (fun t ht hW => ⟨⟨_, lay, C, rfl, hp, by rw [ht]; exact hP⟩, hS.F ht⟩) hS.2.2 hdg X.2.2.2)
theorem x_call {H : Heap} {locs : List Loc} {ls : Array Slot} {st0 : List Value} {a : Array Value} (hr : va_Run p l e R s m args below meth c H locs cells slots ce sl (F0 m pc ls st0) rest (yQ Z B0 post a) (fun q => B0 ≤ q)) (hB : B0 ≤ s.heap.size) (hS : va_S (fun q => B0 ≤ q) s.heap H locs) (hl : lv_has ls nL (xl lv 0))
    (kk : ∀ (v : Option Value) (lay' : xK → Nat) (C' : xK → Option xE), post v lay' C' → V p l e R s m args below meth c Q Z B0 nL lay' C' (cells + ce) (slots + sl) (pc + 3) lv (v.toList ++ rest)) : W p l e R s m args below meth c H locs cells slots Q (F0 m pc ls st0) := by
  intro T hT X
  obtain ⟨v, st₀, t, T', L, h0, X', hL, e1, e2, ⟨⟨v', lay', C', hv, hp, hP'⟩, hz, hk⟩, st⟩ := hr T hT X
  cases hv
  rw [h0] at hz hk
  obtain ⟨t2, a1, b1⟩ := kk v lay' C' hp ls T'.heap (locs ++ L) hl (by rw [e1]; exact hP')
    ⟨Nat.le_trans hS.1 (by rw [e1]; exact hz), fun q h1 h2 => by rw [e1, hk q (Nat.lt_of_lt_of_le h1 hS.1) h2]; exact hS.2.1 q h1 h2, fun q hq => by
      rcases List.mem_append.mp hq with h | h
      · exact hS.2.2 q h
      · exact hL q h⟩ T' rfl X'
  exact ⟨t2, st t2 a1, b1⟩
variable {y : MethodName} {cb : ByteArray} {nLb fr lo n : Nat} {ret : Option FieldType}
theorem v_callV (X : Cx p m meth c cc nL s args own Z B0) (M : xMV y cb nLb ret n) {b : Nat} (As : List Value) (rest : List Value) (h : YM l y cb nLb ret fr lo ce sl Z B0 (.ref b :: As) lay C post) {index : Nat} (hlink : Cond.methodLink own index y ∈ BG) (k : xK) {ci : Nat} {f : Nat → Value} (he : C k = some (.inr (ci, f))) (ha : lay k = b) {T : u_T} {N : Nat} {cn : String} (hc : vwCl[ci]? = some (cn, T, N)) (hcn : cn = y.cls) (hn : As.length = n) (hst : st = As.reverse ++ .ref b :: rest) (hW : (rest.map fun v => v.category).sum ≤ 8) (hdg : decode cc pc = .ok (.invokevirtual index, 3)) (hR : fr + 1 ≤ R.frames ∧ 8 + (nLb + 11) + lo ≤ R.locals) (hf : cells + ce ≤ R.cells ∧ slots + sl ≤ R.slots)
    (kk : ∀ (v : Option Value) (lay' : xK → Nat) (C' : xK → Option xE), post v lay' C' → V p l e R s m args below meth c Q Z B0 nL lay' C' (cells + ce) (slots + sl) (pc + 3) lv (v.toList ++ rest)) : V p l e R s m args below meth c Q Z B0 nL lay C cells slots pc lv st := by
  intro ls H locs hl hP hS
  subst ha hcn hst
  refine x_call (va_runV (C := y.cls) (n := n) (As := As) (rest := rest) X.1 h (cwV n X.1.2.2.2.2 (BG_sub (fun w hw => ?_)) rfl rfl rfl ⟨rfl, M.2.2.2.2.1⟩ hR) ⟨yP.blind, ?_, fun U hU hW9 => ⟨rfl, by rw [hU]; exact hP, X.2.1.warm hW9, by rw [hU]; exact Nat.le_trans X.2.2.1 hS.1⟩⟩ rfl hn hl.1 rfl (lv_room hW) hdg hf) X.2.2.1 hS hl kk
  · rcases List.mem_append.mp hw with hw | hw
    · simp only [List.mem_cons, List.not_mem_nil, or_false] at hw
      rcases hw with rfl | rfl | rfl | rfl
      · exact hlink
      · exact M.1
      · exact M.2.1
      · exact M.2.2.1
    · rcases List.mem_cons.mp hw with rfl | hw
      · exact M.2.2.2.1
      · exact hw
  · obtain ⟨r, h1, cell, q1, q2, q3, -⟩ := hP.1 k _ he
    cases h1.symm.trans hc
    exact ⟨cell, q1, by rw [q3]; rfl, by rw [q2]; exact (X.2.1.1.1 ci _ hc).2.1⟩
theorem v_callS (X : Cx p m meth c cc nL s args own Z B0) (M : xMS y cb nLb ret n) (As : List Value) (rest : List Value) (h : YM l y cb nLb ret fr lo ce sl Z B0 As lay C post) {index : Nat} (hlink : Cond.methodLink own index y ∈ BG) (hown : y.cls = own) (hn : As.length = n) (hst : st = As.reverse ++ rest) (hW : (rest.map fun v => v.category).sum ≤ 8) (hdg : decode cc pc = .ok (.invokestatic index, 3)) (hR : fr + 1 ≤ R.frames ∧ 8 + (nLb + 11) + lo ≤ R.locals) (hf : cells + ce ≤ R.cells ∧ slots + sl ≤ R.slots)
    (kk : ∀ (v : Option Value) (lay' : xK → Nat) (C' : xK → Option xE), post v lay' C' → V p l e R s m args below meth c Q Z B0 nL lay' C' (cells + ce) (slots + sl) (pc + 3) lv (v.toList ++ rest)) : V p l e R s m args below meth c Q Z B0 nL lay C cells slots pc lv st := by
  intro ls H locs hl hP hS
  subst hst
  refine x_call (va_runS (n := n) (As := As) (rest := rest) X.1 h (cwS n X.1.2.2.2.2 (BG_sub (fun w hw => ?_)) rfl rfl rfl ⟨hown, M.2.2.2.1⟩ hR) ⟨yP.blind, fun U hU hW9 => ⟨rfl, by rw [hU]; exact hP, X.2.1.warm hW9, by rw [hU]; exact Nat.le_trans X.2.2.1 hS.1⟩⟩ rfl hn hl.1 rfl (lv_room hW) hdg hf) X.2.2.1 hS hl kk
  rcases List.mem_append.mp hw with hw | hw
  · simp only [List.mem_cons, List.not_mem_nil, or_false] at hw
    rcases hw with rfl | rfl | rfl
    · exact hlink
    · exact M.1
    · rw [← hown]; exact M.2.1
  · rcases List.mem_cons.mp hw with rfl | hw
    · exact M.2.2.1
    · exact hw
theorem v_callI (X : Cx p m meth c cc nL s args own Z B0) (M : xMI y cb nLb n) {b : Nat} (As : List Value) (rest : List Value) (h : YM l y cb nLb none fr lo ce sl Z B0 (.ref b :: As) lay C post) {index : Nat} (hlink : Cond.methodLink own index y ∈ BG) (hn : As.length = n) (hst : st = As.reverse ++ .ref b :: rest) (hW : (rest.map fun v => v.category).sum ≤ 8) (hdg : decode cc pc = .ok (.invokespecial index, 3)) (hR : fr + 1 ≤ R.frames ∧ 8 + (nLb + 11) + lo ≤ R.locals) (hf : cells + ce ≤ R.cells ∧ slots + sl ≤ R.slots)
    (kk : ∀ (v : Option Value) (lay' : xK → Nat) (C' : xK → Option xE), post v lay' C' → V p l e R s m args below meth c Q Z B0 nL lay' C' (cells + ce) (slots + sl) (pc + 3) lv (v.toList ++ rest)) : V p l e R s m args below meth c Q Z B0 nL lay C cells slots pc lv st := by
  intro ls H locs hl hP hS
  subst hst
  exact x_call (va_runI (n := n) (As := As) (rest := rest) X.1 h (cwI n X.1.2.2.2.2 (BG_good M.2.2.2.1) rfl rfl rfl (X.1.2.2.2.2 _ M.2.2.1) (X.1.2.2.2.2 _ hlink) (X.1.2.2.2.2 _ M.1) M.2.1 M.2.2.2.2.1 hR) ⟨yP.blind, fun U hU hW9 => ⟨rfl, by rw [hU]; exact hP, X.2.1.warm hW9, by rw [hU]; exact Nat.le_trans X.2.2.1 hS.1⟩⟩ rfl hn hl.1 rfl (lv_room hW) hdg hf) X.2.2.1 hS hl kk
/-- a nest mate's private static method -/
theorem v_callSN (X : Cx p m meth c cc nL s args own Z B0) (M : xMS y cb nLb ret n) (As : List Value) (rest : List Value) (h : YM l y cb nLb ret fr lo ce sl Z B0 As lay C post) {index : Nat} {host : String} (hlink : xNest = Cond.methodLinkNest own index y host) (hn : As.length = n) (hst : st = As.reverse ++ rest) (hW : (rest.map fun v => v.category).sum ≤ 8) (hdg : decode cc pc = .ok (.invokestatic index, 3)) (hR : fr + 1 ≤ R.frames ∧ 8 + (nLb + 11) + lo ≤ R.locals) (hf : cells + ce ≤ R.cells ∧ slots + sl ≤ R.slots)
    (kk : ∀ (v : Option Value) (lay' : xK → Nat) (C' : xK → Option xE), post v lay' C' → V p l e R s m args below meth c Q Z B0 nL lay' C' (cells + ce) (slots + sl) (pc + 3) lv (v.toList ++ rest)) : V p l e R s m args below meth c Q Z B0 nL lay C cells slots pc lv st := by
  intro ls H locs hl hP hS
  subst hst
  exact x_call (va_runSN (n := n) (As := As) (rest := rest) X.1 h ⟨va_cnB n X.1.2.2.2.2 (BG_good M.2.2.1) rfl rfl rfl (hlink ▸ X.2.1.2) (X.1.2.2.2.2 _ M.2.1) M.2.2.2.1 hR, X.1.2.2.2.2 _ M.1, trivial⟩ ⟨yP.blind, fun U hU hW9 => ⟨rfl, by rw [hU]; exact hP, X.2.1.warm hW9, by rw [hU]; exact Nat.le_trans X.2.2.1 hS.1⟩⟩ rfl hn hl.1 rfl (lv_room hW) hdg hf) X.2.2.1 hS hl kk
end XC
theorem myX0_init : xMI yX0_init cX0_init 4 3 := ⟨(xw_at tW_8 27 rfl), rfl, ⟨(xw_at tW_0 28 rfl), (xw_at tW_8 28 rfl), by decide +kernel, by decide +kernel⟩⟩
theorem myX0_farEnd : xMV yX0_farEnd cX0_farEnd 2 ((some (FieldType.object "Postunion$Post"))) 1 := ⟨(xw_at tW_11 13 rfl), (xw_at tW_11 14 rfl), ⟨(xw_at tW_0 28 rfl), (xw_at tW_11 15 rfl), by decide +kernel, by decide +kernel⟩⟩
theorem myX0_leadsTo : xMV yX0_leadsTo cX0_leadsTo 2 ((some FieldType.int)) 1 := ⟨(xw_at tW_1 39 rfl), (xw_at tW_2 0 rfl), ⟨(xw_at tW_0 28 rfl), (xw_at tW_2 1 rfl), by decide +kernel, by decide +kernel⟩⟩
theorem myX1_init : xMI yX1_init cX1_init 2 1 := ⟨(xw_at tW_6 39 rfl), rfl, ⟨(xw_at tW_0 27 rfl), (xw_at tW_7 0 rfl), by decide +kernel, by decide +kernel⟩⟩
theorem myX1_rateOf : xMV yX1_rateOf cX1_rateOf 5 ((some FieldType.int)) 3 := ⟨(xw_at tW_5 25 rfl), (xw_at tW_5 26 rfl), ⟨(xw_at tW_0 27 rfl), (xw_at tW_5 27 rfl), by decide +kernel, by decide +kernel⟩⟩
theorem myX1_chargeFor : xMV yX1_chargeFor cX1_chargeFor 2 ((some FieldType.long)) 1 := ⟨(xw_at tW_11 5 rfl), (xw_at tW_11 6 rfl), ⟨(xw_at tW_0 27 rfl), (xw_at tW_11 7 rfl), by decide +kernel, by decide +kernel⟩⟩
theorem myX2_init : xMI yX2_init cX2_init 1 0 := ⟨(xw_at tW_1 3 rfl), rfl, ⟨(xw_at tW_0 17 rfl), (xw_at tW_1 4 rfl), by decide +kernel, by decide +kernel⟩⟩
theorem myX2_addLeg : xMV yX2_addLeg cX2_addLeg 4 ((some FieldType.int)) 3 := ⟨(xw_at tW_8 22 rfl), (xw_at tW_8 23 rfl), ⟨(xw_at tW_0 17 rfl), (xw_at tW_8 24 rfl), by decide +kernel, by decide +kernel⟩⟩
theorem myX2_legOf : xMV yX2_legOf cX2_legOf 2 ((some (FieldType.object "Postunion$Leg"))) 1 := ⟨(xw_at tW_9 10 rfl), (xw_at tW_9 11 rfl), ⟨(xw_at tW_0 17 rfl), (xw_at tW_9 12 rfl), by decide +kernel, by decide +kernel⟩⟩
theorem myX2_setClosed : xMV yX2_setClosed cX2_setClosed 4 ((some FieldType.boolean)) 2 := ⟨(xw_at tW_9 14 rfl), (xw_at tW_9 15 rfl), ⟨(xw_at tW_0 17 rfl), (xw_at tW_9 16 rfl), by decide +kernel, by decide +kernel⟩⟩
theorem myX2_leastDays : xMV yX2_leastDays cX2_leastDays 3 ((some FieldType.int)) 2 := ⟨(xw_at tW_4 19 rfl), (xw_at tW_4 20 rfl), ⟨(xw_at tW_0 17 rfl), (xw_at tW_4 21 rfl), by decide +kernel, by decide +kernel⟩⟩
theorem myX2_leastDaysOfAllWays : xMV yX2_leastDaysOfAllWays cX2_leastDaysOfAllWays 3 ((some FieldType.int)) 2 := ⟨(xw_at tW_9 22 rfl), (xw_at tW_9 23 rfl), ⟨(xw_at tW_0 17 rfl), (xw_at tW_9 24 rfl), by decide +kernel, by decide +kernel⟩⟩
theorem myX2_onwardLeg : xMV yX2_onwardLeg cX2_onwardLeg 3 ((some FieldType.int)) 2 := ⟨(xw_at tW_4 30 rfl), (xw_at tW_4 31 rfl), ⟨(xw_at tW_0 17 rfl), (xw_at tW_4 32 rfl), by decide +kernel, by decide +kernel⟩⟩
theorem myX2_cell : xMS yX2_cell cX2_cell 2 ((some FieldType.int)) 2 := ⟨(xw_at tW_1 21 rfl), ⟨(xw_at tW_0 17 rfl), (xw_at tW_1 22 rfl), by decide +kernel, by decide +kernel⟩⟩
theorem myX2_noneIfFar : xMS yX2_noneIfFar cX2_noneIfFar 1 ((some FieldType.int)) 1 := ⟨(xw_at tW_4 23 rfl), ⟨(xw_at tW_0 17 rfl), (xw_at tW_4 24 rfl), by decide +kernel, by decide +kernel⟩⟩
theorem myX2_leastOfWays : xMS yX2_leastOfWays cX2_leastOfWays 9 ((some FieldType.int)) 5 := ⟨(xw_at tW_9 26 rfl), ⟨(xw_at tW_0 17 rfl), (xw_at tW_9 27 rfl), by decide +kernel, by decide +kernel⟩⟩
theorem myX2_reckon : xMV yX2_reckon cX2_reckon 1 ((none : Option FieldType)) 0 := ⟨(xw_at tW_1 8 rfl), (xw_at tW_0 0 rfl), ⟨(xw_at tW_0 17 rfl), (xw_at tW_1 9 rfl), by decide +kernel, by decide +kernel⟩⟩
theorem myX2_reckonDirect : xMV yX2_reckonDirect cX2_reckonDirect 3 ((none : Option FieldType)) 0 := ⟨(xw_at tW_1 11 rfl), (xw_at tW_0 1 rfl), ⟨(xw_at tW_0 17 rfl), (xw_at tW_1 12 rfl), by decide +kernel, by decide +kernel⟩⟩
theorem myX2_shorten : xMV yX2_shorten cX2_shorten 4 ((none : Option FieldType)) 3 := ⟨(xw_at tW_1 18 rfl), (xw_at tW_0 2 rfl), ⟨(xw_at tW_0 17 rfl), (xw_at tW_1 19 rfl), by decide +kernel, by decide +kernel⟩⟩
theorem myX2_reckonLeast : xMV yX2_reckonLeast cX2_reckonLeast 5 ((none : Option FieldType)) 0 := ⟨(xw_at tW_1 27 rfl), (xw_at tW_0 3 rfl), ⟨(xw_at tW_0 17 rfl), (xw_at tW_1 28 rfl), by decide +kernel, by decide +kernel⟩⟩
theorem myX2_reckonOnward : xMV yX2_reckonOnward cX2_reckonOnward 3 ((none : Option FieldType)) 0 := ⟨(xw_at tW_1 33 rfl), (xw_at tW_0 4 rfl), ⟨(xw_at tW_0 17 rfl), (xw_at tW_1 34 rfl), by decide +kernel, by decide +kernel⟩⟩
theorem myX2_firstLegOf : xMV yX2_firstLegOf cX2_firstLegOf 8 ((some FieldType.int)) 2 := ⟨(xw_at tW_1 36 rfl), (xw_at tW_0 5 rfl), ⟨(xw_at tW_0 17 rfl), (xw_at tW_1 37 rfl), by decide +kernel, by decide +kernel⟩⟩
theorem myX3_init : xMI yX3_init cX3_init 7 6 := ⟨(xw_at tW_12 19 rfl), rfl, ⟨(xw_at tW_0 29 rfl), (xw_at tW_12 20 rfl), by decide +kernel, by decide +kernel⟩⟩
theorem myX3_isUnderWay : xMV yX3_isUnderWay cX3_isUnderWay 1 ((some FieldType.boolean)) 0 := ⟨(xw_at tW_9 36 rfl), (xw_at tW_9 37 rfl), ⟨(xw_at tW_0 29 rfl), (xw_at tW_9 38 rfl), by decide +kernel, by decide +kernel⟩⟩
theorem myX3_taxOfNow : xMV yX3_taxOfNow cX3_taxOfNow 4 ((some FieldType.long)) 0 := ⟨(xw_at tW_5 38 rfl), (xw_at tW_5 39 rfl), ⟨(xw_at tW_0 29 rfl), (xw_at tW_6 0 rfl), by decide +kernel, by decide +kernel⟩⟩
theorem myX3_departOn : xMV yX3_departOn cX3_departOn 2 ((none : Option FieldType)) 1 := ⟨(xw_at tW_11 9 rfl), (xw_at tW_11 10 rfl), ⟨(xw_at tW_0 29 rfl), (xw_at tW_11 11 rfl), by decide +kernel, by decide +kernel⟩⟩
theorem myX3_arrivesToday : xMV yX3_arrivesToday cX3_arrivesToday 1 ((some FieldType.boolean)) 0 := ⟨(xw_at tW_10 11 rfl), (xw_at tW_10 12 rfl), ⟨(xw_at tW_0 29 rfl), (xw_at tW_10 13 rfl), by decide +kernel, by decide +kernel⟩⟩
theorem myX3_latestHand : xMV yX3_latestHand cX3_latestHand 1 ((some FieldType.int)) 0 := ⟨(xw_at tW_11 21 rfl), (xw_at tW_11 22 rfl), ⟨(xw_at tW_0 29 rfl), (xw_at tW_11 23 rfl), by decide +kernel, by decide +kernel⟩⟩
theorem myX3_sign : xMV yX3_sign cX3_sign 1 ((none : Option FieldType)) 0 := ⟨(xw_at tW_10 15 rfl), (xw_at tW_0 10 rfl), ⟨(xw_at tW_0 29 rfl), (xw_at tW_10 17 rfl), by decide +kernel, by decide +kernel⟩⟩
theorem myX4_init : xMI yX4_init cX4_init 1 0 := ⟨(xw_at tW_0 33 rfl), rfl, ⟨(xw_at tW_0 16 rfl), (xw_at tW_0 34 rfl), by decide +kernel, by decide +kernel⟩⟩
theorem myX4_post : xMV yX4_post cX4_post 1 ((some FieldType.int)) 0 := ⟨(xw_at tW_6 21 rfl), (xw_at tW_6 22 rfl), ⟨(xw_at tW_0 16 rfl), (xw_at tW_6 23 rfl), by decide +kernel, by decide +kernel⟩⟩
theorem myX4_rates : xMV yX4_rates cX4_rates 6 ((none : Option FieldType)) 4 := ⟨(xw_at tW_7 38 rfl), (xw_at tW_7 39 rfl), ⟨(xw_at tW_0 16 rfl), (xw_at tW_8 0 rfl), by decide +kernel, by decide +kernel⟩⟩
theorem myX4_due : xMV yX4_due cX4_due 6 ((some FieldType.int)) 3 := ⟨(xw_at tW_8 2 rfl), (xw_at tW_8 3 rfl), ⟨(xw_at tW_0 16 rfl), (xw_at tW_8 4 rfl), by decide +kernel, by decide +kernel⟩⟩
theorem myX4_charge : xMV yX4_charge cX4_charge 5 ((some FieldType.int)) 2 := ⟨(xw_at tW_8 6 rfl), (xw_at tW_8 7 rfl), ⟨(xw_at tW_0 16 rfl), (xw_at tW_8 8 rfl), by decide +kernel, by decide +kernel⟩⟩
theorem myX4_coupon : xMV yX4_coupon cX4_coupon 5 ((some FieldType.int)) 2 := ⟨(xw_at tW_8 10 rfl), (xw_at tW_8 11 rfl), ⟨(xw_at tW_0 16 rfl), (xw_at tW_8 12 rfl), by decide +kernel, by decide +kernel⟩⟩
theorem myX4_strike : xMV yX4_strike cX4_strike 5 ((some FieldType.boolean)) 2 := ⟨(xw_at tW_8 14 rfl), (xw_at tW_8 15 rfl), ⟨(xw_at tW_0 16 rfl), (xw_at tW_8 16 rfl), by decide +kernel, by decide +kernel⟩⟩
theorem myX4_leg : xMV yX4_leg cX4_leg 7 ((some FieldType.int)) 3 := ⟨(xw_at tW_8 18 rfl), (xw_at tW_8 19 rfl), ⟨(xw_at tW_0 16 rfl), (xw_at tW_8 20 rfl), by decide +kernel, by decide +kernel⟩⟩
theorem myX4_close : xMV yX4_close cX4_close 4 ((some FieldType.boolean)) 2 := ⟨(xw_at tW_9 6 rfl), (xw_at tW_9 7 rfl), ⟨(xw_at tW_0 16 rfl), (xw_at tW_9 8 rfl), by decide +kernel, by decide +kernel⟩⟩
theorem myX4_days : xMV yX4_days cX4_days 3 ((some FieldType.int)) 2 := ⟨(xw_at tW_4 15 rfl), (xw_at tW_4 16 rfl), ⟨(xw_at tW_0 16 rfl), (xw_at tW_4 17 rfl), by decide +kernel, by decide +kernel⟩⟩
theorem myX4_daysAnew : xMV yX4_daysAnew cX4_daysAnew 3 ((some FieldType.int)) 2 := ⟨(xw_at tW_9 18 rfl), (xw_at tW_9 19 rfl), ⟨(xw_at tW_0 16 rfl), (xw_at tW_9 20 rfl), by decide +kernel, by decide +kernel⟩⟩
theorem myX4_next : xMV yX4_next cX4_next 3 ((some FieldType.int)) 2 := ⟨(xw_at tW_4 26 rfl), (xw_at tW_4 27 rfl), ⟨(xw_at tW_0 16 rfl), (xw_at tW_4 28 rfl), by decide +kernel, by decide +kernel⟩⟩
theorem myX4_mail : xMV yX4_mail cX4_mail 10 ((some FieldType.int)) 6 := ⟨(xw_at tW_12 11 rfl), (xw_at tW_12 12 rfl), ⟨(xw_at tW_0 16 rfl), (xw_at tW_12 13 rfl), by decide +kernel, by decide +kernel⟩⟩
theorem myX4_redirect : xMV yX4_redirect cX4_redirect 6 ((some FieldType.int)) 2 := ⟨(xw_at tW_9 29 rfl), (xw_at tW_9 30 rfl), ⟨(xw_at tW_0 16 rfl), (xw_at tW_9 31 rfl), by decide +kernel, by decide +kernel⟩⟩
theorem myX4_refuse : xMV yX4_refuse cX4_refuse 5 ((some FieldType.boolean)) 2 := ⟨(xw_at tW_10 0 rfl), (xw_at tW_10 1 rfl), ⟨(xw_at tW_0 16 rfl), (xw_at tW_10 2 rfl), by decide +kernel, by decide +kernel⟩⟩
theorem myX4_go : xMV yX4_go cX4_go 4 ((some FieldType.int)) 1 := ⟨(xw_at tW_10 4 rfl), (xw_at tW_10 5 rfl), ⟨(xw_at tW_0 16 rfl), (xw_at tW_10 6 rfl), by decide +kernel, by decide +kernel⟩⟩
theorem myX4_lose : xMV yX4_lose cX4_lose 3 ((some FieldType.int)) 1 := ⟨(xw_at tW_11 17 rfl), (xw_at tW_11 18 rfl), ⟨(xw_at tW_0 16 rfl), (xw_at tW_11 19 rfl), by decide +kernel, by decide +kernel⟩⟩
theorem myX4_claim : xMV yX4_claim cX4_claim 4 ((some FieldType.int)) 1 := ⟨(xw_at tW_11 25 rfl), (xw_at tW_11 26 rfl), ⟨(xw_at tW_0 16 rfl), (xw_at tW_11 27 rfl), by decide +kernel, by decide +kernel⟩⟩
theorem myX4_sample : xMV yX4_sample cX4_sample 3 ((some FieldType.boolean)) 1 := ⟨(xw_at tW_11 33 rfl), (xw_at tW_11 34 rfl), ⟨(xw_at tW_0 16 rfl), (xw_at tW_11 35 rfl), by decide +kernel, by decide +kernel⟩⟩
theorem myX4_settle : xMV yX4_settle cX4_settle 6 ((some FieldType.long)) 1 := ⟨(xw_at tW_13 39 rfl), (xw_at tW_14 0 rfl), ⟨(xw_at tW_0 16 rfl), (xw_at tW_14 1 rfl), by decide +kernel, by decide +kernel⟩⟩
theorem myX4_rate : xMV yX4_rate cX4_rate 6 ((some FieldType.int)) 4 := ⟨(xw_at tW_4 39 rfl), (xw_at tW_5 0 rfl), ⟨(xw_at tW_0 16 rfl), (xw_at tW_5 1 rfl), by decide +kernel, by decide +kernel⟩⟩
theorem myX4_ofThing : xMV yX4_ofThing cX4_ofThing 4 ((some FieldType.long)) 2 := ⟨(xw_at tW_5 31 rfl), (xw_at tW_5 32 rfl), ⟨(xw_at tW_0 16 rfl), (xw_at tW_5 33 rfl), by decide +kernel, by decide +kernel⟩⟩
theorem myX4_hand : xMV yX4_hand cX4_hand 4 ((some FieldType.int)) 2 := ⟨(xw_at tW_11 37 rfl), (xw_at tW_11 38 rfl), ⟨(xw_at tW_0 16 rfl), (xw_at tW_11 39 rfl), by decide +kernel, by decide +kernel⟩⟩
theorem myX4_account : xMV yX4_account cX4_account 2 ((some FieldType.long)) 1 := ⟨(xw_at tW_2 36 rfl), (xw_at tW_2 37 rfl), ⟨(xw_at tW_0 16 rfl), (xw_at tW_2 38 rfl), by decide +kernel, by decide +kernel⟩⟩
theorem myX4_till : xMV yX4_till cX4_till 2 ((some FieldType.long)) 1 := ⟨(xw_at tW_4 10 rfl), (xw_at tW_4 11 rfl), ⟨(xw_at tW_0 16 rfl), (xw_at tW_4 12 rfl), by decide +kernel, by decide +kernel⟩⟩
theorem myX4_counted : xMV yX4_counted cX4_counted 5 ((some FieldType.long)) 2 := ⟨(xw_at tW_4 34 rfl), (xw_at tW_4 35 rfl), ⟨(xw_at tW_0 16 rfl), (xw_at tW_4 36 rfl), by decide +kernel, by decide +kernel⟩⟩
theorem myX4_gain : xMV yX4_gain cX4_gain 8 ((some FieldType.int)) 1 := ⟨(xw_at tW_6 3 rfl), (xw_at tW_6 4 rfl), ⟨(xw_at tW_0 16 rfl), (xw_at tW_6 5 rfl), by decide +kernel, by decide +kernel⟩⟩
theorem myX4_postOf : xMV yX4_postOf cX4_postOf 2 ((some (FieldType.object "Postunion$Post"))) 1 := ⟨(xw_at tW_3 0 rfl), (xw_at tW_0 6 rfl), ⟨(xw_at tW_0 16 rfl), (xw_at tW_3 1 rfl), by decide +kernel, by decide +kernel⟩⟩
theorem myX4_thingOf : xMV yX4_thingOf cX4_thingOf 2 ((some (FieldType.object "Postunion$Thing"))) 1 := ⟨(xw_at tW_5 35 rfl), (xw_at tW_0 8 rfl), ⟨(xw_at tW_0 16 rfl), (xw_at tW_5 36 rfl), by decide +kernel, by decide +kernel⟩⟩
theorem myX4_demandWithin : xMS yX4_demandWithin cX4_demandWithin 3 ((none : Option FieldType)) 3 := ⟨(xw_at tW_5 6 rfl), ⟨(xw_at tW_0 16 rfl), (xw_at tW_5 7 rfl), by decide +kernel, by decide +kernel⟩⟩
theorem myX4_demandKind : xMS yX4_demandKind cX4_demandKind 1 ((none : Option FieldType)) 1 := ⟨(xw_at tW_5 3 rfl), ⟨(xw_at tW_0 16 rfl), (xw_at tW_5 4 rfl), by decide +kernel, by decide +kernel⟩⟩
theorem myX4_demandGrams : xMS yX4_demandGrams cX4_demandGrams 2 ((none : Option FieldType)) 2 := ⟨(xw_at tW_5 22 rfl), ⟨(xw_at tW_0 16 rfl), (xw_at tW_5 23 rfl), by decide +kernel, by decide +kernel⟩⟩
theorem myX4_demandChangeable : xMS yX4_demandChangeable cX4_demandChangeable 1 ((none : Option FieldType)) 1 := ⟨(xw_at tW_9 33 rfl), ⟨(xw_at tW_0 16 rfl), (xw_at tW_9 34 rfl), by decide +kernel, by decide +kernel⟩⟩
theorem myX4_moveThoseThatTravel : xMV yX4_moveThoseThatTravel cX4_moveThoseThatTravel 4 ((some FieldType.int)) 0 := ⟨(xw_at tW_10 8 rfl), (xw_at tW_0 9 rfl), ⟨(xw_at tW_0 16 rfl), (xw_at tW_10 9 rfl), by decide +kernel, by decide +kernel⟩⟩
theorem myX4_endAtTarget : xMV yX4_endAtTarget cX4_endAtTarget 4 ((none : Option FieldType)) 1 := ⟨(xw_at tW_10 30 rfl), (xw_at tW_0 11 rfl), ⟨(xw_at tW_0 16 rfl), (xw_at tW_10 31 rfl), by decide +kernel, by decide +kernel⟩⟩
theorem myX4_oweDue : xMV yX4_oweDue cX4_oweDue 3 ((none : Option FieldType)) 1 := ⟨(xw_at tW_10 33 rfl), (xw_at tW_0 12 rfl), ⟨(xw_at tW_0 16 rfl), (xw_at tW_10 34 rfl), by decide +kernel, by decide +kernel⟩⟩
theorem myX4_sendThoseThatWait : xMV yX4_sendThoseThatWait cX4_sendThoseThatWait 3 ((none : Option FieldType)) 0 := ⟨(xw_at tW_10 39 rfl), (xw_at tW_0 13 rfl), ⟨(xw_at tW_0 16 rfl), (xw_at tW_11 0 rfl), by decide +kernel, by decide +kernel⟩⟩
theorem myX4_sendOn : xMV yX4_sendOn cX4_sendOn 3 ((none : Option FieldType)) 1 := ⟨(xw_at tW_11 2 rfl), (xw_at tW_0 14 rfl), ⟨(xw_at tW_0 16 rfl), (xw_at tW_11 3 rfl), by decide +kernel, by decide +kernel⟩⟩
theorem myX4_pay : xMS yX4_pay cX4_pay 4 ((none : Option FieldType)) 3 := ⟨(xw_at tW_10 36 rfl), ⟨(xw_at tW_0 16 rfl), (xw_at tW_10 37 rfl), by decide +kernel, by decide +kernel⟩⟩
theorem myX4_payClaim : xMS yX4_payClaim cX4_payClaim 3 ((some FieldType.int)) 3 := ⟨(xw_at tW_11 30 rfl), ⟨(xw_at tW_0 16 rfl), (xw_at tW_11 31 rfl), by decide +kernel, by decide +kernel⟩⟩
theorem myX4_settlePair : xMS yX4_settlePair cX4_settlePair 5 ((some FieldType.long)) 3 := ⟨(xw_at tW_14 3 rfl), ⟨(xw_at tW_0 16 rfl), (xw_at tW_14 4 rfl), by decide +kernel, by decide +kernel⟩⟩
theorem myX4_gainOf : xMS yX4_gainOf cX4_gainOf 2 ((some FieldType.int)) 2 := ⟨(xw_at tW_6 7 rfl), ⟨(xw_at tW_0 16 rfl), (xw_at tW_6 8 rfl), by decide +kernel, by decide +kernel⟩⟩
theorem myX4_begunParts : xMS yX4_begunParts cX4_begunParts 2 ((some FieldType.int)) 2 := ⟨(xw_at tW_5 28 rfl), ⟨(xw_at tW_0 16 rfl), (xw_at tW_5 29 rfl), by decide +kernel, by decide +kernel⟩⟩
theorem myL_cell : xMS yL_cell cL_cell 3 ((some FieldType.int)) 2 := ⟨(xw_at tW_2 26 rfl), ⟨(xw_at tW_0 15 rfl), xwb_0, by decide +kernel, by decide +kernel⟩⟩
theorem myL_some : xMS yL_some cL_some 2 ((some FieldType.int)) 2 := ⟨(xw_at tW_2 30 rfl), ⟨(xw_at tW_0 15 rfl), xwb_1, by decide +kernel, by decide +kernel⟩⟩
theorem myL_does : xMS yL_does cL_does 6 ((some FieldType.int)) 6 := ⟨(xw_at tW_6 19 rfl), ⟨(xw_at tW_0 15 rfl), xwb_6, by decide +kernel, by decide +kernel⟩⟩
theorem myL_all : xMS yL_all cL_all 6 ((some FieldType.long)) 2 := ⟨(xw_at tW_2 32 rfl), ⟨(xw_at tW_0 15 rfl), xwb_2, by decide +kernel, by decide +kernel⟩⟩
theorem myL_both : xMS yL_both cL_both 8 ((some FieldType.int)) 7 := ⟨(xw_at tW_6 12 rfl), ⟨(xw_at tW_0 15 rfl), xwb_4, by decide +kernel, by decide +kernel⟩⟩
theorem myL_sums : xMS yL_sums cL_sums 6 ((some FieldType.long)) 3 := ⟨(xw_at tW_13 29 rfl), ⟨(xw_at tW_0 15 rfl), xwb_11, by decide +kernel, by decide +kernel⟩⟩
theorem myL_posts : xMS yL_posts cL_posts 12 ((some FieldType.boolean)) 5 := ⟨(xw_at tW_6 10 rfl), ⟨(xw_at tW_0 15 rfl), xwb_3, by decide +kernel, by decide +kernel⟩⟩
theorem myL_ways : xMS yL_ways cL_ways 11 ((some FieldType.boolean)) 4 := ⟨(xw_at tW_12 5 rfl), ⟨(xw_at tW_0 15 rfl), xwb_7, by decide +kernel, by decide +kernel⟩⟩
theorem myL_mails : xMS yL_mails cL_mails 14 ((some FieldType.boolean)) 4 := ⟨(xw_at tW_12 7 rfl), ⟨(xw_at tW_0 15 rfl), xwb_8, by decide +kernel, by decide +kernel⟩⟩
theorem myL_goes : xMS yL_goes cL_goes 18 ((some FieldType.boolean)) 4 := ⟨(xw_at tW_13 27 rfl), ⟨(xw_at tW_0 15 rfl), xwb_10, by decide +kernel, by decide +kernel⟩⟩
theorem myL_things : xMS yL_things cL_things 17 ((some FieldType.boolean)) 5 := ⟨(xw_at tW_13 31 rfl), ⟨(xw_at tW_0 15 rfl), xwb_12, by decide +kernel, by decide +kernel⟩⟩
theorem myL_settles : xMS yL_settles cL_settles 12 ((some FieldType.boolean)) 5 := ⟨(xw_at tW_13 35 rfl), ⟨(xw_at tW_0 15 rfl), xwb_13, by decide +kernel, by decide +kernel⟩⟩
theorem myL_refused : xMS yL_refused cL_refused 5 ((some FieldType.boolean)) 2 := ⟨(xw_at tW_14 8 rfl), ⟨(xw_at tW_0 15 rfl), xwb_15, by decide +kernel, by decide +kernel⟩⟩
theorem hinX0 : ∀ w ∈ wsX00, w ∈ BG := by
  intro w hw
  obtain ⟨j, hj, rfl⟩ := List.mem_map.mp hw
  have hj := List.mem_range.mp hj
  match j, hj with
  | 0, _ => exact xw_at tW_9 1 rfl
  | 1, _ => exact xw_at tW_9 2 rfl
  | 2, _ => exact xw_at tW_9 3 rfl
  | 3, _ => exact xw_at tW_9 4 rfl
  | j + 4, hj => exact absurd hj (by omega)
theorem hinX1 : ∀ w ∈ wsX10, w ∈ BG := by
  intro w hw
  obtain ⟨j, hj, rfl⟩ := List.mem_map.mp hw
  have hj := List.mem_range.mp hj
  match j, hj with
  | 0, _ => exact xw_at tW_7 26 rfl
  | 1, _ => exact xw_at tW_7 27 rfl
  | 2, _ => exact xw_at tW_7 28 rfl
  | 3, _ => exact xw_at tW_7 29 rfl
  | 4, _ => exact xw_at tW_7 30 rfl
  | 5, _ => exact xw_at tW_7 31 rfl
  | 6, _ => exact xw_at tW_7 32 rfl
  | 7, _ => exact xw_at tW_7 33 rfl
  | 8, _ => exact xw_at tW_7 34 rfl
  | 9, _ => exact xw_at tW_7 35 rfl
  | j + 10, hj => exact absurd hj (by omega)
theorem hinX2 : ∀ w ∈ wsX20, w ∈ BG := by
  intro w hw
  obtain ⟨j, hj, rfl⟩ := List.mem_map.mp hw
  have hj := List.mem_range.mp hj
  match j, hj with
  | 0, _ => exact xw_at tW_2 7 rfl
  | 1, _ => exact xw_at tW_2 8 rfl
  | 2, _ => exact xw_at tW_2 9 rfl
  | 3, _ => exact xw_at tW_2 10 rfl
  | 4, _ => exact xw_at tW_2 11 rfl
  | j + 5, hj => exact absurd hj (by omega)
theorem hinX3 : ∀ w ∈ wsX30, w ∈ BG := by
  intro w hw
  obtain ⟨j, hj, rfl⟩ := List.mem_map.mp hw
  have hj := List.mem_range.mp hj
  match j, hj with
  | 0, _ => exact xw_at tW_13 11 rfl
  | 1, _ => exact xw_at tW_13 12 rfl
  | 2, _ => exact xw_at tW_13 13 rfl
  | 3, _ => exact xw_at tW_13 14 rfl
  | 4, _ => exact xw_at tW_13 15 rfl
  | 5, _ => exact xw_at tW_13 16 rfl
  | 6, _ => exact xw_at tW_13 17 rfl
  | 7, _ => exact xw_at tW_13 18 rfl
  | 8, _ => exact xw_at tW_13 19 rfl
  | 9, _ => exact xw_at tW_13 20 rfl
  | 10, _ => exact xw_at tW_13 21 rfl
  | 11, _ => exact xw_at tW_13 22 rfl
  | 12, _ => exact xw_at tW_13 23 rfl
  | 13, _ => exact xw_at tW_13 24 rfl
  | 14, _ => exact xw_at tW_13 25 rfl
  | j + 15, hj => exact absurd hj (by omega)
theorem hinX4 : ∀ w ∈ wsX40, w ∈ BG := by
  intro w hw
  obtain ⟨j, hj, rfl⟩ := List.mem_map.mp hw
  have hj := List.mem_range.mp hj
  match j, hj with
  | 0, _ => exact xw_at tW_2 19 rfl
  | 1, _ => exact xw_at tW_2 20 rfl
  | 2, _ => exact xw_at tW_2 21 rfl
  | 3, _ => exact xw_at tW_2 22 rfl
  | 4, _ => exact xw_at tW_2 23 rfl
  | 5, _ => exact xw_at tW_2 24 rfl
  | j + 6, hj => exact absurd hj (by omega)
