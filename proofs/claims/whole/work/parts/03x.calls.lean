theorem BG_sub {l : List Cond} (h : ∀ w ∈ l, w ∈ BG) : GoodIn BG l := fun w hw => ⟨h w hw, good_of_word (List.mem_filter.mp (h w hw)).2⟩
def xMB (y : MethodName) (cb : ByteArray) (nL : Nat) (ret : Option FieldType) (n : Nat) : Prop := Cond.initialized y.cls ∈ BG ∧ Cond.code y cb nL ret ∈ BG ∧ (y.cls ≠ "java/lang/invoke/MethodHandle" ∧ y.cls ≠ "java/lang/invoke/VarHandle" ∧ (parseMethodDescriptor y.desc).map (fun d => d.parameters.length) = some n) ∧ plainName y.cls = true
def xMV (y : MethodName) (cb : ByteArray) (nL : Nat) (ret : Option FieldType) (n : Nat) : Prop := Cond.instanceMethod y ∈ BG ∧ Cond.selects y.cls y y ∈ BG ∧ xMB y cb nL ret n
def xMS (y : MethodName) (cb : ByteArray) (nL : Nat) (ret : Option FieldType) (n : Nat) : Prop := Cond.static y ∈ BG ∧ xMB y cb nL ret n
def xMI (y : MethodName) (cb : ByteArray) (nL : Nat) (n : Nat) : Prop := Cond.instanceMethod y ∈ BG ∧ y.name = "<init>" ∧ xMB y cb nL none n
theorem YM_of {l : Launch} {y : MethodName} {cc : ByteArray} {nL : Nat} {ret : Option FieldType} {fr lo ce sl : Nat} {Z : xZ} {B0 : Nat} {av : List Value} {lay : xK → Nat} {C : xK → Option xE} {post : Option Value → (xK → Nat) → (xK → Option xE) → Prop} {n : Nat} (M : xMB y cc nL ret n) (own : String) (hown : y.cls = own) (lv0 : List (Option Value)) (hlv : xl lv0 0 = lv_args 0 av) (hlen : (lg_sl av).length ≤ nL)
    (body : ∀ (p : Program) (e : Env) (s : State) (m : MethodId) (args : Array Value) (below : List Frame) (meth : Method) (c : Code), Cx p m meth c cc nL s args own Z B0 → meth.sig.returnType = ret → meth.name = y.name → V p l e { frames := fr, cells := ce, slots := sl, locals := lo } s m args below meth c (MQ below (yQ Z B0 post) args s ce sl (fun q => B0 ≤ q)) Z B0 nL lay C 0 0 0 lv0 []) : YM l y cc nL ret fr lo ce sl Z B0 av lay C post := by
  refine Met.ofW (cc := cc) (maxL := nL) (ret := ret) M.2.2.2 rfl ?_
  intro p e s m args below meth c s₁ B hml hv
  obtain ⟨rfl, hP, hKn, hB⟩ := hv
  have X : Cx p m meth c cc nL s av.toArray own Z B0 := ⟨⟨B.exec, B.bytes, hml, by rw [← hown]; exact findClass_of_methodNamed B.named, fun w hw => atoms_spec (ws := Cond.code y cc nL ret :: BG) B.pre w (List.mem_cons_of_mem _ hw)⟩, hKn, hB, B.notSynchronized⟩
  rw [lg_entry_eq]
  exact body p e s m av.toArray below meth c X B.returns (name_of_methodNamed B.named B.method).1 _ s.heap [] (by rw [hlv]; exact lv_entry av hlen) hP va_S.rf
section XC
variable {p : Program} {l : Launch} {e : Env} {R : Room} {s : State} {m : MethodId} {args : Array Value} {below : List Frame} {meth : Method} {c : Code} {Q : State → Prop} {Z : xZ} {B0 nL : Nat} {lay : xK → Nat} {C : xK → Option xE} {cells slots pc : Nat} {lv : List (Option Value)} {rest st : List Value} {cc : ByteArray} {own : String} {post : Option Value → (xK → Nat) → (xK → Option xE) → Prop} {ce sl : Nat}
theorem v_iret (X : Cx p m meth c cc nL s args own Z B0) (hr : meth.sig.returnType = some .int) {v : Int32} (hdg : decode cc pc = .ok (.ireturn, 1)) (h1 : cells ≤ ce) (h2 : slots ≤ sl) (hp : post (some (.int v)) lay C) : V p l e R s m args below meth c (MQ below (yQ Z B0 post) args s ce sl (fun q => B0 ≤ q)) Z B0 nL lay C cells slots pc lv [.int v] :=
  fun ls H locs hl hP hS => W.widen h1 h2 (W.iret X.1.1 X.1.2.1 hr (fun t ht hW => ⟨⟨_, lay, C, rfl, hp, by rw [ht]; exact hP⟩, hS.F ht⟩) hS.2.2 hdg X.2.2.2)
theorem v_zret (X : Cx p m meth c cc nL s args own Z B0) (hr : meth.sig.returnType = some .boolean) {v : Int32} (hdg : decode cc pc = .ok (.ireturn, 1)) (h1 : cells ≤ ce) (h2 : slots ≤ sl) (hn : narrow .boolean (.int v) = .int v) (hp : post (some (.int v)) lay C) : V p l e R s m args below meth c (MQ below (yQ Z B0 post) args s ce sl (fun q => B0 ≤ q)) Z B0 nL lay C cells slots pc lv [.int v] :=
  fun ls H locs hl hP hS => W.widen h1 h2 (W.zret X.1.1 X.1.2.1 hr hn (fun t ht hW => ⟨⟨_, lay, C, rfl, hp, by rw [ht]; exact hP⟩, hS.F ht⟩) hS.2.2 hdg X.2.2.2)
theorem v_lret (X : Cx p m meth c cc nL s args own Z B0) (hr : meth.sig.returnType = some .long) {v : Int64} (hdg : decode cc pc = .ok (.lreturn, 1)) (h1 : cells ≤ ce) (h2 : slots ≤ sl) (hp : post (some (.long v)) lay C) : V p l e R s m args below meth c (MQ below (yQ Z B0 post) args s ce sl (fun q => B0 ≤ q)) Z B0 nL lay C cells slots pc lv [.long v] :=
  fun ls H locs hl hP hS => W.widen h1 h2 (W.lret X.1.1 X.1.2.1 hr (fun t ht hW => ⟨⟨_, lay, C, rfl, hp, by rw [ht]; exact hP⟩, hS.F ht⟩) hS.2.2 hdg X.2.2.2)
theorem v_vret (X : Cx p m meth c cc nL s args own Z B0) (hr : meth.sig.returnType = none) (hdg : decode cc pc = .ok (.return_, 1)) (h1 : cells ≤ ce) (h2 : slots ≤ sl) (hp : post none lay C) : V p l e R s m args below meth c (MQ below (yQ Z B0 post) args s ce sl (fun q => B0 ≤ q)) Z B0 nL lay C cells slots pc lv [] :=
  fun ls H locs hl hP hS => W.widen h1 h2 (W.vret X.1.1 X.1.2.1 hr (fun t ht hW => ⟨⟨_, lay, C, rfl, hp, by rw [ht]; exact hP⟩, hS.F ht⟩) hS.2.2 hdg X.2.2.2)
theorem v_aret (X : Cx p m meth c cc nL s args own Z B0) {cn : String} (hr : meth.sig.returnType = some (.object cn)) {v : Value} (hv : v = .null ∨ ∃ a, v = .ref a) (hdg : decode cc pc = .ok (.areturn, 1)) (h1 : cells ≤ ce) (h2 : slots ≤ sl) (hp : post (some v) lay C) : V p l e R s m args below meth c (MQ below (yQ Z B0 post) args s ce sl (fun q => B0 ≤ q)) Z B0 nL lay C cells slots pc lv [v] :=
  fun ls H locs hl hP hS => W.widen h1 h2 (W.aret X.1.1 X.1.2.1 hr (Or.inl ⟨_, rfl⟩) hv (fun t ht hW => ⟨⟨_, lay, C, rfl, hp, by rw [ht]; exact hP⟩, hS.F ht⟩) hS.2.2 hdg X.2.2.2)
theorem x_call {H : Heap} {locs : List Loc} {ls : Array Slot} {st0 : List Value} {a : Array Value} (hr : va_Run p l e R s m args below meth c H locs cells slots ce sl (F0 m pc ls st0) rest (yQ Z B0 post a) (fun q => B0 ≤ q)) (hB : B0 ≤ s.heap.size) (hS : va_S (fun q => B0 ≤ q) s.heap H locs) (hl : lv_has ls nL (xl lv 0))
    (kk : ∀ (v : Option Value) (lay' : xK → Nat) (C' : xK → Option xE), post v lay' C' → V p l e R s m args below meth c Q Z B0 nL lay' C' (cells + ce) (slots + sl) (pc + 3) lv (v.toList ++ rest)) : W p l e R s m args below meth c H locs cells slots Q (F0 m pc ls st0) := by
  intro T hT X
  obtain ⟨v, st₀, t, T', L, h0, X', hL, e1, e2, ⟨⟨v', lay', C', hv, hp, hP'⟩, hz, hk⟩, st⟩ := hr T hT X
  cases hv
  rw [h0] at hz hk
  obtain ⟨t2, a1, b1⟩ := kk v lay' C' hp ls T'.heap (locs ++ L) hl (by rw [e1]; exact hP')
    ⟨Nat.le_trans hS.1 (by rw [e1]; exact hz), fun q h1 h2 => by rw [e1, hk q (Nat.lt_of_lt_of_le h1 hS.1) h2]; exact hS.2.1 q h1 h2, fun q hq => by
      rcases List.mem_append.mp hq with h | h
      · exact hS.2.2 q h
      · exact hL q h⟩ T' rfl X'
  exact ⟨t2, st t2 a1, b1⟩
variable {y : MethodName} {cb : ByteArray} {nLb fr lo n : Nat} {ret : Option FieldType}
theorem v_callV (X : Cx p m meth c cc nL s args own Z B0) (M : xMV y cb nLb ret n) {b : Nat} (As : List Value) (rest : List Value) (h : YM l y cb nLb ret fr lo ce sl Z B0 (.ref b :: As) lay C post) {index : Nat} (hlink : Cond.methodLink own index y ∈ BG) (k : xK) {ci : Nat} {f : Nat → Value} (he : C k = some (.inr (ci, f))) (ha : lay k = b) {T : u_T} {N : Nat} {cn : String} (hc : vwCl[ci]? = some (cn, T, N)) (hcn : cn = y.cls) (hn : As.length = n) (hst : st = As.reverse ++ .ref b :: rest) (hW : (rest.map fun v => v.category).sum ≤ 8) (hdg : decode cc pc = .ok (.invokevirtual index, 3)) (hR : fr + 1 ≤ R.frames ∧ 8 + (nLb + 11) + lo ≤ R.locals) (hf : cells + ce ≤ R.cells ∧ slots + sl ≤ R.slots)
    (kk : ∀ (v : Option Value) (lay' : xK → Nat) (C' : xK → Option xE), post v lay' C' → V p l e R s m args below meth c Q Z B0 nL lay' C' (cells + ce) (slots + sl) (pc + 3) lv (v.toList ++ rest)) : V p l e R s m args below meth c Q Z B0 nL lay C cells slots pc lv st := by
  intro ls H locs hl hP hS
  subst ha hcn hst
  refine x_call (va_runV (C := y.cls) (n := n) (As := As) (rest := rest) X.1 h (cwV n X.1.2.2.2.2 (BG_sub (fun w hw => ?_)) rfl rfl rfl ⟨rfl, M.2.2.2.2.1⟩ hR) ⟨yP.blind, ?_, fun U hU hW9 => ⟨rfl, by rw [hU]; exact hP, X.2.1.warm hW9, by rw [hU]; exact Nat.le_trans X.2.2.1 hS.1⟩⟩ rfl hn hl.1 rfl (lv_room hW) hdg hf) X.2.2.1 hS hl kk
  · rcases List.mem_append.mp hw with hw | hw
    · simp only [List.mem_cons, List.not_mem_nil, or_false] at hw
      rcases hw with rfl | rfl | rfl | rfl
      · exact hlink
      · exact M.1
      · exact M.2.1
      · exact M.2.2.1
    · rcases List.mem_cons.mp hw with rfl | hw
      · exact M.2.2.2.1
      · exact hw
  · obtain ⟨r, h1, cell, q1, q2, q3, -⟩ := hP.1 k _ he
    cases h1.symm.trans hc
    exact ⟨cell, q1, by rw [q3]; rfl, by rw [q2]; exact (X.2.1.1.1 ci _ hc).2.1⟩
theorem v_callS (X : Cx p m meth c cc nL s args own Z B0) (M : xMS y cb nLb ret n) (As : List Value) (rest : List Value) (h : YM l y cb nLb ret fr lo ce sl Z B0 As lay C post) {index : Nat} (hlink : Cond.methodLink own index y ∈ BG) (hown : y.cls = own) (hn : As.length = n) (hst : st = As.reverse ++ rest) (hW : (rest.map fun v => v.category).sum ≤ 8) (hdg : decode cc pc = .ok (.invokestatic index, 3)) (hR : fr + 1 ≤ R.frames ∧ 8 + (nLb + 11) + lo ≤ R.locals) (hf : cells + ce ≤ R.cells ∧ slots + sl ≤ R.slots)
    (kk : ∀ (v : Option Value) (lay' : xK → Nat) (C' : xK → Option xE), post v lay' C' → V p l e R s m args below meth c Q Z B0 nL lay' C' (cells + ce) (slots + sl) (pc + 3) lv (v.toList ++ rest)) : V p l e R s m args below meth c Q Z B0 nL lay C cells slots pc lv st := by
  intro ls H locs hl hP hS
  subst hst
  refine x_call (va_runS (n := n) (As := As) (rest := rest) X.1 h (cwS n X.1.2.2.2.2 (BG_sub (fun w hw => ?_)) rfl rfl rfl ⟨hown, M.2.2.2.1⟩ hR) ⟨yP.blind, fun U hU hW9 => ⟨rfl, by rw [hU]; exact hP, X.2.1.warm hW9, by rw [hU]; exact Nat.le_trans X.2.2.1 hS.1⟩⟩ rfl hn hl.1 rfl (lv_room hW) hdg hf) X.2.2.1 hS hl kk
  rcases List.mem_append.mp hw with hw | hw
  · simp only [List.mem_cons, List.not_mem_nil, or_false] at hw
    rcases hw with rfl | rfl | rfl
    · exact hlink
    · exact M.1
    · rw [← hown]; exact M.2.1
  · rcases List.mem_cons.mp hw with rfl | hw
    · exact M.2.2.1
    · exact hw
theorem v_callI (X : Cx p m meth c cc nL s args own Z B0) (M : xMI y cb nLb n) {b : Nat} (As : List Value) (rest : List Value) (h : YM l y cb nLb none fr lo ce sl Z B0 (.ref b :: As) lay C post) {index : Nat} (hlink : Cond.methodLink own index y ∈ BG) (hn : As.length = n) (hst : st = As.reverse ++ .ref b :: rest) (hW : (rest.map fun v => v.category).sum ≤ 8) (hdg : decode cc pc = .ok (.invokespecial index, 3)) (hR : fr + 1 ≤ R.frames ∧ 8 + (nLb + 11) + lo ≤ R.locals) (hf : cells + ce ≤ R.cells ∧ slots + sl ≤ R.slots)
    (kk : ∀ (v : Option Value) (lay' : xK → Nat) (C' : xK → Option xE), post v lay' C' → V p l e R s m args below meth c Q Z B0 nL lay' C' (cells + ce) (slots + sl) (pc + 3) lv (v.toList ++ rest)) : V p l e R s m args below meth c Q Z B0 nL lay C cells slots pc lv st := by
  intro ls H locs hl hP hS
  subst hst
  exact x_call (va_runI (n := n) (As := As) (rest := rest) X.1 h (cwI n X.1.2.2.2.2 (BG_good M.2.2.2.1) rfl rfl rfl (X.1.2.2.2.2 _ M.2.2.1) (X.1.2.2.2.2 _ hlink) (X.1.2.2.2.2 _ M.1) M.2.1 M.2.2.2.2.1 hR) ⟨yP.blind, fun U hU hW9 => ⟨rfl, by rw [hU]; exact hP, X.2.1.warm hW9, by rw [hU]; exact Nat.le_trans X.2.2.1 hS.1⟩⟩ rfl hn hl.1 rfl (lv_room hW) hdg hf) X.2.2.1 hS hl kk
/-- a nest mate's private static method -/
theorem v_callSN (X : Cx p m meth c cc nL s args own Z B0) (M : xMS y cb nLb ret n) (As : List Value) (rest : List Value) (h : YM l y cb nLb ret fr lo ce sl Z B0 As lay C post) {index : Nat} {host : String} (hlink : xNest = Cond.methodLinkNest own index y host) (hn : As.length = n) (hst : st = As.reverse ++ rest) (hW : (rest.map fun v => v.category).sum ≤ 8) (hdg : decode cc pc = .ok (.invokestatic index, 3)) (hR : fr + 1 ≤ R.frames ∧ 8 + (nLb + 11) + lo ≤ R.locals) (hf : cells + ce ≤ R.cells ∧ slots + sl ≤ R.slots)
    (kk : ∀ (v : Option Value) (lay' : xK → Nat) (C' : xK → Option xE), post v lay' C' → V p l e R s m args below meth c Q Z B0 nL lay' C' (cells + ce) (slots + sl) (pc + 3) lv (v.toList ++ rest)) : V p l e R s m args below meth c Q Z B0 nL lay C cells slots pc lv st := by
  intro ls H locs hl hP hS
  subst hst
  exact x_call (va_runSN (n := n) (As := As) (rest := rest) X.1 h ⟨va_cnB n X.1.2.2.2.2 (BG_good M.2.2.1) rfl rfl rfl (hlink ▸ X.2.1.2) (X.1.2.2.2.2 _ M.2.1) M.2.2.2.1 hR, X.1.2.2.2.2 _ M.1, trivial⟩ ⟨yP.blind, fun U hU hW9 => ⟨rfl, by rw [hU]; exact hP, X.2.1.warm hW9, by rw [hU]; exact Nat.le_trans X.2.2.1 hS.1⟩⟩ rfl hn hl.1 rfl (lv_room hW) hdg hf) X.2.2.1 hS hl kk
end XC
theorem myX0_init : xMI yX0_init cX0_init 4 3 := ⟨(xw_at tW_7 28 rfl), rfl, ⟨(xw_at tW_1 7 rfl), (xw_at tW_7 29 rfl), by decide +kernel, by decide +kernel⟩⟩
theorem myX0_farEnd : xMV yX0_farEnd cX0_farEnd 2 ((some (FieldType.object "Postunion$Post"))) 1 := ⟨(xw_at tW_13 10 rfl), (xw_at tW_13 11 rfl), ⟨(xw_at tW_1 7 rfl), (xw_at tW_13 12 rfl), by decide +kernel, by decide +kernel⟩⟩
theorem myX0_leadsTo : xMV yX0_leadsTo cX0_leadsTo 2 ((some FieldType.int)) 1 := ⟨(xw_at tW_2 18 rfl), (xw_at tW_2 19 rfl), ⟨(xw_at tW_1 7 rfl), (xw_at tW_2 20 rfl), by decide +kernel, by decide +kernel⟩⟩
theorem myX1_init : xMI yX1_init cX1_init 2 1 := ⟨(xw_at tW_4 25 rfl), rfl, ⟨(xw_at tW_1 4 rfl), (xw_at tW_4 26 rfl), by decide +kernel, by decide +kernel⟩⟩
theorem myX1_rateOf : xMV yX1_rateOf cX1_rateOf 5 ((some FieldType.int)) 3 := ⟨(xw_at tW_9 32 rfl), (xw_at tW_9 33 rfl), ⟨(xw_at tW_1 4 rfl), (xw_at tW_9 34 rfl), by decide +kernel, by decide +kernel⟩⟩
theorem myX1_chargeFor : xMV yX1_chargeFor cX1_chargeFor 2 ((some FieldType.long)) 1 := ⟨(xw_at tW_13 2 rfl), (xw_at tW_13 3 rfl), ⟨(xw_at tW_1 4 rfl), (xw_at tW_13 4 rfl), by decide +kernel, by decide +kernel⟩⟩
theorem myX2_init : xMI yX2_init cX2_init 1 0 := ⟨(xw_at tW_1 22 rfl), rfl, ⟨(xw_at tW_0 35 rfl), (xw_at tW_1 23 rfl), by decide +kernel, by decide +kernel⟩⟩
theorem myX2_addLeg : xMV yX2_addLeg cX2_addLeg 4 ((some FieldType.int)) 3 := ⟨(xw_at tW_7 23 rfl), (xw_at tW_7 24 rfl), ⟨(xw_at tW_0 35 rfl), (xw_at tW_7 25 rfl), by decide +kernel, by decide +kernel⟩⟩
theorem myX2_legOf : xMV yX2_legOf cX2_legOf 2 ((some (FieldType.object "Postunion$Leg"))) 1 := ⟨(xw_at tW_8 14 rfl), (xw_at tW_8 15 rfl), ⟨(xw_at tW_0 35 rfl), (xw_at tW_8 16 rfl), by decide +kernel, by decide +kernel⟩⟩
theorem myX2_setClosed : xMV yX2_setClosed cX2_setClosed 4 ((some FieldType.boolean)) 2 := ⟨(xw_at tW_8 18 rfl), (xw_at tW_8 19 rfl), ⟨(xw_at tW_0 35 rfl), (xw_at tW_8 20 rfl), by decide +kernel, by decide +kernel⟩⟩
theorem myX2_leastDays : xMV yX2_leastDays cX2_leastDays 3 ((some FieldType.int)) 2 := ⟨(xw_at tW_8 29 rfl), (xw_at tW_8 30 rfl), ⟨(xw_at tW_0 35 rfl), (xw_at tW_8 31 rfl), by decide +kernel, by decide +kernel⟩⟩
theorem myX2_leastDaysOfAllWays : xMV yX2_leastDaysOfAllWays cX2_leastDaysOfAllWays 3 ((some FieldType.int)) 2 := ⟨(xw_at tW_9 3 rfl), (xw_at tW_9 4 rfl), ⟨(xw_at tW_0 35 rfl), (xw_at tW_9 5 rfl), by decide +kernel, by decide +kernel⟩⟩
theorem myX2_onwardLeg : xMV yX2_onwardLeg cX2_onwardLeg 3 ((some FieldType.int)) 2 := ⟨(xw_at tW_9 17 rfl), (xw_at tW_9 18 rfl), ⟨(xw_at tW_0 35 rfl), (xw_at tW_9 19 rfl), by decide +kernel, by decide +kernel⟩⟩
theorem myX2_cell : xMS yX2_cell cX2_cell 2 ((some FieldType.int)) 2 := ⟨(xw_at tW_2 0 rfl), ⟨(xw_at tW_0 35 rfl), (xw_at tW_2 1 rfl), by decide +kernel, by decide +kernel⟩⟩
theorem myX2_noneIfFar : xMS yX2_noneIfFar cX2_noneIfFar 1 ((some FieldType.int)) 1 := ⟨(xw_at tW_8 33 rfl), ⟨(xw_at tW_0 35 rfl), (xw_at tW_8 34 rfl), by decide +kernel, by decide +kernel⟩⟩
theorem myX2_leastOfWays : xMS yX2_leastOfWays cX2_leastOfWays 9 ((some FieldType.int)) 5 := ⟨(xw_at tW_9 7 rfl), ⟨(xw_at tW_0 35 rfl), (xw_at tW_9 8 rfl), by decide +kernel, by decide +kernel⟩⟩
theorem myX2_reckon : xMV yX2_reckon cX2_reckon 1 ((none : Option FieldType)) 0 := ⟨(xw_at tW_1 27 rfl), (xw_at tW_0 0 rfl), ⟨(xw_at tW_0 35 rfl), (xw_at tW_1 28 rfl), by decide +kernel, by decide +kernel⟩⟩
theorem myX2_reckonDirect : xMV yX2_reckonDirect cX2_reckonDirect 3 ((none : Option FieldType)) 0 := ⟨(xw_at tW_1 30 rfl), (xw_at tW_0 1 rfl), ⟨(xw_at tW_0 35 rfl), (xw_at tW_1 31 rfl), by decide +kernel, by decide +kernel⟩⟩
theorem myX2_shorten : xMV yX2_shorten cX2_shorten 4 ((none : Option FieldType)) 3 := ⟨(xw_at tW_1 37 rfl), (xw_at tW_0 2 rfl), ⟨(xw_at tW_0 35 rfl), (xw_at tW_1 38 rfl), by decide +kernel, by decide +kernel⟩⟩
theorem myX2_reckonLeast : xMV yX2_reckonLeast cX2_reckonLeast 5 ((none : Option FieldType)) 0 := ⟨(xw_at tW_2 6 rfl), (xw_at tW_0 3 rfl), ⟨(xw_at tW_0 35 rfl), (xw_at tW_2 7 rfl), by decide +kernel, by decide +kernel⟩⟩
theorem myX2_reckonOnward : xMV yX2_reckonOnward cX2_reckonOnward 3 ((none : Option FieldType)) 0 := ⟨(xw_at tW_2 12 rfl), (xw_at tW_0 4 rfl), ⟨(xw_at tW_0 35 rfl), (xw_at tW_2 13 rfl), by decide +kernel, by decide +kernel⟩⟩
theorem myX2_firstLegOf : xMV yX2_firstLegOf cX2_firstLegOf 8 ((some FieldType.int)) 2 := ⟨(xw_at tW_2 15 rfl), (xw_at tW_0 5 rfl), ⟨(xw_at tW_0 35 rfl), (xw_at tW_2 16 rfl), by decide +kernel, by decide +kernel⟩⟩
theorem myX3_init : xMI yX3_init cX3_init 7 6 := ⟨(xw_at tW_10 2 rfl), rfl, ⟨(xw_at tW_1 8 rfl), (xw_at tW_10 3 rfl), by decide +kernel, by decide +kernel⟩⟩
theorem myX3_isUnderWay : xMV yX3_isUnderWay cX3_isUnderWay 1 ((some FieldType.boolean)) 0 := ⟨(xw_at tW_11 37 rfl), (xw_at tW_11 38 rfl), ⟨(xw_at tW_1 8 rfl), (xw_at tW_11 39 rfl), by decide +kernel, by decide +kernel⟩⟩
theorem myX3_taxOfNow : xMV yX3_taxOfNow cX3_taxOfNow 4 ((some FieldType.long)) 0 := ⟨(xw_at tW_12 25 rfl), (xw_at tW_12 26 rfl), ⟨(xw_at tW_1 8 rfl), (xw_at tW_12 27 rfl), by decide +kernel, by decide +kernel⟩⟩
theorem myX3_departOn : xMV yX3_departOn cX3_departOn 2 ((none : Option FieldType)) 1 := ⟨(xw_at tW_13 6 rfl), (xw_at tW_13 7 rfl), ⟨(xw_at tW_1 8 rfl), (xw_at tW_13 8 rfl), by decide +kernel, by decide +kernel⟩⟩
theorem myX3_arrivesToday : xMV yX3_arrivesToday cX3_arrivesToday 1 ((some FieldType.boolean)) 0 := ⟨(xw_at tW_12 18 rfl), (xw_at tW_12 19 rfl), ⟨(xw_at tW_1 8 rfl), (xw_at tW_12 20 rfl), by decide +kernel, by decide +kernel⟩⟩
theorem myX3_latestHand : xMV yX3_latestHand cX3_latestHand 1 ((some FieldType.int)) 0 := ⟨(xw_at tW_13 21 rfl), (xw_at tW_13 22 rfl), ⟨(xw_at tW_1 8 rfl), (xw_at tW_13 23 rfl), by decide +kernel, by decide +kernel⟩⟩
theorem myX3_sign : xMV yX3_sign cX3_sign 1 ((none : Option FieldType)) 0 := ⟨(xw_at tW_10 6 rfl), (xw_at tW_0 8 rfl), ⟨(xw_at tW_1 8 rfl), (xw_at tW_10 7 rfl), by decide +kernel, by decide +kernel⟩⟩
theorem myX4_init : xMI yX4_init cX4_init 1 0 := ⟨(xw_at tW_1 12 rfl), rfl, ⟨(xw_at tW_0 34 rfl), (xw_at tW_1 13 rfl), by decide +kernel, by decide +kernel⟩⟩
theorem myX4_post : xMV yX4_post cX4_post 1 ((some FieldType.int)) 0 := ⟨(xw_at tW_3 13 rfl), (xw_at tW_3 14 rfl), ⟨(xw_at tW_0 34 rfl), (xw_at tW_3 15 rfl), by decide +kernel, by decide +kernel⟩⟩
theorem myX4_rates : xMV yX4_rates cX4_rates 6 ((none : Option FieldType)) 4 := ⟨(xw_at tW_5 29 rfl), (xw_at tW_5 30 rfl), ⟨(xw_at tW_0 34 rfl), (xw_at tW_5 31 rfl), by decide +kernel, by decide +kernel⟩⟩
theorem myX4_due : xMV yX4_due cX4_due 6 ((some FieldType.int)) 3 := ⟨(xw_at tW_6 31 rfl), (xw_at tW_6 32 rfl), ⟨(xw_at tW_0 34 rfl), (xw_at tW_6 33 rfl), by decide +kernel, by decide +kernel⟩⟩
theorem myX4_charge : xMV yX4_charge cX4_charge 5 ((some FieldType.int)) 2 := ⟨(xw_at tW_6 38 rfl), (xw_at tW_6 39 rfl), ⟨(xw_at tW_0 34 rfl), (xw_at tW_7 0 rfl), by decide +kernel, by decide +kernel⟩⟩
theorem myX4_coupon : xMV yX4_coupon cX4_coupon 5 ((some FieldType.int)) 2 := ⟨(xw_at tW_7 5 rfl), (xw_at tW_7 6 rfl), ⟨(xw_at tW_0 34 rfl), (xw_at tW_7 7 rfl), by decide +kernel, by decide +kernel⟩⟩
theorem myX4_strike : xMV yX4_strike cX4_strike 5 ((some FieldType.boolean)) 2 := ⟨(xw_at tW_7 12 rfl), (xw_at tW_7 13 rfl), ⟨(xw_at tW_0 34 rfl), (xw_at tW_7 14 rfl), by decide +kernel, by decide +kernel⟩⟩
theorem myX4_leg : xMV yX4_leg cX4_leg 7 ((some FieldType.int)) 3 := ⟨(xw_at tW_7 19 rfl), (xw_at tW_7 20 rfl), ⟨(xw_at tW_0 34 rfl), (xw_at tW_7 21 rfl), by decide +kernel, by decide +kernel⟩⟩
theorem myX4_close : xMV yX4_close cX4_close 4 ((some FieldType.boolean)) 2 := ⟨(xw_at tW_8 10 rfl), (xw_at tW_8 11 rfl), ⟨(xw_at tW_0 34 rfl), (xw_at tW_8 12 rfl), by decide +kernel, by decide +kernel⟩⟩
theorem myX4_days : xMV yX4_days cX4_days 3 ((some FieldType.int)) 2 := ⟨(xw_at tW_8 25 rfl), (xw_at tW_8 26 rfl), ⟨(xw_at tW_0 34 rfl), (xw_at tW_8 27 rfl), by decide +kernel, by decide +kernel⟩⟩
theorem myX4_daysAnew : xMV yX4_daysAnew cX4_daysAnew 3 ((some FieldType.int)) 2 := ⟨(xw_at tW_8 39 rfl), (xw_at tW_9 0 rfl), ⟨(xw_at tW_0 34 rfl), (xw_at tW_9 1 rfl), by decide +kernel, by decide +kernel⟩⟩
theorem myX4_next : xMV yX4_next cX4_next 3 ((some FieldType.int)) 2 := ⟨(xw_at tW_9 13 rfl), (xw_at tW_9 14 rfl), ⟨(xw_at tW_0 34 rfl), (xw_at tW_9 15 rfl), by decide +kernel, by decide +kernel⟩⟩
theorem myX4_mail : xMV yX4_mail cX4_mail 10 ((some FieldType.int)) 6 := ⟨(xw_at tW_9 24 rfl), (xw_at tW_9 25 rfl), ⟨(xw_at tW_0 34 rfl), (xw_at tW_9 26 rfl), by decide +kernel, by decide +kernel⟩⟩
theorem myX4_redirect : xMV yX4_redirect cX4_redirect 6 ((some FieldType.int)) 2 := ⟨(xw_at tW_11 27 rfl), (xw_at tW_11 28 rfl), ⟨(xw_at tW_0 34 rfl), (xw_at tW_11 29 rfl), by decide +kernel, by decide +kernel⟩⟩
theorem myX4_refuse : xMV yX4_refuse cX4_refuse 5 ((some FieldType.boolean)) 2 := ⟨(xw_at tW_12 4 rfl), (xw_at tW_12 5 rfl), ⟨(xw_at tW_0 34 rfl), (xw_at tW_12 6 rfl), by decide +kernel, by decide +kernel⟩⟩
theorem myX4_go : xMV yX4_go cX4_go 4 ((some FieldType.int)) 1 := ⟨(xw_at tW_12 11 rfl), (xw_at tW_12 12 rfl), ⟨(xw_at tW_0 34 rfl), (xw_at tW_12 13 rfl), by decide +kernel, by decide +kernel⟩⟩
theorem myX4_lose : xMV yX4_lose cX4_lose 3 ((some FieldType.int)) 1 := ⟨(xw_at tW_13 17 rfl), (xw_at tW_13 18 rfl), ⟨(xw_at tW_0 34 rfl), (xw_at tW_13 19 rfl), by decide +kernel, by decide +kernel⟩⟩
theorem myX4_claim : xMV yX4_claim cX4_claim 4 ((some FieldType.int)) 1 := ⟨(xw_at tW_13 28 rfl), (xw_at tW_13 29 rfl), ⟨(xw_at tW_0 34 rfl), (xw_at tW_13 30 rfl), by decide +kernel, by decide +kernel⟩⟩
theorem myX4_sample : xMV yX4_sample cX4_sample 3 ((some FieldType.boolean)) 1 := ⟨(xw_at tW_3 5 rfl), (xw_at tW_3 6 rfl), ⟨(xw_at tW_0 34 rfl), (xw_at tW_3 7 rfl), by decide +kernel, by decide +kernel⟩⟩
theorem myX4_settle : xMV yX4_settle cX4_settle 6 ((some FieldType.long)) 1 := ⟨(xw_at tW_13 39 rfl), (xw_at tW_14 0 rfl), ⟨(xw_at tW_0 34 rfl), (xw_at tW_14 1 rfl), by decide +kernel, by decide +kernel⟩⟩
theorem myX4_rate : xMV yX4_rate cX4_rate 6 ((some FieldType.int)) 4 := ⟨(xw_at tW_14 9 rfl), (xw_at tW_14 10 rfl), ⟨(xw_at tW_0 34 rfl), (xw_at tW_14 11 rfl), by decide +kernel, by decide +kernel⟩⟩
theorem myX4_ofThing : xMV yX4_ofThing cX4_ofThing 4 ((some FieldType.long)) 2 := ⟨(xw_at tW_14 16 rfl), (xw_at tW_14 17 rfl), ⟨(xw_at tW_0 34 rfl), (xw_at tW_14 18 rfl), by decide +kernel, by decide +kernel⟩⟩
theorem myX4_hand : xMV yX4_hand cX4_hand 4 ((some FieldType.int)) 2 := ⟨(xw_at tW_14 23 rfl), (xw_at tW_14 24 rfl), ⟨(xw_at tW_0 34 rfl), (xw_at tW_14 25 rfl), by decide +kernel, by decide +kernel⟩⟩
theorem myX4_account : xMV yX4_account cX4_account 2 ((some FieldType.long)) 1 := ⟨(xw_at tW_14 30 rfl), (xw_at tW_14 31 rfl), ⟨(xw_at tW_0 34 rfl), (xw_at tW_14 32 rfl), by decide +kernel, by decide +kernel⟩⟩
theorem myX4_till : xMV yX4_till cX4_till 2 ((some FieldType.long)) 1 := ⟨(xw_at tW_14 37 rfl), (xw_at tW_14 38 rfl), ⟨(xw_at tW_0 34 rfl), (xw_at tW_14 39 rfl), by decide +kernel, by decide +kernel⟩⟩
theorem myX4_counted : xMV yX4_counted cX4_counted 5 ((some FieldType.long)) 2 := ⟨(xw_at tW_15 4 rfl), (xw_at tW_15 5 rfl), ⟨(xw_at tW_0 34 rfl), (xw_at tW_15 6 rfl), by decide +kernel, by decide +kernel⟩⟩
theorem myX4_gain : xMV yX4_gain cX4_gain 8 ((some FieldType.int)) 1 := ⟨(xw_at tW_15 11 rfl), (xw_at tW_15 12 rfl), ⟨(xw_at tW_0 34 rfl), (xw_at tW_15 13 rfl), by decide +kernel, by decide +kernel⟩⟩
theorem myX4_postOf : xMV yX4_postOf cX4_postOf 2 ((some (FieldType.object "Postunion$Post"))) 1 := ⟨(xw_at tW_5 33 rfl), (xw_at tW_0 7 rfl), ⟨(xw_at tW_0 34 rfl), (xw_at tW_5 34 rfl), by decide +kernel, by decide +kernel⟩⟩
theorem myX4_thingOf : xMV yX4_thingOf cX4_thingOf 2 ((some (FieldType.object "Postunion$Thing"))) 1 := ⟨(xw_at tW_11 31 rfl), (xw_at tW_0 9 rfl), ⟨(xw_at tW_0 34 rfl), (xw_at tW_11 32 rfl), by decide +kernel, by decide +kernel⟩⟩
theorem myX4_demandWithin : xMS yX4_demandWithin cX4_demandWithin 3 ((none : Option FieldType)) 3 := ⟨(xw_at tW_6 12 rfl), ⟨(xw_at tW_0 34 rfl), (xw_at tW_6 13 rfl), by decide +kernel, by decide +kernel⟩⟩
theorem myX4_demandKind : xMS yX4_demandKind cX4_demandKind 1 ((none : Option FieldType)) 1 := ⟨(xw_at tW_6 9 rfl), ⟨(xw_at tW_0 34 rfl), (xw_at tW_6 10 rfl), by decide +kernel, by decide +kernel⟩⟩
theorem myX4_demandGrams : xMS yX4_demandGrams cX4_demandGrams 2 ((none : Option FieldType)) 2 := ⟨(xw_at tW_9 28 rfl), ⟨(xw_at tW_0 34 rfl), (xw_at tW_9 29 rfl), by decide +kernel, by decide +kernel⟩⟩
theorem myX4_demandChangeable : xMS yX4_demandChangeable cX4_demandChangeable 1 ((none : Option FieldType)) 1 := ⟨(xw_at tW_11 34 rfl), ⟨(xw_at tW_0 34 rfl), (xw_at tW_11 35 rfl), by decide +kernel, by decide +kernel⟩⟩
theorem myX4_moveThoseThatTravel : xMV yX4_moveThoseThatTravel cX4_moveThoseThatTravel 4 ((some FieldType.int)) 0 := ⟨(xw_at tW_12 15 rfl), (xw_at tW_0 10 rfl), ⟨(xw_at tW_0 34 rfl), (xw_at tW_12 16 rfl), by decide +kernel, by decide +kernel⟩⟩
theorem myX4_endAtTarget : xMV yX4_endAtTarget cX4_endAtTarget 4 ((none : Option FieldType)) 1 := ⟨(xw_at tW_12 22 rfl), (xw_at tW_0 11 rfl), ⟨(xw_at tW_0 34 rfl), (xw_at tW_12 23 rfl), by decide +kernel, by decide +kernel⟩⟩
theorem myX4_oweDue : xMV yX4_oweDue cX4_oweDue 3 ((none : Option FieldType)) 1 := ⟨(xw_at tW_12 30 rfl), (xw_at tW_0 12 rfl), ⟨(xw_at tW_0 34 rfl), (xw_at tW_12 31 rfl), by decide +kernel, by decide +kernel⟩⟩
theorem myX4_sendThoseThatWait : xMV yX4_sendThoseThatWait cX4_sendThoseThatWait 3 ((none : Option FieldType)) 0 := ⟨(xw_at tW_12 36 rfl), (xw_at tW_0 13 rfl), ⟨(xw_at tW_0 34 rfl), (xw_at tW_12 37 rfl), by decide +kernel, by decide +kernel⟩⟩
theorem myX4_sendOn : xMV yX4_sendOn cX4_sendOn 3 ((none : Option FieldType)) 1 := ⟨(xw_at tW_12 39 rfl), (xw_at tW_0 14 rfl), ⟨(xw_at tW_0 34 rfl), (xw_at tW_13 0 rfl), by decide +kernel, by decide +kernel⟩⟩
theorem myX4_pay : xMS yX4_pay cX4_pay 4 ((none : Option FieldType)) 3 := ⟨(xw_at tW_12 33 rfl), ⟨(xw_at tW_0 34 rfl), (xw_at tW_12 34 rfl), by decide +kernel, by decide +kernel⟩⟩
theorem myX4_payClaim : xMS yX4_payClaim cX4_payClaim 3 ((some FieldType.int)) 3 := ⟨(xw_at tW_13 33 rfl), ⟨(xw_at tW_0 34 rfl), (xw_at tW_13 34 rfl), by decide +kernel, by decide +kernel⟩⟩
theorem myX4_settlePair : xMS yX4_settlePair cX4_settlePair 5 ((some FieldType.long)) 3 := ⟨(xw_at tW_14 3 rfl), ⟨(xw_at tW_0 34 rfl), (xw_at tW_14 4 rfl), by decide +kernel, by decide +kernel⟩⟩
theorem myX4_gainOf : xMS yX4_gainOf cX4_gainOf 2 ((some FieldType.int)) 2 := ⟨(xw_at tW_15 15 rfl), ⟨(xw_at tW_0 34 rfl), (xw_at tW_15 16 rfl), by decide +kernel, by decide +kernel⟩⟩
theorem myX4_begunParts : xMS yX4_begunParts cX4_begunParts 2 ((some FieldType.int)) 2 := ⟨(xw_at tW_9 35 rfl), ⟨(xw_at tW_0 34 rfl), (xw_at tW_9 36 rfl), by decide +kernel, by decide +kernel⟩⟩
theorem myX5_init : xMI yX5_init cX5_init 1 0 := ⟨(xw_at tW_15 20 rfl), rfl, ⟨(xw_at tW_0 39 rfl), (xw_at tW_15 21 rfl), by decide +kernel, by decide +kernel⟩⟩
theorem myX5_thrown : xMV yX5_thrown cX5_thrown 1 ((some FieldType.int)) 0 := ⟨(xw_at tW_17 24 rfl), (xw_at tW_17 25 rfl), ⟨(xw_at tW_0 39 rfl), (xw_at tW_17 26 rfl), by decide +kernel, by decide +kernel⟩⟩
theorem myX5_fails : xMV yX5_fails cX5_fails 2 ((some FieldType.int)) 1 := ⟨(xw_at tW_18 12 rfl), (xw_at tW_0 17 rfl), ⟨(xw_at tW_0 39 rfl), (xw_at tW_18 13 rfl), by decide +kernel, by decide +kernel⟩⟩
theorem myX5_asks : xMV yX5_asks cX5_asks 2 ((some FieldType.boolean)) 1 := ⟨(xw_at tW_17 32 rfl), (xw_at tW_0 15 rfl), ⟨(xw_at tW_0 39 rfl), (xw_at tW_17 33 rfl), by decide +kernel, by decide +kernel⟩⟩
theorem myX5_in : xMS yX5_in cX5_in 3 ((some FieldType.boolean)) 3 := ⟨(xw_at tW_18 2 rfl), ⟨(xw_at tW_0 39 rfl), (xw_at tW_18 3 rfl), by decide +kernel, by decide +kernel⟩⟩
theorem myX5_isPost : xMV yX5_isPost cX5_isPost 2 ((some FieldType.boolean)) 1 := ⟨(xw_at tW_17 39 rfl), (xw_at tW_0 16 rfl), ⟨(xw_at tW_0 39 rfl), (xw_at tW_18 0 rfl), by decide +kernel, by decide +kernel⟩⟩
theorem myX5_isKind : xMS yX5_isKind cX5_isKind 1 ((some FieldType.boolean)) 1 := ⟨(xw_at tW_18 5 rfl), ⟨(xw_at tW_0 39 rfl), (xw_at tW_18 6 rfl), by decide +kernel, by decide +kernel⟩⟩
theorem myX5_areGrams : xMS yX5_areGrams cX5_areGrams 2 ((some FieldType.boolean)) 2 := ⟨(xw_at tW_19 27 rfl), ⟨(xw_at tW_0 39 rfl), (xw_at tW_19 28 rfl), by decide +kernel, by decide +kernel⟩⟩
theorem myX5_post : xMV yX5_post cX5_post 1 ((some FieldType.int)) 0 := ⟨(xw_at tW_17 28 rfl), (xw_at tW_17 29 rfl), ⟨(xw_at tW_0 39 rfl), (xw_at tW_17 30 rfl), by decide +kernel, by decide +kernel⟩⟩
theorem myX5_rates : xMV yX5_rates cX5_rates 5 ((none : Option FieldType)) 4 := ⟨(xw_at tW_17 35 rfl), (xw_at tW_17 36 rfl), ⟨(xw_at tW_0 39 rfl), (xw_at tW_17 37 rfl), by decide +kernel, by decide +kernel⟩⟩
theorem myX5_due : xMV yX5_due cX5_due 5 ((some FieldType.int)) 3 := ⟨(xw_at tW_18 8 rfl), (xw_at tW_18 9 rfl), ⟨(xw_at tW_0 39 rfl), (xw_at tW_18 10 rfl), by decide +kernel, by decide +kernel⟩⟩
theorem myX5_charge : xMV yX5_charge cX5_charge 4 ((some FieldType.int)) 2 := ⟨(xw_at tW_18 15 rfl), (xw_at tW_18 16 rfl), ⟨(xw_at tW_0 39 rfl), (xw_at tW_18 17 rfl), by decide +kernel, by decide +kernel⟩⟩
theorem myX5_coupon : xMV yX5_coupon cX5_coupon 4 ((some FieldType.int)) 2 := ⟨(xw_at tW_18 19 rfl), (xw_at tW_18 20 rfl), ⟨(xw_at tW_0 39 rfl), (xw_at tW_18 21 rfl), by decide +kernel, by decide +kernel⟩⟩
theorem myX5_strike : xMV yX5_strike cX5_strike 4 ((some FieldType.boolean)) 2 := ⟨(xw_at tW_18 23 rfl), (xw_at tW_18 24 rfl), ⟨(xw_at tW_0 39 rfl), (xw_at tW_18 25 rfl), by decide +kernel, by decide +kernel⟩⟩
theorem myX5_leg : xMV yX5_leg cX5_leg 4 ((some FieldType.int)) 3 := ⟨(xw_at tW_18 27 rfl), (xw_at tW_18 28 rfl), ⟨(xw_at tW_0 39 rfl), (xw_at tW_18 29 rfl), by decide +kernel, by decide +kernel⟩⟩
theorem myX5_close : xMV yX5_close cX5_close 4 ((some FieldType.boolean)) 2 := ⟨(xw_at tW_18 31 rfl), (xw_at tW_18 32 rfl), ⟨(xw_at tW_0 39 rfl), (xw_at tW_18 33 rfl), by decide +kernel, by decide +kernel⟩⟩
theorem myX5_across : xMV yX5_across cX5_across 3 ((some FieldType.int)) 2 := ⟨(xw_at tW_19 20 rfl), (xw_at tW_0 22 rfl), ⟨(xw_at tW_0 39 rfl), (xw_at tW_19 21 rfl), by decide +kernel, by decide +kernel⟩⟩
theorem myX5_ends : xMV yX5_ends cX5_ends 3 ((some FieldType.boolean)) 2 := ⟨(xw_at tW_19 17 rfl), (xw_at tW_0 21 rfl), ⟨(xw_at tW_0 39 rfl), (xw_at tW_19 18 rfl), by decide +kernel, by decide +kernel⟩⟩
theorem myX5_measures : xMV yX5_measures cX5_measures 6 ((none : Option FieldType)) 1 := ⟨(xw_at tW_19 2 rfl), (xw_at tW_0 19 rfl), ⟨(xw_at tW_0 39 rfl), (xw_at tW_19 3 rfl), by decide +kernel, by decide +kernel⟩⟩
theorem myX5_daysTold : xMV yX5_daysTold cX5_daysTold 3 ((some FieldType.int)) 2 := ⟨(xw_at tW_18 39 rfl), (xw_at tW_0 18 rfl), ⟨(xw_at tW_0 39 rfl), (xw_at tW_19 0 rfl), by decide +kernel, by decide +kernel⟩⟩
theorem myX5_days : xMV yX5_days cX5_days 3 ((some FieldType.int)) 2 := ⟨(xw_at tW_18 35 rfl), (xw_at tW_18 36 rfl), ⟨(xw_at tW_0 39 rfl), (xw_at tW_18 37 rfl), by decide +kernel, by decide +kernel⟩⟩
theorem myX5_daysAnew : xMV yX5_daysAnew cX5_daysAnew 3 ((some FieldType.int)) 2 := ⟨(xw_at tW_19 6 rfl), (xw_at tW_19 7 rfl), ⟨(xw_at tW_0 39 rfl), (xw_at tW_19 8 rfl), by decide +kernel, by decide +kernel⟩⟩
theorem myX5_nextOf : xMV yX5_nextOf cX5_nextOf 7 ((some FieldType.int)) 2 := ⟨(xw_at tW_19 14 rfl), (xw_at tW_0 20 rfl), ⟨(xw_at tW_0 39 rfl), (xw_at tW_19 15 rfl), by decide +kernel, by decide +kernel⟩⟩
theorem myX5_next : xMV yX5_next cX5_next 3 ((some FieldType.int)) 2 := ⟨(xw_at tW_19 10 rfl), (xw_at tW_19 11 rfl), ⟨(xw_at tW_0 39 rfl), (xw_at tW_19 12 rfl), by decide +kernel, by decide +kernel⟩⟩
theorem myX5_rateOf : xMV yX5_rateOf cX5_rateOf 6 ((some FieldType.int)) 4 := ⟨(xw_at tW_19 31 rfl), (xw_at tW_0 23 rfl), ⟨(xw_at tW_0 39 rfl), (xw_at tW_19 32 rfl), by decide +kernel, by decide +kernel⟩⟩
theorem myX5_signs : xMV yX5_signs cX5_signs 3 ((none : Option FieldType)) 2 := ⟨(xw_at tW_19 34 rfl), (xw_at tW_0 24 rfl), ⟨(xw_at tW_0 39 rfl), (xw_at tW_19 35 rfl), by decide +kernel, by decide +kernel⟩⟩
theorem myX5_mail : xMV yX5_mail cX5_mail 9 ((some FieldType.int)) 6 := ⟨(xw_at tW_19 23 rfl), (xw_at tW_19 24 rfl), ⟨(xw_at tW_0 39 rfl), (xw_at tW_19 25 rfl), by decide +kernel, by decide +kernel⟩⟩
theorem myX5_isThing : xMV yX5_isThing cX5_isThing 2 ((some FieldType.boolean)) 1 := ⟨(xw_at tW_20 1 rfl), (xw_at tW_0 25 rfl), ⟨(xw_at tW_0 39 rfl), (xw_at tW_20 2 rfl), by decide +kernel, by decide +kernel⟩⟩
theorem myX5_isUnderWay : xMV yX5_isUnderWay cX5_isUnderWay 2 ((some FieldType.boolean)) 1 := ⟨(xw_at tW_20 4 rfl), (xw_at tW_0 26 rfl), ⟨(xw_at tW_0 39 rfl), (xw_at tW_20 5 rfl), by decide +kernel, by decide +kernel⟩⟩
theorem myX5_redirect : xMV yX5_redirect cX5_redirect 4 ((some FieldType.int)) 2 := ⟨(xw_at tW_19 37 rfl), (xw_at tW_19 38 rfl), ⟨(xw_at tW_0 39 rfl), (xw_at tW_19 39 rfl), by decide +kernel, by decide +kernel⟩⟩
theorem myX5_refuse : xMV yX5_refuse cX5_refuse 4 ((some FieldType.boolean)) 2 := ⟨(xw_at tW_20 7 rfl), (xw_at tW_20 8 rfl), ⟨(xw_at tW_0 39 rfl), (xw_at tW_20 9 rfl), by decide +kernel, by decide +kernel⟩⟩
theorem myX5_taxOf : xMV yX5_taxOf cX5_taxOf 5 ((some FieldType.long)) 1 := ⟨(xw_at tW_20 21 rfl), (xw_at tW_0 29 rfl), ⟨(xw_at tW_0 39 rfl), (xw_at tW_20 22 rfl), by decide +kernel, by decide +kernel⟩⟩
theorem myX5_pays : xMV yX5_pays cX5_pays 5 ((none : Option FieldType)) 3 := ⟨(xw_at tW_20 25 rfl), (xw_at tW_0 30 rfl), ⟨(xw_at tW_0 39 rfl), (xw_at tW_20 26 rfl), by decide +kernel, by decide +kernel⟩⟩
theorem myX5_comes : xMV yX5_comes cX5_comes 5 ((some FieldType.int)) 1 := ⟨(xw_at tW_20 18 rfl), (xw_at tW_0 28 rfl), ⟨(xw_at tW_0 39 rfl), (xw_at tW_20 19 rfl), by decide +kernel, by decide +kernel⟩⟩
theorem myX5_travels : xMV yX5_travels cX5_travels 2 ((some FieldType.int)) 1 := ⟨(xw_at tW_20 15 rfl), (xw_at tW_0 27 rfl), ⟨(xw_at tW_0 39 rfl), (xw_at tW_20 16 rfl), by decide +kernel, by decide +kernel⟩⟩
theorem myX5_leaves : xMV yX5_leaves cX5_leaves 4 ((none : Option FieldType)) 1 := ⟨(xw_at tW_20 28 rfl), (xw_at tW_0 31 rfl), ⟨(xw_at tW_0 39 rfl), (xw_at tW_20 29 rfl), by decide +kernel, by decide +kernel⟩⟩
theorem myX5_go : xMV yX5_go cX5_go 5 ((some FieldType.int)) 1 := ⟨(xw_at tW_20 11 rfl), (xw_at tW_20 12 rfl), ⟨(xw_at tW_0 39 rfl), (xw_at tW_20 13 rfl), by decide +kernel, by decide +kernel⟩⟩
theorem myX5_lose : xMV yX5_lose cX5_lose 2 ((some FieldType.int)) 1 := ⟨(xw_at tW_20 31 rfl), (xw_at tW_20 32 rfl), ⟨(xw_at tW_0 39 rfl), (xw_at tW_20 33 rfl), by decide +kernel, by decide +kernel⟩⟩
theorem myX5_paysFor : xMV yX5_paysFor cX5_paysFor 4 ((some FieldType.int)) 3 := ⟨(xw_at tW_21 0 rfl), (xw_at tW_0 32 rfl), ⟨(xw_at tW_0 39 rfl), (xw_at tW_21 1 rfl), by decide +kernel, by decide +kernel⟩⟩
theorem myX5_claim : xMV yX5_claim cX5_claim 2 ((some FieldType.int)) 1 := ⟨(xw_at tW_20 35 rfl), (xw_at tW_20 36 rfl), ⟨(xw_at tW_0 39 rfl), (xw_at tW_20 37 rfl), by decide +kernel, by decide +kernel⟩⟩
theorem myX5_sample : xMV yX5_sample cX5_sample 3 ((some FieldType.boolean)) 1 := ⟨(xw_at tW_21 3 rfl), (xw_at tW_21 4 rfl), ⟨(xw_at tW_0 39 rfl), (xw_at tW_21 5 rfl), by decide +kernel, by decide +kernel⟩⟩
theorem myX5_settle : xMV yX5_settle cX5_settle 7 ((some FieldType.long)) 1 := ⟨(xw_at tW_21 7 rfl), (xw_at tW_21 8 rfl), ⟨(xw_at tW_0 39 rfl), (xw_at tW_21 9 rfl), by decide +kernel, by decide +kernel⟩⟩
theorem myX5_rate : xMV yX5_rate cX5_rate 5 ((some FieldType.int)) 4 := ⟨(xw_at tW_21 11 rfl), (xw_at tW_21 12 rfl), ⟨(xw_at tW_0 39 rfl), (xw_at tW_21 13 rfl), by decide +kernel, by decide +kernel⟩⟩
theorem myX5_ofThing : xMV yX5_ofThing cX5_ofThing 3 ((some FieldType.long)) 2 := ⟨(xw_at tW_21 15 rfl), (xw_at tW_21 16 rfl), ⟨(xw_at tW_0 39 rfl), (xw_at tW_21 17 rfl), by decide +kernel, by decide +kernel⟩⟩
theorem myX5_hand : xMV yX5_hand cX5_hand 5 ((some FieldType.int)) 2 := ⟨(xw_at tW_21 19 rfl), (xw_at tW_21 20 rfl), ⟨(xw_at tW_0 39 rfl), (xw_at tW_21 21 rfl), by decide +kernel, by decide +kernel⟩⟩
theorem myX5_account : xMV yX5_account cX5_account 2 ((some FieldType.long)) 1 := ⟨(xw_at tW_21 23 rfl), (xw_at tW_21 24 rfl), ⟨(xw_at tW_0 39 rfl), (xw_at tW_21 25 rfl), by decide +kernel, by decide +kernel⟩⟩
theorem myX5_till : xMV yX5_till cX5_till 2 ((some FieldType.long)) 1 := ⟨(xw_at tW_21 27 rfl), (xw_at tW_21 28 rfl), ⟨(xw_at tW_0 39 rfl), (xw_at tW_21 29 rfl), by decide +kernel, by decide +kernel⟩⟩
theorem myX5_counted : xMV yX5_counted cX5_counted 3 ((some FieldType.long)) 2 := ⟨(xw_at tW_21 31 rfl), (xw_at tW_21 32 rfl), ⟨(xw_at tW_0 39 rfl), (xw_at tW_21 33 rfl), by decide +kernel, by decide +kernel⟩⟩
theorem myX5_gain : xMV yX5_gain cX5_gain 5 ((some FieldType.int)) 1 := ⟨(xw_at tW_21 35 rfl), (xw_at tW_21 36 rfl), ⟨(xw_at tW_0 39 rfl), (xw_at tW_21 37 rfl), by decide +kernel, by decide +kernel⟩⟩
theorem hinX0 : ∀ w ∈ wsX00, w ∈ BG := by
  intro w hw
  obtain ⟨j, hj, rfl⟩ := List.mem_map.mp hw
  have hj := List.mem_range.mp hj
  match j, hj with
  | 0, _ => exact xw_at tW_8 2 rfl
  | 1, _ => exact xw_at tW_8 3 rfl
  | 2, _ => exact xw_at tW_8 4 rfl
  | 3, _ => exact xw_at tW_8 5 rfl
  | j + 4, hj => exact absurd hj (by omega)
theorem hinX1 : ∀ w ∈ wsX10, w ∈ BG := by
  intro w hw
  obtain ⟨j, hj, rfl⟩ := List.mem_map.mp hw
  have hj := List.mem_range.mp hj
  match j, hj with
  | 0, _ => exact xw_at tW_5 12 rfl
  | 1, _ => exact xw_at tW_5 13 rfl
  | 2, _ => exact xw_at tW_5 14 rfl
  | 3, _ => exact xw_at tW_5 15 rfl
  | 4, _ => exact xw_at tW_5 16 rfl
  | 5, _ => exact xw_at tW_5 17 rfl
  | 6, _ => exact xw_at tW_5 18 rfl
  | 7, _ => exact xw_at tW_5 19 rfl
  | 8, _ => exact xw_at tW_5 20 rfl
  | 9, _ => exact xw_at tW_5 21 rfl
  | j + 10, hj => exact absurd hj (by omega)
theorem hinX2 : ∀ w ∈ wsX20, w ∈ BG := by
  intro w hw
  obtain ⟨j, hj, rfl⟩ := List.mem_map.mp hw
  have hj := List.mem_range.mp hj
  match j, hj with
  | 0, _ => exact xw_at tW_2 26 rfl
  | 1, _ => exact xw_at tW_2 27 rfl
  | 2, _ => exact xw_at tW_2 28 rfl
  | 3, _ => exact xw_at tW_2 29 rfl
  | 4, _ => exact xw_at tW_2 30 rfl
  | j + 5, hj => exact absurd hj (by omega)
theorem hinX3 : ∀ w ∈ wsX30, w ∈ BG := by
  intro w hw
  obtain ⟨j, hj, rfl⟩ := List.mem_map.mp hw
  have hj := List.mem_range.mp hj
  match j, hj with
  | 0, _ => exact xw_at tW_11 8 rfl
  | 1, _ => exact xw_at tW_11 9 rfl
  | 2, _ => exact xw_at tW_11 10 rfl
  | 3, _ => exact xw_at tW_11 11 rfl
  | 4, _ => exact xw_at tW_11 12 rfl
  | 5, _ => exact xw_at tW_11 13 rfl
  | 6, _ => exact xw_at tW_11 14 rfl
  | 7, _ => exact xw_at tW_11 15 rfl
  | 8, _ => exact xw_at tW_11 16 rfl
  | 9, _ => exact xw_at tW_11 17 rfl
  | 10, _ => exact xw_at tW_11 18 rfl
  | 11, _ => exact xw_at tW_11 19 rfl
  | 12, _ => exact xw_at tW_11 20 rfl
  | 13, _ => exact xw_at tW_11 21 rfl
  | 14, _ => exact xw_at tW_11 22 rfl
  | j + 15, hj => exact absurd hj (by omega)
theorem hinX4 : ∀ w ∈ wsX40, w ∈ BG := by
  intro w hw
  obtain ⟨j, hj, rfl⟩ := List.mem_map.mp hw
  have hj := List.mem_range.mp hj
  match j, hj with
  | 0, _ => exact xw_at tW_2 38 rfl
  | 1, _ => exact xw_at tW_2 39 rfl
  | 2, _ => exact xw_at tW_3 0 rfl
  | 3, _ => exact xw_at tW_3 1 rfl
  | 4, _ => exact xw_at tW_3 2 rfl
  | 5, _ => exact xw_at tW_3 3 rfl
  | j + 6, hj => exact absurd hj (by omega)
theorem hinX5 : ∀ w ∈ wsX50, w ∈ BG := by
  intro w hw
  obtain ⟨j, hj, rfl⟩ := List.mem_map.mp hw
  have hj := List.mem_range.mp hj
  match j, hj with
  | 0, _ => exact xw_at tW_16 23 rfl
  | 1, _ => exact xw_at tW_16 24 rfl
  | 2, _ => exact xw_at tW_16 25 rfl
  | 3, _ => exact xw_at tW_16 26 rfl
  | 4, _ => exact xw_at tW_16 27 rfl
  | 5, _ => exact xw_at tW_16 28 rfl
  | 6, _ => exact xw_at tW_16 29 rfl
  | 7, _ => exact xw_at tW_16 30 rfl
  | 8, _ => exact xw_at tW_16 31 rfl
  | 9, _ => exact xw_at tW_16 32 rfl
  | 10, _ => exact xw_at tW_16 33 rfl
  | 11, _ => exact xw_at tW_16 34 rfl
  | 12, _ => exact xw_at tW_16 35 rfl
  | 13, _ => exact xw_at tW_16 36 rfl
  | 14, _ => exact xw_at tW_16 37 rfl
  | 15, _ => exact xw_at tW_16 38 rfl
  | 16, _ => exact xw_at tW_16 39 rfl
  | 17, _ => exact xw_at tW_17 0 rfl
  | 18, _ => exact xw_at tW_17 1 rfl
  | 19, _ => exact xw_at tW_17 2 rfl
  | 20, _ => exact xw_at tW_17 3 rfl
  | 21, _ => exact xw_at tW_17 4 rfl
  | 22, _ => exact xw_at tW_17 5 rfl
  | 23, _ => exact xw_at tW_17 6 rfl
  | 24, _ => exact xw_at tW_17 7 rfl
  | 25, _ => exact xw_at tW_17 8 rfl
  | 26, _ => exact xw_at tW_17 9 rfl
  | 27, _ => exact xw_at tW_17 10 rfl
  | 28, _ => exact xw_at tW_17 11 rfl
  | 29, _ => exact xw_at tW_17 12 rfl
  | 30, _ => exact xw_at tW_17 13 rfl
  | 31, _ => exact xw_at tW_17 14 rfl
  | 32, _ => exact xw_at tW_17 15 rfl
  | 33, _ => exact xw_at tW_17 16 rfl
  | 34, _ => exact xw_at tW_17 17 rfl
  | 35, _ => exact xw_at tW_17 18 rfl
  | 36, _ => exact xw_at tW_17 19 rfl
  | 37, _ => exact xw_at tW_17 20 rfl
  | 38, _ => exact xw_at tW_17 21 rfl
  | j + 39, hj => exact absurd hj (by omega)
