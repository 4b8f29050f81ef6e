/-! exceptions: what a throw needs of a state; contracts that return or throw; the throw; calls that may throw -/
def XD : List Cond := [(Jvm.Cond.declares ({ cls := "java/lang/RuntimeException", name := "<init>", desc := "(Ljava/lang/String;)V" } : Jvm.MethodName)), (Jvm.Cond.declares ({ cls := "java/lang/Exception", name := "<init>", desc := "(Ljava/lang/String;)V" } : Jvm.MethodName)), (Jvm.Cond.declares ({ cls := "java/lang/Throwable", name := "<init>", desc := "(Ljava/lang/String;)V" } : Jvm.MethodName)), (Jvm.Cond.castable "java/lang/IndexOutOfBoundsException" "java/lang/IndexOutOfBoundsException"), (Jvm.Cond.castable "java/lang/IllegalArgumentException" "java/lang/IllegalArgumentException"), (Jvm.Cond.castable "java/lang/IllegalStateException" "java/lang/IllegalStateException")]
def XT : List (Nat × String) := [(41, "there are 8 posts"), (243, "no such post"), (247, "out of range"), (81, "a leg from a post to itself"), (88, "there are 20 legs"), (96, "no such leg"), (118, "a thing from a post to itself"), (120, "there are 40 things"), (245, "no such thing"), (150, "the thing waits at that post"), (249, "the thing is not under way, or goes back"), (176, "the thing neither waits nor travels"), (190, "nothing can be claimed for the thing"), (226, "what is out of range"), (228, "the thing has not so many hands")]
def xin (L : List Cond) (ps : List Nat) : Bool := decide (L.length = ps.length) && (L.zip ps).all (fun q => decide (lw_tbl[q.2]? = some q.1) && (goodWord q.1 || decide (q.1 ∈ XD)) && vx_ot q.1)
theorem xin_at {L : List Cond} {ps : List Nat} (h : xin L ps = true) {w : Cond} (hw : w ∈ L) : (w ∈ BG ∨ w ∈ XD) ∧ vx_ot w = true := by
  simp only [xin, Bool.and_eq_true, decide_eq_true_eq, List.all_eq_true] at h
  obtain ⟨hl, ha⟩ := h
  obtain ⟨i, hi⟩ := List.getElem?_of_mem hw
  have hlt : i < L.length := (List.getElem?_eq_some_iff.mp hi).1
  have hz : (L.zip ps)[i]? = some (w, ps[i]'(by omega)) := by
    rw [List.getElem?_eq_getElem (by rw [List.length_zip]; omega), List.getElem_zip]
    congr 2
    exact Option.some.inj ((List.getElem?_eq_getElem hlt).symm.trans hi)
  obtain ⟨⟨h1, h2⟩, h3⟩ := ha _ (List.mem_of_getElem? hz)
  refine ⟨?_, h3⟩
  simp only [Bool.or_eq_true, decide_eq_true_eq] at h2
  rcases h2 with g | g
  · exact Or.inl (BG_in _ h1 g)
  · exact Or.inr g
def psO : List Nat := [21, 170, 179, 183, 186, 188, 171, 172, 36, 37, 173, 178, 184, 204, 160, 205, 162, 206, 164, 174, 176, 166, 200, 201, 203, 166, 191, 192, 193, 194, 152, 194, 195, 196, 197, 154, 197, 198, 199, 200, 156, 190, 149, 150, 157, 158, 159, 161, 163, 165, 169, 168, 167]
set_option maxRecDepth 100000 in
theorem xinO : xin (vx_atS RX4 98 "java/lang/IndexOutOfBoundsException" ["java/lang/RuntimeException", "java/lang/Exception"]) psO = true := by decide +kernel
def psA : List Nat := [21, 170, 179, 183, 186, 188, 171, 172, 36, 37, 173, 178, 184, 204, 160, 205, 162, 206, 164, 174, 176, 166, 200, 201, 203, 166, 266, 267, 268, 194, 152, 194, 195, 196, 197, 154, 197, 198, 199, 200, 156, 265, 256, 257, 258, 181, 259, 260, 261, 262, 169, 168, 263]
set_option maxRecDepth 100000 in
theorem xinA : xin (vx_atS RX4 83 "java/lang/IllegalArgumentException" ["java/lang/RuntimeException", "java/lang/Exception"]) psA = true := by decide +kernel
def psS : List Nat := [21, 170, 179, 183, 186, 188, 171, 172, 36, 37, 173, 178, 184, 204, 160, 205, 162, 206, 164, 174, 176, 166, 200, 201, 203, 166, 333, 334, 335, 194, 152, 194, 195, 196, 197, 154, 197, 198, 199, 200, 156, 332, 323, 324, 325, 182, 326, 327, 328, 329, 169, 168, 330]
set_option maxRecDepth 100000 in
theorem xinS : xin (vx_atS RX4 43 "java/lang/IllegalStateException" ["java/lang/RuntimeException", "java/lang/Exception"]) psS = true := by decide +kernel
def xZ1 (B0 : Nat) (U : State) (H : Heap) : Prop := vx_Zq Bundle.tN "UNASSIGNED_STACK" Bundle.steD (fun q => B0 ≤ q) U H ∧ vx_Zq Bundle.tN "SUPPRESSED_SENTINEL" Bundle.listD (fun q => B0 ≤ q) U H
/-- what a throw needs of a state -/
def xEx (B0 : Nat) (U : State) : Prop := (∀ w ∈ XD, va_Nw w U) ∧ xZ1 B0 U U.heap ∧ (∀ q ∈ XT, ∃ sa, vk_R RX4 q.1 q.2 sa U)
theorem xD_warm {s U : State} (hW : s.WarmedH U.vm) (h : ∀ w ∈ XD, va_Nw w s) : ∀ w ∈ XD, va_Nw w U := by
  intro w hw
  have h1 := h w hw
  simp only [XD, List.mem_cons, List.not_mem_nil, or_false] at hw
  rcases hw with rfl | rfl | rfl | rfl | rfl | rfl
  · exact va_tabs rfl (rfl : (s.setVm U.vm).vm = U.vm) (by rw [Cond.declares_setVm hW.alike]; exact h1)
  · exact va_tabs rfl (rfl : (s.setVm U.vm).vm = U.vm) (by rw [Cond.declares_setVm hW.alike]; exact h1)
  · exact va_tabs rfl (rfl : (s.setVm U.vm).vm = U.vm) (by rw [Cond.declares_setVm hW.alike]; exact h1)
  · exact va_Nw.warmC hW h1
  · exact va_Nw.warmC hW h1
  · exact va_Nw.warmC hW h1
theorem xEx.go {B0 : Nat} {s U : State} {locs : List Loc} (h : xEx B0 s) (hW : s.WarmedH U.vm) (hS : va_S (fun q => B0 ≤ q) s.heap U.heap locs) : xEx B0 U :=
  ⟨xD_warm hW h.1, ⟨vx_Zq.moved hW.alike (h.2.1.1.kept hS.2.1), vx_Zq.moved hW.alike (h.2.1.2.kept hS.2.1)⟩, fun q hq => by obtain ⟨sa, h1⟩ := h.2.2 q hq; exact ⟨sa, vk_R.warm hW h1⟩⟩
theorem xEx.calling {B0 : Nat} {U : State} {g : JFrame} {mk : MethodId} {a : Array Value} (h : xEx B0 U) : xEx B0 (U.calling g mk a) :=
  ⟨fun w hw => by
    have h1 := h.1 w hw
    simp only [XD, List.mem_cons, List.not_mem_nil, or_false] at hw
    rcases hw with rfl | rfl | rfl | rfl | rfl | rfl <;> exact va_Nw.same (u := U) (U := U.calling g mk a) rfl rfl h1, ⟨vx_Zq.moved (u := U) (U := U.calling g mk a) (Vm.Alike.refl U.vm) h.2.1.1, vx_Zq.moved (u := U) (U := U.calling g mk a) (Vm.Alike.refl U.vm) h.2.1.2⟩, fun q hq => by obtain ⟨sa, h1⟩ := h.2.2 q hq; exact ⟨sa, vk_R.same (u := U) (U := U.calling g mk a) rfl h1⟩⟩
def yPX (Z : xZ) (B0 : Nat) (av : List Value) (lay : xK → Nat) (C : xK → Option xE) : Array Value → State → Prop := fun v U => yP Z B0 av lay C v U ∧ xEx B0 U
theorem yPX.blind {Z : xZ} {B0 : Nat} {av : List Value} {lay : xK → Nat} {C : xK → Option xE} : FrameBlind (yPX Z B0 av lay C) := fun a U g mk h => ⟨yP.blind a U g mk h.1, h.2.calling⟩
def yX (Z : xZ) (B0 : Nat) (lay : xK → Nat) (C : xK → Option xE) (px : String → Prop) : String → State → State → Prop := fun E st t => px E ∧ xP Z B0 lay C t.heap ∧ va_F (fun q => B0 ≤ q) st t
/-- a method's contract that returns, or throws and leaves the world as it was -/
def YX (l : Launch) (y : MethodName) (cc : ByteArray) (nL : Nat) (ret : Option FieldType) (fr lo ce sl : Nat) (Z : xZ) (B0 : Nat) (av : List Value) (lay : xK → Nat) (C : xK → Option xE) (post : Option Value → (xK → Nat) → (xK → Option xE) → Prop) (px : String → Prop) : Prop :=
  vx_Met l y (.code y cc nL ret :: BG) { frames := fr, cells := ce, slots := sl, locals := lo } (yPX Z B0 av lay C) (yQ Z B0 post) (yX Z B0 lay C px) ce sl (fun q => B0 ≤ q)
theorem YX_of {l : Launch} {y : MethodName} {cc : ByteArray} {nL : Nat} {ret : Option FieldType} {fr lo ce sl : Nat} {Z : xZ} {B0 : Nat} {av : List Value} {lay : xK → Nat} {C : xK → Option xE} {post : Option Value → (xK → Nat) → (xK → Option xE) → Prop} {px : String → Prop} {n : Nat} (M : xMB y cc nL ret n) (own : String) (hown : y.cls = own) (lv0 : List (Option Value)) (hlv : xl lv0 0 = lv_args 0 av) (hlen : (lg_sl av).length ≤ nL)
    (body : ∀ (p : Program) (e : Env) (s : State) (m : MethodId) (args : Array Value) (below : List Frame) (meth : Method) (c : Code), Cx p m meth c cc nL s args own Z B0 → meth.sig.returnType = ret → (xEx B0 s ∧ ∀ x ∈ c.exceptionTable.toList, False) → V p l e { frames := fr, cells := ce, slots := sl, locals := lo } s m args below meth c (vx_MQ below (yQ Z B0 post) (yX Z B0 lay C px) args s ce sl (fun q => B0 ≤ q)) Z B0 nL lay C 0 0 0 lv0 []) : YX l y cc nL ret fr lo ce sl Z B0 av lay C post px := by
  refine vx_ofW (cc := cc) (maxL := nL) (ret := ret) M.2.2.2 rfl ?_
  intro p e s m args below meth c s₁ B hml ht hv
  obtain ⟨⟨rfl, hP, hKn, hB⟩, hE⟩ := hv
  have X : Cx p m meth c cc nL s av.toArray own Z B0 := ⟨⟨B.exec, B.bytes, hml, by rw [← hown]; exact findClass_of_methodNamed B.named, fun w hw => atoms_spec (ws := Cond.code y cc nL ret :: BG) B.pre w (List.mem_cons_of_mem _ hw)⟩, hKn, hB, B.notSynchronized⟩
  rw [lg_entry_eq]
  exact body p e s m av.toArray below meth c X B.returns ⟨hE, ht⟩ _ s.heap [] (by rw [hlv]; exact lv_entry av hlen) hP va_S.rf
theorem xP.ext {Z : xZ} {B0 : Nat} {lay : xK → Nat} {C : xK → Option xE} {H H1 : Heap} (h : xP Z B0 lay C H) (oq : ∀ q : Nat, q < H.size → H1[q]? = H[q]?) : xP Z B0 lay C H1 := ⟨fun k e hk => (h.1 k e hk).kept (oq _ (h.1 k e hk).lt), h.2.1, h.2.2⟩
section XX
variable {p : Program} {l : Launch} {e : Env} {R : Room} {s : State} {m : MethodId} {args : Array Value} {below : List Frame} {meth : Method} {c : Code} {Q : State → Prop} {Z : xZ} {B0 nL : Nat} {lay : xK → Nat} {C : xK → Option xE} {cells slots pc : Nat} {lv : List (Option Value)} {rest st : List Value} {cc : ByteArray} {own : String} {post : Option Value → (xK → Nat) → (xK → Option xE) → Prop} {px : String → Prop} {ce sl : Nat}
/-- an end that returns -/
theorem v_x {lay0 : xK → Nat} {C0 : xK → Option xE} (k : V p l e R s m args below meth c (MQ below (yQ Z B0 post) args s ce sl (fun q => B0 ≤ q)) Z B0 nL lay C cells slots pc lv st) : V p l e R s m args below meth c (vx_MQ below (yQ Z B0 post) (yX Z B0 lay0 C0 px) args s ce sl (fun q => B0 ≤ q)) Z B0 nL lay C cells slots pc lv st :=
  fun ls H locs hl hP hS => vx_ret (k ls H locs hl hP hS)
theorem v_throw (X : Cx p m meth c cc nL s args RX4 Z B0) (hE : xEx B0 s ∧ ∀ x ∈ c.exceptionTable.toList, False) (hl0 : l.stackTraces = false) {ik is ic : Nat} {E text : String} {ps : List Nat} (hxin : xin (vx_atS RX4 ic E ["java/lang/RuntimeException", "java/lang/Exception"]) ps = true) (hk : Cond.classLink RX4 ik E ∈ BG) (hini : Cond.initialized E ∈ BG) (htx : (is, text) ∈ XT) (hfit : Bundle.fit E = true)
    (d0 : decode cc pc = .ok (.new ik, 3)) (d3 : decode cc (pc + 3) = .ok (.dup, 1)) (d4 : decode cc (pc + 4) = .ok (.ldc is, 2)) (d6 : decode cc (pc + 6) = .ok (.invokespecial ic, 3)) (d9 : decode cc (pc + 9) = .ok (.athrow, 1))
    (hR : 5 < R.frames ∧ (rest.map fun v => v.category).sum + 82 ≤ R.locals ∧ cells + 1 ≤ R.cells ∧ slots + 6 ≤ R.slots) (hc : cells + 1 ≤ ce ∧ slots + 6 ≤ sl) (hpx : px E) : V p l e R s m args below meth c (vx_MQ below (yQ Z B0 post) (yX Z B0 lay C px) args s ce sl (fun q => B0 ≤ q)) Z B0 nL lay C cells slots pc lv rest := by
  intro ls H locs hl hP hS
  obtain ⟨sa, hsa⟩ := hE.1.2.2 _ htx
  have hts := X.1.2.2.2.2
  refine vx_throwS (names := ["java/lang/RuntimeException", "java/lang/Exception"]) (A := fun q => B0 ≤ q) X.1.1 X.1.2.1 hl0 X.1.2.2.2.1 hfit (by decide +kernel) (hts _ hk) (hts _ hini) hsa (fun w hw => ?_) (fun w hw => ?_) hE.1.2.1.1 hE.1.2.1.2 hS (by rw [hl.1, X.1.2.2.1]) d0 d3 d4 d6 d9 (fun x hx => (hE.2 x hx).elim) hR.1 hR.2.1 hR.2.2.1 hR.2.2.2 X.2.2.2 (fun t _ hz hq => ⟨hpx, hP.ext hq, Nat.le_trans hS.1 hz, fun q h1 h2 => (hq q (Nat.lt_of_lt_of_le h1 hS.1)).trans (hS.2.1 q h1 h2)⟩) hS.2.2 hc.1 hc.2
  · rcases (xin_at hxin hw).1 with g | g
    · exact hts _ g
    · exact va_Nw.use (by simp only [XD, List.mem_cons, List.not_mem_nil, or_false] at g; rcases g with rfl | rfl | rfl | rfl | rfl | rfl <;> rfl) (hE.1.1 w g)
  · rcases List.mem_cons.mp hw with rfl | hw
    · rfl
    · rcases List.mem_cons.mp hw with rfl | hw
      · rfl
      · exact (xin_at hxin hw).2
variable {y : MethodName} {cb : ByteArray} {nLb fr lo n : Nat} {ret : Option FieldType} {py : String → Prop} {posty : Option Value → (xK → Nat) → (xK → Option xE) → Prop} {cey sly : Nat}
/-- behind a call that may throw: on, or out with what it threw -/
theorem x_xcall {H : Heap} {locs : List Loc} {ls : Array Slot} {st0 : List Value} {a : Array Value} (hr : vx_Run p l e R s m args below meth c H locs cells slots cey sly (F0 m pc ls st0) rest (yQ Z B0 posty a) (yX Z B0 lay C py) (fun q => B0 ≤ q)) (hE : xEx B0 s ∧ ∀ x ∈ c.exceptionTable.toList, False) (hlk : meth.locks = false) (hS : va_S (fun q => B0 ≤ q) s.heap H locs) (hl : lv_has ls nL (xl lv 0)) (hc : cells + cey ≤ ce ∧ slots + sly ≤ sl) (hpx : ∀ E, py E → px E)
    (kk : ∀ (v : Option Value) (lay' : xK → Nat) (C' : xK → Option xE), posty v lay' C' → V p l e R s m args below meth c (vx_MQ below (yQ Z B0 post) (yX Z B0 lay C px) args s ce sl (fun q => B0 ≤ q)) Z B0 nL lay' C' (cells + cey) (slots + sly) (pc + 3) lv (v.toList ++ rest)) : W p l e R s m args below meth c H locs cells slots (vx_MQ below (yQ Z B0 post) (yX Z B0 lay C px) args s ce sl (fun q => B0 ≤ q)) (F0 m pc ls st0) := by
  intro T hT X
  rcases hr T hT X with ⟨v, st₀, t, T', L, h0, X', hL, e1, e2, ⟨⟨v', lay', C', hv, hp, hP'⟩, hF⟩, st⟩ | ⟨q, st₀, t, T', L, E, ce9, h0, X', hL, e1, e2, ⟨h1, h2, hF⟩, hce, hcv, hcl, st⟩
  · cases hv
    obtain ⟨k1, k2, k3⟩ := vx_keep (free := fun q => B0 ≤ q) h0 e1 hS (fun _ _ h => h) (fun _ h => h) hL hF
    obtain ⟨t2, a1, b1⟩ := kk v lay' C' hp ls T'.heap (locs ++ L) hl (by rw [e1]; exact hP') k3 T' rfl X'
    exact ⟨t2, st t2 a1, b1⟩
  · obtain ⟨k1, k2, k3⟩ := vx_keep (free := fun q => B0 ≤ q) h0 e1 hS (fun _ _ h => h) (fun _ h => h) hL hF
    obtain ⟨t2, a1, b1⟩ := vx_out (Qc := yQ Z B0 post) (XC := yX Z B0 lay C px) (free := fun q => B0 ≤ q) (pc := pc) (ls := ls) (rest := rest) (mc := ce) (ms := sl) (fun x hx => (hE.2 x hx).elim) hlk (q := q) (E := E) (ce := ce9) (H := T'.heap) (by rw [e1]; exact hce) hcv hcl (fun t9 ht9 _ => ⟨hpx E h1, by rw [ht9, e1]; exact h2, k3.F ht9⟩) k3.2.2 hc.1 hc.2 T' rfl X'
    exact ⟨t2, st.trans a1, b1⟩
theorem v_xV (X : Cx p m meth c cc nL s args own Z B0) (hE : xEx B0 s ∧ ∀ x ∈ c.exceptionTable.toList, False) (M : xMV y cb nLb ret n) {b : Nat} (As : List Value) (rest : List Value) (h : YX l y cb nLb ret fr lo cey sly Z B0 (.ref b :: As) lay C posty py) {index : Nat} (hlink : Cond.methodLink own index y ∈ BG) (k : xK) {ci : Nat} {f : Nat → Value} (he : C k = some (.inr (ci, f))) (ha : lay k = b) {T : u_T} {N : Nat} {cn : String} (hc : vwCl[ci]? = some (cn, T, N)) (hcn : cn = y.cls) (hn : As.length = n) (hst : st = As.reverse ++ .ref b :: rest) (hW : (rest.map fun v => v.category).sum ≤ 8) (hdg : decode cc pc = .ok (.invokevirtual index, 3)) (hR : fr + 1 ≤ R.frames ∧ 8 + (nLb + 11) + lo ≤ R.locals) (hf : cells + cey ≤ R.cells ∧ slots + sly ≤ R.slots) (hce : cells + cey ≤ ce ∧ slots + sly ≤ sl) (hpx : ∀ E, py E → px E)
    (kk : ∀ (v : Option Value) (lay' : xK → Nat) (C' : xK → Option xE), posty v lay' C' → V p l e R s m args below meth c (vx_MQ below (yQ Z B0 post) (yX Z B0 lay C px) args s ce sl (fun q => B0 ≤ q)) Z B0 nL lay' C' (cells + cey) (slots + sly) (pc + 3) lv (v.toList ++ rest)) : V p l e R s m args below meth c (vx_MQ below (yQ Z B0 post) (yX Z B0 lay C px) args s ce sl (fun q => B0 ≤ q)) Z B0 nL lay C cells slots pc lv st := by
  intro ls H locs hl hP hS
  subst ha hcn hst
  refine x_xcall (vx_runV (C := y.cls) (n := n) (As := As) (rest := rest) X.1 h (cwV n X.1.2.2.2.2 (BG_sub (fun w hw => ?_)) rfl rfl rfl ⟨rfl, M.2.2.2.2.1⟩ hR) ⟨yPX.blind, ?_, fun U hU hW9 => ⟨⟨rfl, by rw [hU]; exact hP, X.2.1.warm hW9, by rw [hU]; exact Nat.le_trans X.2.2.1 hS.1⟩, hE.1.go (locs := locs) hW9 (by rw [hU]; exact hS)⟩⟩ rfl hn hl.1 rfl (lv_room hW) hdg hf) hE X.2.2.2 hS hl hce hpx kk
  · rcases List.mem_append.mp hw with hw | hw
    · simp only [List.mem_cons, List.not_mem_nil, or_false] at hw
      rcases hw with rfl | rfl | rfl | rfl
      · exact hlink
      · exact M.1
      · exact M.2.1
      · exact M.2.2.1
    · rcases List.mem_cons.mp hw with rfl | hw
      · exact M.2.2.2.1
      · exact hw
  · obtain ⟨r, h1, cell, q1, q2, q3, -⟩ := hP.1 k _ he
    cases h1.symm.trans hc
    exact ⟨cell, q1, by rw [q3]; rfl, by rw [q2]; exact (X.2.1.1.1 ci _ hc).2.1⟩
theorem v_xS (X : Cx p m meth c cc nL s args own Z B0) (hE : xEx B0 s ∧ ∀ x ∈ c.exceptionTable.toList, False) (M : xMS y cb nLb ret n) (As : List Value) (rest : List Value) (h : YX l y cb nLb ret fr lo cey sly Z B0 As lay C posty py) {index : Nat} (hlink : Cond.methodLink own index y ∈ BG) (hown : y.cls = own) (hn : As.length = n) (hst : st = As.reverse ++ rest) (hW : (rest.map fun v => v.category).sum ≤ 8) (hdg : decode cc pc = .ok (.invokestatic index, 3)) (hR : fr + 1 ≤ R.frames ∧ 8 + (nLb + 11) + lo ≤ R.locals) (hf : cells + cey ≤ R.cells ∧ slots + sly ≤ R.slots) (hce : cells + cey ≤ ce ∧ slots + sly ≤ sl) (hpx : ∀ E, py E → px E)
    (kk : ∀ (v : Option Value) (lay' : xK → Nat) (C' : xK → Option xE), posty v lay' C' → V p l e R s m args below meth c (vx_MQ below (yQ Z B0 post) (yX Z B0 lay C px) args s ce sl (fun q => B0 ≤ q)) Z B0 nL lay' C' (cells + cey) (slots + sly) (pc + 3) lv (v.toList ++ rest)) : V p l e R s m args below meth c (vx_MQ below (yQ Z B0 post) (yX Z B0 lay C px) args s ce sl (fun q => B0 ≤ q)) Z B0 nL lay C cells slots pc lv st := by
  intro ls H locs hl hP hS
  subst hst
  refine x_xcall (vx_runS (n := n) (As := As) (rest := rest) X.1 h (cwS n X.1.2.2.2.2 (BG_sub (fun w hw => ?_)) rfl rfl rfl ⟨hown, M.2.2.2.1⟩ hR) ⟨yPX.blind, fun U hU hW9 => ⟨⟨rfl, by rw [hU]; exact hP, X.2.1.warm hW9, by rw [hU]; exact Nat.le_trans X.2.2.1 hS.1⟩, hE.1.go (locs := locs) hW9 (by rw [hU]; exact hS)⟩⟩ rfl hn hl.1 rfl (lv_room hW) hdg hf) hE X.2.2.2 hS hl hce hpx kk
  rcases List.mem_append.mp hw with hw | hw
  · simp only [List.mem_cons, List.not_mem_nil, or_false] at hw
    rcases hw with rfl | rfl | rfl
    · exact hlink
    · exact M.1
    · rw [← hown]; exact M.2.1
  · rcases List.mem_cons.mp hw with rfl | hw
    · exact M.2.2.1
    · exact hw
end XX
theorem xkO : Cond.classLink RX4 94 "java/lang/IndexOutOfBoundsException" ∈ BG := (xw_at tW_3 2 rfl)
theorem xiO : Cond.initialized "java/lang/IndexOutOfBoundsException" ∈ BG := (xw_at tW_0 24 rfl)
theorem xfO : Bundle.fit "java/lang/IndexOutOfBoundsException" = true := by decide +kernel
theorem xkA : Cond.classLink RX4 79 "java/lang/IllegalArgumentException" ∈ BG := (xw_at tW_5 8 rfl)
theorem xiA : Cond.initialized "java/lang/IllegalArgumentException" ∈ BG := (xw_at tW_0 25 rfl)
theorem xfA : Bundle.fit "java/lang/IllegalArgumentException" = true := by decide +kernel
theorem xkS : Cond.classLink RX4 39 "java/lang/IllegalStateException" ∈ BG := (xw_at tW_6 24 rfl)
theorem xiS : Cond.initialized "java/lang/IllegalStateException" ∈ BG := (xw_at tW_0 26 rfl)
theorem xfS : Bundle.fit "java/lang/IllegalStateException" = true := by decide +kernel
