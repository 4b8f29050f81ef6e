/-! the law's own calls: methods with handlers -/
def xNc (U : State) : Prop := va_Nc eA eO U ∧ va_Nc eS eO U ∧ va_Nc eS eA U
theorem xNc.moved {s U : State} (hvm : s.vm.Alike U.vm) (h : xNc s) : xNc U := ⟨h.1.moved hvm, h.2.1.moved hvm, h.2.2.moved hvm⟩
def yPW (Z : xZ) (B0 : Nat) (av : List Value) (lay : xK → Nat) (C : xK → Option xE) : Array Value → State → Prop := fun v U => yPX Z B0 av lay C v U ∧ xNc U
theorem yPW.blind {Z : xZ} {B0 : Nat} {av : List Value} {lay : xK → Nat} {C : xK → Option xE} : FrameBlind (yPW Z B0 av lay C) := fun a U g mk h => ⟨yPX.blind a U g mk h.1, h.2.moved (U := U.calling g mk a) (Vm.Alike.refl U.vm)⟩
def xMW (y : MethodName) (cb : ByteArray) (nL : Nat) (ret : Option FieldType) (hh : List (Nat × Nat × Nat × Nat)) (n : Nat) : Prop := Cond.static y ∈ BG ∧ Cond.initialized y.cls ∈ BG ∧ Cond.codeWith y cb nL ret hh ∈ BG ∧ (y.cls ≠ "java/lang/invoke/MethodHandle" ∧ y.cls ≠ "java/lang/invoke/VarHandle" ∧ (parseMethodDescriptor y.desc).map (fun d => d.parameters.length) = some n) ∧ plainName y.cls = true
/-- a method with handlers that always returns -/
def YC (l : Launch) (y : MethodName) (cc : ByteArray) (nL : Nat) (ret : Option FieldType) (hh : List (Nat × Nat × Nat × Nat)) (fr lo ce sl : Nat) (Z : xZ) (B0 : Nat) (av : List Value) (lay : xK → Nat) (C : xK → Option xE) (post : Option Value → (xK → Nat) → (xK → Option xE) → Prop) : Prop :=
  vx_Met l y (.codeWith y cc nL ret hh :: BG) { frames := fr, cells := ce, slots := sl, locals := lo } (yPW Z B0 av lay C) (yQ Z B0 post) (fun _ _ _ => False) ce sl (fun q => B0 ≤ q)
theorem YC_of {l : Launch} {y : MethodName} {cc : ByteArray} {nL : Nat} {ret : Option FieldType} {hh : List (Nat × Nat × Nat × Nat)} {fr lo ce sl : Nat} {Z : xZ} {B0 : Nat} {av : List Value} {lay : xK → Nat} {C : xK → Option xE} {post : Option Value → (xK → Nat) → (xK → Option xE) → Prop} {n : Nat} (M : xMW y cc nL ret hh n) (own : String) (hown : y.cls = own) (lv0 : List (Option Value)) (hlv : xl lv0 0 = lv_args 0 av) (hlen : (lg_sl av).length ≤ nL)
    (body : ∀ (p : Program) (e : Env) (s : State) (m : MethodId) (args : Array Value) (below : List Frame) (meth : Method) (c : Code), Cx p m meth c cc nL s args own Z B0 → meth.sig.returnType = ret → (xEx B0 s ∧ xNc s) → c.exceptionTable.toList = tableOf hh → V p l e { frames := fr, cells := ce, slots := sl, locals := lo } s m args below meth c (vx_MQ below (yQ Z B0 post) (fun _ _ _ => False) args s ce sl (fun q => B0 ≤ q)) Z B0 nL lay C 0 0 0 lv0 []) : YC l y cc nL ret hh fr lo ce sl Z B0 av lay C post := by
  refine vx_ofWH (cc := cc) (maxL := nL) (ret := ret) (hh := hh) M.2.2.2.2 rfl ?_
  intro p e s m args below meth c s₁ B hml hv
  obtain ⟨⟨⟨rfl, hP, hKn, hB⟩, hE⟩, hN⟩ := hv
  have X : Cx p m meth c cc nL s av.toArray own Z B0 := ⟨⟨B.exec, B.bytes, hml, by rw [← hown]; exact findClass_of_methodNamed B.named, fun w hw => atoms_spec (ws := Cond.codeWith y cc nL ret hh :: BG) B.pre w (List.mem_cons_of_mem _ hw)⟩, hKn, hB, B.notSynchronized⟩
  have ht := vx_table (x := y) B (atoms_spec (ws := Cond.codeWith y cc nL ret hh :: BG) B.pre _ List.mem_cons_self)
  rw [lg_entry_eq]
  exact body p e s m av.toArray below meth c X B.returns ⟨hE, hN⟩ ht _ s.heap [] (by rw [hlv]; exact lv_entry av hlen) hP va_S.rf
/-- the handler that a throw comes to -/
def hnd (c : Code) (own : String) (s : State) (pc : Nat) (E : String) (hpc : Nat) : Prop := (E = eO ∨ E = eA ∨ E = eS) ∧ ∃ (pre : List ExceptionTableEntry) (x : ExceptionTableEntry) (suf : List ExceptionTableEntry), c.exceptionTable.toList = pre ++ x :: suf ∧ (∀ z ∈ pre, covers z pc = false ∨ (z.catchType ≠ 0 ∧ ∃ nm : String, Cond.classLink own z.catchType nm ∈ BG ∧ va_Nc E nm s)) ∧ covers x pc = true ∧ x.catchType ≠ 0 ∧ Cond.classLink own x.catchType E ∈ BG ∧ x.handlerPc = hpc
section XW
variable {p : Program} {l : Launch} {e : Env} {R : Room} {s : State} {m : MethodId} {args : Array Value} {below : List Frame} {meth : Method} {c : Code} {Q : State → Prop} {Z : xZ} {B0 nL : Nat} {lay : xK → Nat} {C : xK → Option xE} {cells slots pc : Nat} {lv : List (Option Value)} {rest st : List Value} {cc : ByteArray} {own : String}
variable {y : MethodName} {cb : ByteArray} {nLb fr lo n : Nat} {ret : Option FieldType} {py : String → Prop} {posty : Option Value → (xK → Nat) → (xK → Option xE) → Prop} {cey sly : Nat}
/-- a call that may throw, in a method that catches it -/
theorem v_wV (X : Cx p m meth c cc nL s args own Z B0) (hE : xEx B0 s ∧ xNc s) (M : xMV y cb nLb ret n) {b : Nat} (As : List Value) (rest : List Value) (h : YX l y cb nLb ret fr lo cey sly Z B0 (.ref b :: As) lay C posty py) {index : Nat} (hlink : Cond.methodLink own index y ∈ BG) (k : xK) {ci : Nat} {f : Nat → Value} (he : C k = some (.inr (ci, f))) (ha : lay k = b) {T : u_T} {N : Nat} {cn : String} (hc : vwCl[ci]? = some (cn, T, N)) (hcn : cn = y.cls) (hn : As.length = n) (hst : st = As.reverse ++ .ref b :: rest) (hW : (rest.map fun v => v.category).sum ≤ 8) (hdg : decode cc pc = .ok (.invokevirtual index, 3)) (hR : fr + 1 ≤ R.frames ∧ 8 + (nLb + 11) + lo ≤ R.locals) (hf : cells + cey ≤ R.cells ∧ slots + sly ≤ R.slots)
    (kk : ∀ (v : Option Value) (lay' : xK → Nat) (C' : xK → Option xE), posty v lay' C' → V p l e R s m args below meth c Q Z B0 nL lay' C' (cells + cey) (slots + sly) (pc + 3) lv (v.toList ++ rest))
    (kx : ∀ (E : String) (q : Nat), py E → ∃ hpc, hnd c own s pc E hpc ∧ V p l e R s m args below meth c Q Z B0 nL lay C (cells + cey) (slots + sly) hpc lv [.ref q]) : V p l e R s m args below meth c Q Z B0 nL lay C cells slots pc lv st := by
  intro ls H locs hl hP hS
  subst ha hcn hst
  have hr := vx_runV (e := e) (below := below) (meth := meth) (H := H) (locs := locs) (cells := cells) (slots := slots) (C := y.cls) (n := n) (As := As) (rest := rest) (g := F0 m pc ls (As.reverse ++ .ref (lay k) :: rest)) X.1 h (cwV n X.1.2.2.2.2 (BG_sub (fun w hw => by
    rcases List.mem_append.mp hw with hw | hw
    · simp only [List.mem_cons, List.not_mem_nil, or_false] at hw
      rcases hw with rfl | rfl | rfl | rfl
      · exact hlink
      · exact M.1
      · exact M.2.1
      · exact M.2.2.1
    · rcases List.mem_cons.mp hw with rfl | hw
      · exact M.2.2.2.1
      · exact hw)) rfl rfl rfl ⟨rfl, M.2.2.2.2.1⟩ hR) ⟨yPX.blind, by
    obtain ⟨r, h1, cell, q1, q2, q3, -⟩ := hP.1 k _ he
    cases h1.symm.trans hc
    exact ⟨cell, q1, by rw [q3]; rfl, by rw [q2]; exact (X.2.1.1.1 ci _ hc).2.1⟩, fun U hU hW9 => ⟨⟨rfl, by rw [hU]; exact hP, X.2.1.warm hW9, by rw [hU]; exact Nat.le_trans X.2.2.1 hS.1⟩, hE.1.go (locs := locs) hW9 (by rw [hU]; exact hS)⟩⟩ rfl hn hl.1 rfl (lv_room hW) hdg hf
  intro T hT X9
  rcases hr T hT X9 with ⟨v, st₀, t, T', L, h0, X', hL, e1, e2, ⟨⟨v', lay', C', hv, hp, hP'⟩, hF⟩, stp⟩ | ⟨q, st₀, t, T', L, E, ce9, h0, X', hL, e1, e2, ⟨h1, h2, hF⟩, hce, hcv, hcl, stp⟩
  · cases hv
    obtain ⟨k1, k2, k3⟩ := vx_keep (free := fun q => B0 ≤ q) h0 e1 hS (fun _ _ h => h) (fun _ h => h) hL hF
    obtain ⟨t2, a1, b1⟩ := kk v lay' C' hp ls T'.heap (locs ++ L) hl (by rw [e1]; exact hP') k3 T' rfl X'
    exact ⟨t2, stp t2 a1, b1⟩
  · obtain ⟨k1, k2, k3⟩ := vx_keep (free := fun q => B0 ≤ q) h0 e1 hS (fun _ _ h => h) (fun _ h => h) hL hF
    obtain ⟨hpc, ⟨hEs, pre, x, suf, g1, g2, g3, g4, g5, g6⟩, kv⟩ := kx E q h1
    have hcast : (Cond.castable E E).before args s = true := by
      rcases hEs with rfl | rfl | rfl
      · exact va_Nw.use rfl (hE.1.1 _ (List.mem_of_getElem? (i := 3) rfl))
      · exact va_Nw.use rfl (hE.1.1 _ (List.mem_of_getElem? (i := 4) rfl))
      · exact va_Nw.use rfl (hE.1.1 _ (List.mem_of_getElem? (i := 5) rfl))
    subst g6
    obtain ⟨t2, a1, b1⟩ := vx_catch (H := T'.heap) (pc := pc) (ls := ls) (rest := rest) (E := E) (ce := ce9) (q := q) X.1.2.2.2.1 pre x suf g1 (fun z hz => by
      rcases g2 z hz with w | ⟨w1, nm, w2, w3⟩
      · exact Or.inl w
      · exact Or.inr ⟨w1, nm, X.1.2.2.2.2 _ w2, w3⟩) g3 g4 (X.1.2.2.2.2 _ g5) hcast (by rw [e1]; exact hce) hcv hcl (kv ls T'.heap (locs ++ L) hl (by rw [e1]; exact h2) k3) T' rfl X'
    exact ⟨t2, stp.trans a1, b1⟩
end XW
theorem cX_xup {Z : xZ} {lay : xK → Nat} {μ : Mu} {tb : Tb} {r : xK → Option xE} {k : xK} (hk : 40 ≤ k.1) (e : xE) : ∀ j, cX Z lay μ tb (xup r k e) j = xup (cX Z lay μ tb r) k e j := by
  rintro ⟨a, b⟩
  by_cases h : (a, b) = k
  · subst h
    dsimp only at hk
    rw [xup_at, cX_r (by show a ≠ 0; omega) (by show a ≠ 1; omega) (by show a ≠ 2; omega) (by show a ≠ 3; omega) (by show a ≠ 4; omega) (by show a ≠ 5; omega) (by show a ≠ 6; omega) (by show a ≠ 7; omega) (by show a ≠ 10; omega) (by show a ≠ 11; omega) (by show a ≠ 12; omega) (by show a ≠ 13; omega) (by show a ≠ 14; omega) (by show a ≠ 20; omega) (by show a ≠ 30; omega) (by show a ≠ 31; omega), xup_at]
  · rw [xup_ne _ _ h]
    unfold cX
    rw [xup_ne _ _ h]
theorem hnd_1 {c : Code} {s : State} {a b h k : Nat} {hs : List (Nat × Nat × Nat × Nat)} {own E : String} {pc : Nat} (ht : c.exceptionTable.toList = tableOf ((a, b, h, k) :: hs)) (hE : E = eO ∨ E = eA ∨ E = eS) (hcov : covers ⟨a, b, h, k⟩ pc = true) (hk : k ≠ 0) (hl : Cond.classLink own k E ∈ BG) : hnd c own s pc E h := ⟨hE, [], _, _, ht, fun z hz => absurd hz List.not_mem_nil, hcov, hk, hl, rfl⟩
theorem hnd_2 {c : Code} {s : State} {a b h k a1 b1 h1 k1 : Nat} {hs : List (Nat × Nat × Nat × Nat)} {own E E1 : String} {pc : Nat} (ht : c.exceptionTable.toList = tableOf ((a1, b1, h1, k1) :: (a, b, h, k) :: hs)) (hE : E = eO ∨ E = eA ∨ E = eS) (hk1 : k1 ≠ 0) (hl1 : Cond.classLink own k1 E1 ∈ BG) (hn1 : va_Nc E E1 s) (hcov : covers ⟨a, b, h, k⟩ pc = true) (hk : k ≠ 0) (hl : Cond.classLink own k E ∈ BG) : hnd c own s pc E h := ⟨hE, [_], _, _, ht, fun z hz => by rw [List.mem_singleton.mp hz]; exact Or.inr ⟨hk1, _, hl1, hn1⟩, hcov, hk, hl, rfl⟩
theorem hnd_3 {c : Code} {s : State} {a b h k a1 b1 h1 k1 a2 b2 h2 k2 : Nat} {hs : List (Nat × Nat × Nat × Nat)} {own E E1 E2 : String} {pc : Nat} (ht : c.exceptionTable.toList = tableOf ((a1, b1, h1, k1) :: (a2, b2, h2, k2) :: (a, b, h, k) :: hs)) (hE : E = eO ∨ E = eA ∨ E = eS) (hk1 : k1 ≠ 0) (hl1 : Cond.classLink own k1 E1 ∈ BG) (hn1 : va_Nc E E1 s) (hk2 : k2 ≠ 0) (hl2 : Cond.classLink own k2 E2 ∈ BG) (hn2 : va_Nc E E2 s) (hcov : covers ⟨a, b, h, k⟩ pc = true) (hk : k ≠ 0) (hl : Cond.classLink own k E ∈ BG) : hnd c own s pc E h := ⟨hE, [_, _], _, _, ht, fun z hz => by
  rcases List.mem_cons.mp hz with rfl | hz
  · exact Or.inr ⟨hk1, _, hl1, hn1⟩
  · rw [List.mem_singleton.mp hz]; exact Or.inr ⟨hk2, _, hl2, hn2⟩, hcov, hk, hl, rfl⟩
