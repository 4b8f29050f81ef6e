/-! two objects in one world: the kinds of keys exchanged; the law's own methods: contracts that return, and their calls -/
/-- the kinds below 40 and those from 500 on exchanged -/
def sw (k : xK) : xK := if k.1 < 40 then (k.1 + 500, k.2) else if 500 ≤ k.1 ∧ k.1 < 540 then (k.1 - 500, k.2) else k
def csw {α : Type} (f : xK → α) : xK → α := fun k => f (sw k)
theorem sw_sw (k : xK) : sw (sw k) = k := by
  obtain ⟨a, b⟩ := k
  unfold sw
  by_cases h : a < 40
  · rw [if_pos (show (a, b).1 < 40 from h), if_neg (show ¬ ((a + 500, b) : xK).1 < 40 by show ¬ a + 500 < 40; omega), if_pos (show 500 ≤ ((a + 500, b) : xK).1 ∧ ((a + 500, b) : xK).1 < 540 by show 500 ≤ a + 500 ∧ a + 500 < 540; omega)]
    show ((a + 500 - 500, b) : xK) = (a, b)
    rw [Nat.add_sub_cancel]
  · rw [if_neg (show ¬ ((a, b) : xK).1 < 40 from h)]
    by_cases h2 : 500 ≤ a ∧ a < 540
    · rw [if_pos (show 500 ≤ ((a, b) : xK).1 ∧ ((a, b) : xK).1 < 540 from h2), if_pos (show ((a - 500, b) : xK).1 < 40 by show a - 500 < 40; omega)]
      show ((a - 500 + 500, b) : xK) = (a, b)
      rw [Nat.sub_add_cancel h2.1]
    · rw [if_neg (show ¬ (500 ≤ ((a, b) : xK).1 ∧ ((a, b) : xK).1 < 540) from h2), if_neg (show ¬ ((a, b) : xK).1 < 40 from h), if_neg (show ¬ (500 ≤ ((a, b) : xK).1 ∧ ((a, b) : xK).1 < 540) from h2)]
theorem csw_csw {α : Type} (f : xK → α) : csw (csw f) = f := funext fun k => congrArg f (sw_sw k)
theorem sw_o (j : Nat) {a : Nat} (h : a < 40) : sw (a, j) = (a + 500, j) := if_pos h
theorem sw_t (j : Nat) {a : Nat} (h : 500 ≤ a ∧ a < 540) : sw (a, j) = (a - 500, j) := by
  unfold sw
  rw [if_neg (show ¬ ((a, j) : xK).1 < 40 by show ¬ a < 40; omega), if_pos (show 500 ≤ ((a, j) : xK).1 ∧ ((a, j) : xK).1 < 540 from h)]
theorem sw_r {k : xK} (h : 40 ≤ k.1) (h2 : k.1 < 500 ∨ 540 ≤ k.1) : sw k = k := by
  unfold sw
  rw [if_neg (by omega), if_neg (by omega)]
theorem xP_sw {Z : xZ} {B0 : Nat} {lay : xK → Nat} {C : xK → Option xE} {H : Heap} (h : xP Z B0 lay C H) : xP Z B0 (csw lay) (csw C) H := by
  refine ⟨fun k e hk => h.1 (sw k) e hk, fun k k' h1 h2 h3 => ?_, fun k hk => h.2.2 (sw k) hk⟩
  have := h.2.1 (sw k) (sw k') h1 h2 h3
  rw [← sw_sw k, this, sw_sw]
theorem xP_swe {Z : xZ} {B0 : Nat} {lay : xK → Nat} {C : xK → Option xE} {H : Heap} : xP Z B0 (csw lay) (csw C) H = xP Z B0 lay C H := propext ⟨fun h => by have := xP_sw h; rwa [csw_csw, csw_csw] at this, xP_sw⟩
theorem yPW_sw {Z : xZ} {B0 : Nat} {av : List Value} {lay : xK → Nat} {C : xK → Option xE} : yPW Z B0 av (csw lay) (csw C) = yPW Z B0 av lay C := by
  funext v U
  unfold yPW yPX yP
  rw [xP_swe]
theorem yQ_sw {Z : xZ} {B0 : Nat} {post : Option Value → (xK → Nat) → (xK → Option xE) → Prop} : yQ Z B0 (fun v lay' C' => post v (csw lay') (csw C')) = yQ Z B0 post := by
  funext a st oc t
  unfold yQ
  refine propext ⟨?_, ?_⟩
  · rintro ⟨⟨v, lay, C, h1, h2, h3⟩, h4⟩
    exact ⟨⟨v, csw lay, csw C, h1, h2, xP_sw h3⟩, h4⟩
  · rintro ⟨⟨v, lay, C, h1, h2, h3⟩, h4⟩
    exact ⟨⟨v, csw lay, csw C, h1, by show post v (csw (csw lay)) (csw (csw C)); rw [csw_csw, csw_csw]; exact h2, xP_sw h3⟩, h4⟩
section SW
variable {l : Launch} {y : MethodName} {cc : ByteArray} {nL : Nat} {ret : Option FieldType} {hh : List (Nat × Nat × Nat × Nat)} {fr lo ce sl : Nat} {Z : xZ} {B0 : Nat} {av : List Value} {lay : xK → Nat} {C : xK → Option xE} {post post' : Option Value → (xK → Nat) → (xK → Option xE) → Prop}
theorem YC_sw (h : YC l y cc nL ret hh fr lo ce sl Z B0 av (csw lay) (csw C) post) : YC l y cc nL ret hh fr lo ce sl Z B0 av lay C (fun v lay' C' => post v (csw lay') (csw C')) := by
  unfold YC at h ⊢
  rw [yQ_sw, ← yPW_sw (lay := lay)]
  exact h
/-- a law's own method without handlers, that returns -/
def YL (l : Launch) (y : MethodName) (cc : ByteArray) (nL : Nat) (ret : Option FieldType) (fr lo ce sl : Nat) (Z : xZ) (B0 : Nat) (av : List Value) (lay : xK → Nat) (C : xK → Option xE) (post : Option Value → (xK → Nat) → (xK → Option xE) → Prop) : Prop :=
  vx_Met l y (.code y cc nL ret :: BG) { frames := fr, cells := ce, slots := sl, locals := lo } (yPW Z B0 av lay C) (yQ Z B0 post) (fun _ _ _ => False) ce sl (fun q => B0 ≤ q)
theorem YL_sw (h : YL l y cc nL ret fr lo ce sl Z B0 av (csw lay) (csw C) post) : YL l y cc nL ret fr lo ce sl Z B0 av lay C (fun v lay' C' => post v (csw lay') (csw C')) := by
  unfold YL at h ⊢
  rw [yQ_sw, ← yPW_sw (lay := lay)]
  exact h
theorem YX_mono {px px' : String → Prop} (h : YX l y cc nL ret fr lo ce sl Z B0 av lay C post px) (h1 : ∀ v lay' C', post v lay' C' → post' v lay' C') (h2 : ∀ E, px E → px' E) : YX l y cc nL ret fr lo ce sl Z B0 av lay C post' px' := by
  unfold YX vx_Met at h ⊢
  refine h.mono (fun _ _ z => z) (fun _ _ _ _ _ z => z) ?_
  rintro a s o t - (⟨⟨⟨v, l9, C9, e1, e2, e3⟩, hF⟩, hL⟩ | ⟨q, e1, E, ce9, L, ⟨g1, g2, g3⟩, g4⟩)
  · exact Or.inl ⟨⟨⟨v, l9, C9, e1, h1 _ _ _ e2, e3⟩, hF⟩, hL⟩
  · exact Or.inr ⟨q, e1, E, ce9, L, ⟨h2 E g1, g2, g3⟩, g4⟩
theorem YL_of {n : Nat} (M : xMB y cc nL ret n) (own : String) (hown : y.cls = own) (lv0 : List (Option Value)) (hlv : xl lv0 0 = lv_args 0 av) (hlen : (lg_sl av).length ≤ nL)
    (body : ∀ (p : Program) (e : Env) (s : State) (m : MethodId) (args : Array Value) (below : List Frame) (meth : Method) (c : Code), Cx p m meth c cc nL s args own Z B0 → meth.sig.returnType = ret → (xEx B0 s ∧ xNc s) → V p l e { frames := fr, cells := ce, slots := sl, locals := lo } s m args below meth c (vx_MQ below (yQ Z B0 post) (fun _ _ _ => False) args s ce sl (fun q => B0 ≤ q)) Z B0 nL lay C 0 0 0 lv0 []) : YL l y cc nL ret fr lo ce sl Z B0 av lay C post := by
  refine vx_ofW (cc := cc) (maxL := nL) (ret := ret) M.2.2.2 rfl ?_
  intro p e s m args below meth c s₁ B hml ht hv
  obtain ⟨⟨⟨rfl, hP, hKn, hB⟩, hE⟩, hN⟩ := hv
  have X : Cx p m meth c cc nL s av.toArray own Z B0 := ⟨⟨B.exec, B.bytes, hml, by rw [← hown]; exact findClass_of_methodNamed B.named, fun w hw => atoms_spec (ws := Cond.code y cc nL ret :: BG) B.pre w (List.mem_cons_of_mem _ hw)⟩, hKn, hB, B.notSynchronized⟩
  rw [lg_entry_eq]
  exact body p e s m av.toArray below meth c X B.returns ⟨hE, hN⟩ _ s.heap [] (by rw [hlv]; exact lv_entry av hlen) hP va_S.rf
end SW
theorem v_xr {p : Program} {l : Launch} {e : Env} {R : Room} {s : State} {m : MethodId} {args : Array Value} {below : List Frame} {meth : Method} {c : Code} {Z : xZ} {B0 nL : Nat} {lay : xK → Nat} {C : xK → Option xE} {cells slots pc : Nat} {lv : List (Option Value)} {st : List Value} {post : Option Value → (xK → Nat) → (xK → Option xE) → Prop} {ce sl : Nat} (k : V p l e R s m args below meth c (MQ below (yQ Z B0 post) args s ce sl (fun q => B0 ≤ q)) Z B0 nL lay C cells slots pc lv st) : V p l e R s m args below meth c (vx_MQ below (yQ Z B0 post) (fun _ _ _ => False) args s ce sl (fun q => B0 ≤ q)) Z B0 nL lay C cells slots pc lv st :=
  fun ls H locs hl hP hS => vx_ret (k ls H locs hl hP hS)
section LW
variable {p : Program} {l : Launch} {e : Env} {s : State} {m : MethodId} {args : Array Value} {below : List Frame} {meth : Method} {c : Code} {Q : State → Prop} {R : Room} {Z : xZ} {B0 nL : Nat} {lay : xK → Nat} {C : xK → Option xE} {cells slots pc : Nat} {lv : List (Option Value)} {rest st : List Value} {cc : ByteArray} {own : String}
variable {y : MethodName} {cb : ByteArray} {nLb fr lo ce sl n : Nat} {ret : Option FieldType} {hh : List (Nat × Nat × Nat × Nat)}
/-- a call of a method with handlers that returns -/
theorem v_wC (X : Cx p m meth c cc nL s args own Z B0) (hE : xEx B0 s ∧ xNc s) (M : xMW y cb nLb ret hh n) (As : List Value) (rest : List Value) {post : Option Value → (xK → Nat) → (xK → Option xE) → Prop} (h : YC l y cb nLb ret hh fr lo ce sl Z B0 As lay C post) {index : Nat} (hlink : Cond.methodLink own index y ∈ BG) (hn : As.length = n) (hst : st = As.reverse ++ rest) (hW : (rest.map fun v => v.category).sum ≤ 8) (hdg : decode cc pc = .ok (.invokestatic index, 3)) (hR : fr + 1 ≤ R.frames ∧ 8 + (nLb + 11) + lo ≤ R.locals) (hf : cells + ce ≤ R.cells ∧ slots + sl ≤ R.slots)
    (kk : ∀ (v : Option Value) (lay' : xK → Nat) (C' : xK → Option xE), post v lay' C' → V p l e R s m args below meth c Q Z B0 nL lay' C' (cells + ce) (slots + sl) (pc + 3) lv (v.toList ++ rest)) : V p l e R s m args below meth c Q Z B0 nL lay C cells slots pc lv st := by
  intro ls H locs hl hP hS
  subst hst
  have hr := vx_runSX (e := e) (below := below) (meth := meth) (H := H) (locs := locs) (cells := cells) (slots := slots) (n := n) (As := As) (rest := rest) (g := F0 m pc ls (As.reverse ++ rest)) X.1 h (vx_cwSW n X.1.2.2.2.2 (BG_sub (fun w hw => by
    rcases List.mem_append.mp hw with hw | hw
    · simp only [List.mem_cons, List.not_mem_nil, or_false] at hw
      rcases hw with rfl | rfl | rfl
      · exact hlink
      · exact M.1
      · exact M.2.1
    · rcases List.mem_cons.mp hw with rfl | hw
      · exact M.2.2.1
      · exact hw)) rfl rfl rfl M.2.2.2.1 hR) ⟨yPW.blind, fun U hU hW9 => ⟨⟨⟨rfl, by rw [hU]; exact hP, X.2.1.warm hW9, by rw [hU]; exact Nat.le_trans X.2.2.1 hS.1⟩, hE.1.go (locs := locs) hW9 (by rw [hU]; exact hS)⟩, hE.2.moved hW9.alike⟩⟩ rfl hn hl.1 rfl (lv_room hW) hdg hf
  intro T hT X9
  rcases hr T hT X9 with ⟨v, st₀, t, T', L, h0, X', hL, e1, e2, ⟨⟨v', lay', C', hv, hp, hP'⟩, hF⟩, stp⟩ | ⟨q, st₀, t, T', L, E, ce9, h0, X', hL, e1, e2, hF, -⟩
  · cases hv
    obtain ⟨k1, k2, k3⟩ := vx_keep (free := fun q => B0 ≤ q) h0 e1 hS (fun _ _ h => h) (fun _ h => h) hL hF
    obtain ⟨t2, a1, b1⟩ := kk v lay' C' hp ls T'.heap (locs ++ L) hl (by rw [e1]; exact hP') k3 T' rfl X'
    exact ⟨t2, stp t2 a1, b1⟩
  · exact hF.elim
/-- a call of the law's own method that returns -/
theorem v_wL (X : Cx p m meth c cc nL s args own Z B0) (hE : xEx B0 s ∧ xNc s) (M : xMS y cb nLb ret n) (As : List Value) (rest : List Value) {post : Option Value → (xK → Nat) → (xK → Option xE) → Prop} (h : YL l y cb nLb ret fr lo ce sl Z B0 As lay C post) {index : Nat} (hlink : Cond.methodLink own index y ∈ BG) (hown : y.cls = own) (hn : As.length = n) (hst : st = As.reverse ++ rest) (hW : (rest.map fun v => v.category).sum ≤ 8) (hdg : decode cc pc = .ok (.invokestatic index, 3)) (hR : fr + 1 ≤ R.frames ∧ 8 + (nLb + 11) + lo ≤ R.locals) (hf : cells + ce ≤ R.cells ∧ slots + sl ≤ R.slots)
    (kk : ∀ (v : Option Value) (lay' : xK → Nat) (C' : xK → Option xE), post v lay' C' → V p l e R s m args below meth c Q Z B0 nL lay' C' (cells + ce) (slots + sl) (pc + 3) lv (v.toList ++ rest)) : V p l e R s m args below meth c Q Z B0 nL lay C cells slots pc lv st := by
  intro ls H locs hl hP hS
  subst hst
  have hr := vx_runS (e := e) (below := below) (meth := meth) (H := H) (locs := locs) (cells := cells) (slots := slots) (n := n) (As := As) (rest := rest) (g := F0 m pc ls (As.reverse ++ rest)) X.1 h (cwS n X.1.2.2.2.2 (BG_sub (fun w hw => by
    rcases List.mem_append.mp hw with hw | hw
    · simp only [List.mem_cons, List.not_mem_nil, or_false] at hw
      rcases hw with rfl | rfl | rfl
      · exact hlink
      · exact M.1
      · rw [← hown]; exact M.2.1
    · rcases List.mem_cons.mp hw with rfl | hw
      · exact M.2.2.1
      · exact hw)) rfl rfl rfl ⟨hown, M.2.2.2.1⟩ hR) ⟨yPW.blind, fun U hU hW9 => ⟨⟨⟨rfl, by rw [hU]; exact hP, X.2.1.warm hW9, by rw [hU]; exact Nat.le_trans X.2.2.1 hS.1⟩, hE.1.go (locs := locs) hW9 (by rw [hU]; exact hS)⟩, hE.2.moved hW9.alike⟩⟩ rfl hn hl.1 rfl (lv_room hW) hdg hf
  intro T hT X9
  rcases hr T hT X9 with ⟨v, st₀, t, T', L, h0, X', hL, e1, e2, ⟨⟨v', lay', C', hv, hp, hP'⟩, hF⟩, stp⟩ | ⟨q, st₀, t, T', L, E, ce9, h0, X', hL, e1, e2, hF, -⟩
  · cases hv
    obtain ⟨k1, k2, k3⟩ := vx_keep (free := fun q => B0 ≤ q) h0 e1 hS (fun _ _ h => h) (fun _ h => h) hL hF
    obtain ⟨t2, a1, b1⟩ := kk v lay' C' hp ls T'.heap (locs ++ L) hl (by rw [e1]; exact hP') k3 T' rfl X'
    exact ⟨t2, stp t2 a1, b1⟩
  · exact hF.elim
/-- a static call that may throw, in a method that catches it -/
theorem v_wD (X : Cx p m meth c cc nL s args own Z B0) (hE : xEx B0 s ∧ xNc s) (M : xMS y cb nLb ret n) (As : List Value) (rest : List Value) {post : Option Value → (xK → Nat) → (xK → Option xE) → Prop} {py : String → Prop} (h : YX l y cb nLb ret fr lo ce sl Z B0 As lay C post py) {index : Nat} (hlink : Cond.methodLink own index y ∈ BG) (hown : y.cls = own) (hn : As.length = n) (hst : st = As.reverse ++ rest) (hW : (rest.map fun v => v.category).sum ≤ 8) (hdg : decode cc pc = .ok (.invokestatic index, 3)) (hR : fr + 1 ≤ R.frames ∧ 8 + (nLb + 11) + lo ≤ R.locals) (hf : cells + ce ≤ R.cells ∧ slots + sl ≤ R.slots)
    (kk : ∀ (v : Option Value) (lay' : xK → Nat) (C' : xK → Option xE), post v lay' C' → V p l e R s m args below meth c Q Z B0 nL lay' C' (cells + ce) (slots + sl) (pc + 3) lv (v.toList ++ rest))
    (kx : ∀ (E : String) (q : Nat), py E → ∃ hpc, hnd c own s pc E hpc ∧ V p l e R s m args below meth c Q Z B0 nL lay C (cells + ce) (slots + sl) hpc lv [.ref q]) : V p l e R s m args below meth c Q Z B0 nL lay C cells slots pc lv st := by
  intro ls H locs hl hP hS
  subst hst
  have hr := vx_runS (e := e) (below := below) (meth := meth) (H := H) (locs := locs) (cells := cells) (slots := slots) (n := n) (As := As) (rest := rest) (g := F0 m pc ls (As.reverse ++ rest)) X.1 h (cwS n X.1.2.2.2.2 (BG_sub (fun w hw => by
    rcases List.mem_append.mp hw with hw | hw
    · simp only [List.mem_cons, List.not_mem_nil, or_false] at hw
      rcases hw with rfl | rfl | rfl
      · exact hlink
      · exact M.1
      · rw [← hown]; exact M.2.1
    · rcases List.mem_cons.mp hw with rfl | hw
      · exact M.2.2.1
      · exact hw)) rfl rfl rfl ⟨hown, M.2.2.2.1⟩ hR) ⟨yPX.blind, fun U hU hW9 => ⟨⟨rfl, by rw [hU]; exact hP, X.2.1.warm hW9, by rw [hU]; exact Nat.le_trans X.2.2.1 hS.1⟩, hE.1.go (locs := locs) hW9 (by rw [hU]; exact hS)⟩⟩ rfl hn hl.1 rfl (lv_room hW) hdg hf
  intro T hT X9
  rcases hr T hT X9 with ⟨v, st₀, t, T', L, h0, X', hL, e1, e2, ⟨⟨v', lay', C', hv, hp, hP'⟩, hF⟩, stp⟩ | ⟨q, st₀, t, T', L, E, ce9, h0, X', hL, e1, e2, ⟨h1, h2, hF⟩, hce, hcv, hcl, stp⟩
  · cases hv
    obtain ⟨k1, k2, k3⟩ := vx_keep (free := fun q => B0 ≤ q) h0 e1 hS (fun _ _ h => h) (fun _ h => h) hL hF
    obtain ⟨t2, a1, b1⟩ := kk v lay' C' hp ls T'.heap (locs ++ L) hl (by rw [e1]; exact hP') k3 T' rfl X'
    exact ⟨t2, stp t2 a1, b1⟩
  · obtain ⟨k1, k2, k3⟩ := vx_keep (free := fun q => B0 ≤ q) h0 e1 hS (fun _ _ h => h) (fun _ h => h) hL hF
    obtain ⟨hpc, ⟨hEs, pre, x, suf, g1, g2, g3, g4, g5, g6⟩, kv⟩ := kx E q h1
    have hcast : (Cond.castable E E).before args s = true := by
      rcases hEs with rfl | rfl | rfl
      · exact va_Nw.use rfl (hE.1.1 _ (List.mem_of_getElem? (i := 3) rfl))
      · exact va_Nw.use rfl (hE.1.1 _ (List.mem_of_getElem? (i := 4) rfl))
      · exact va_Nw.use rfl (hE.1.1 _ (List.mem_of_getElem? (i := 5) rfl))
    subst g6
    obtain ⟨t2, a1, b1⟩ := vx_catch (H := T'.heap) (pc := pc) (ls := ls) (rest := rest) (E := E) (ce := ce9) (q := q) X.1.2.2.2.1 pre x suf g1 (fun z hz => by
      rcases g2 z hz with w | ⟨w1, nm, w2, w3⟩
      · exact Or.inl w
      · exact Or.inr ⟨w1, nm, X.1.2.2.2.2 _ w2, w3⟩) g3 g4 (X.1.2.2.2.2 _ g5) hcast (by rw [e1]; exact hce) hcv hcl (kv ls T'.heap (locs ++ L) hl (by rw [e1]; exact h2) k3) T' rfl X'
    exact ⟨t2, stp.trans a1, b1⟩
/-- a call of the class that does not throw here -/
theorem v_wN (X : Cx p m meth c cc nL s args own Z B0) (hE : xEx B0 s ∧ xNc s) (M : xMV y cb nLb ret n) {b : Nat} (As : List Value) (rest : List Value) {post : Option Value → (xK → Nat) → (xK → Option xE) → Prop} (h : YX l y cb nLb ret fr lo ce sl Z B0 (.ref b :: As) lay C post (fun _ => False)) {index : Nat} (hlink : Cond.methodLink own index y ∈ BG) (k : xK) {ci : Nat} {f : Nat → Value} (he : C k = some (.inr (ci, f))) (ha : lay k = b) {T : u_T} {N : Nat} {cn : String} (hc : vwCl[ci]? = some (cn, T, N)) (hcn : cn = y.cls) (hn : As.length = n) (hst : st = As.reverse ++ .ref b :: rest) (hW : (rest.map fun v => v.category).sum ≤ 8) (hdg : decode cc pc = .ok (.invokevirtual index, 3)) (hR : fr + 1 ≤ R.frames ∧ 8 + (nLb + 11) + lo ≤ R.locals) (hf : cells + ce ≤ R.cells ∧ slots + sl ≤ R.slots)
    (kk : ∀ (v : Option Value) (lay' : xK → Nat) (C' : xK → Option xE), post v lay' C' → V p l e R s m args below meth c Q Z B0 nL lay' C' (cells + ce) (slots + sl) (pc + 3) lv (v.toList ++ rest)) : V p l e R s m args below meth c Q Z B0 nL lay C cells slots pc lv st :=
  v_wV X hE M As rest h hlink k he ha hc hcn hn hst hW hdg hR hf kk (fun _ _ h9 => h9.elim)
end LW
section XV3
variable {p : Program} {l : Launch} {e : Env} {R : Room} {s : State} {m : MethodId} {args : Array Value} {below : List Frame} {meth : Method} {c : Code} {Q : State → Prop} {Z : xZ} {B0 nL : Nat} {lay : xK → Nat} {C : xK → Option xE} {cells slots pc : Nat} {lv : List (Option Value)} {rest : List Value} {cc : ByteArray} {own : String}
theorem v_ixor (X : Cx p m meth c cc nL s args own Z B0) {x y : Int32} (hdg : decode cc pc = .ok (.ixor, 1)) (k : V p l e R s m args below meth c Q Z B0 nL lay C cells slots (pc + 1) lv (.int (x ^^^ y) :: rest)) : V p l e R s m args below meth c Q Z B0 nL lay C cells slots pc lv (.int y :: .int x :: rest) := fun ls H locs hl hP hS => lv_ixor X.1.1 X.1.2.1 hdg (k ls H locs hl hP hS)
theorem v_ishr (X : Cx p m meth c cc nL s args own Z B0) {x y : Int32} (hdg : decode cc pc = .ok (.ishr, 1)) (k : ∀ v : Int32, V p l e R s m args below meth c Q Z B0 nL lay C cells slots (pc + 1) lv (.int v :: rest)) : V p l e R s m args below meth c Q Z B0 nL lay C cells slots pc lv (.int y :: .int x :: rest) := fun ls H locs hl hP hS => lv_ishr X.1.1 X.1.2.1 hdg (k _ ls H locs hl hP hS)
theorem v_iushr (X : Cx p m meth c cc nL s args own Z B0) {x y v : Int32} (hdg : decode cc pc = .ok (.iushr, 1)) (hv : (x.toUInt32 >>> (y.toUInt32 &&& Int32.toUInt32 31)).toInt32 = v) (k : V p l e R s m args below meth c Q Z B0 nL lay C cells slots (pc + 1) lv (.int v :: rest)) : V p l e R s m args below meth c Q Z B0 nL lay C cells slots pc lv (.int y :: .int x :: rest) := fun ls H locs hl hP hS => lv_iushr X.1.1 X.1.2.1 hdg hv (k ls H locs hl hP hS)
theorem v_l2i (X : Cx p m meth c cc nL s args own Z B0) {x : Int64} {v : Int32} (hdg : decode cc pc = .ok (.l2i, 1)) (hv : x.toInt32 = v) (k : V p l e R s m args below meth c Q Z B0 nL lay C cells slots (pc + 1) lv (.int v :: rest)) : V p l e R s m args below meth c Q Z B0 nL lay C cells slots pc lv (.long x :: rest) := fun ls H locs hl hP hS => lv_l2i X.1.1 X.1.2.1 hdg hv (k ls H locs hl hP hS)
/-- a counted loop whose turns may use room -/
theorem v_forC (n : Nat) (Cf : Nat → xK → Option xE) (lvf : Nat → List (Option Value)) (cf sf : Nat → Nat) (head : Nat) (st : List Value) (step : ∀ i, i < n → V p l e R s m args below meth c Q Z B0 nL lay (Cf (i + 1)) (cf (i + 1)) (sf (i + 1)) head (lvf (i + 1)) st → V p l e R s m args below meth c Q Z B0 nL lay (Cf i) (cf i) (sf i) head (lvf i) st) (ex : V p l e R s m args below meth c Q Z B0 nL lay (Cf n) (cf n) (sf n) head (lvf n) st) : V p l e R s m args below meth c Q Z B0 nL lay (Cf 0) (cf 0) (sf 0) head (lvf 0) st := by
  have key : ∀ d i, i + d = n → V p l e R s m args below meth c Q Z B0 nL lay (Cf i) (cf i) (sf i) head (lvf i) st := by
    intro d
    induction d with
    | zero => intro i hi; rw [show i = n by omega]; exact ex
    | succ d ih => intro i hi; exact step i (by omega) (ih (i + 1) (by omega))
  exact key n 0 (by omega)
theorem v_sld (X : Cx p m meth c cc nL s args own Z B0) {b L : Nat} {xs : Nat → Int32} (hX : va_X b L xs s s.heap) (hbl : b < B0) {i : Int32} {n : Nat} (hn : i = nI n) (hnL : n < L) (hL : L ≤ 3584) (hdg : decode cc pc = .ok (.iaload, 1)) (kk : V p l e R s m args below meth c Q Z B0 nL lay C cells slots (pc + 1) lv (.int (xs n) :: rest)) : V p l e R s m args below meth c Q Z B0 nL lay C cells slots pc lv (.int i :: .ref b :: rest) := by
  subst hn
  intro ls H locs hl hP hS
  refine va_sld X.1.1 X.1.2.1 hX (Nat.lt_of_lt_of_le hbl X.2.2.1) (Nat.not_le.mpr hbl) hS (vp_in_nI hnL (by omega)) hdg ?_
  rw [show (nI n).toNatClampNeg = n from ix_nI (by omega)]
  exact kk ls H locs hl hP hS
theorem v_slen (X : Cx p m meth c cc nL s args own Z B0) {b L : Nat} {xs : Nat → Int32} (hX : va_X b L xs s s.heap) (hbl : b < B0) (hdg : decode cc pc = .ok (.arraylength, 1)) (kk : V p l e R s m args below meth c Q Z B0 nL lay C cells slots (pc + 1) lv (.int (nI L) :: rest)) : V p l e R s m args below meth c Q Z B0 nL lay C cells slots pc lv (.ref b :: rest) :=
  fun ls H locs hl hP hS => va_slen X.1.1 X.1.2.1 hX (Nat.lt_of_lt_of_le hbl X.2.2.1) (Nat.not_le.mpr hbl) hS hdg (kk ls H locs hl hP hS)
end XV3
/-! the world of two objects -/
theorem cX_rk {Z : xZ} {lay : xK → Nat} {μ : Mu} {tb : Tb} {r r' : xK → Option xE} {k : xK} (h : r k = r' k) : cX Z lay μ tb r k = cX Z lay μ tb r' k := by
  unfold cX
  rw [h]
/-- the twin's cells beside others -/
def tw (Z : xZ) (lay : xK → Nat) (μ : Mu) (tb : Tb) (r : xK → Option xE) : xK → Option xE := fun k => if k.1 < 40 then none else if 500 ≤ k.1 ∧ k.1 < 540 then cX Z (csw lay) μ tb (fun _ => none) (k.1 - 500, k.2) else r k
def W2 (Z : xZ) (lay : xK → Nat) (μ : Mu) (tb : Tb) (μ' : Mu) (tb' : Tb) (r : xK → Option xE) : xK → Option xE := cX Z lay μ tb (tw Z lay μ' tb' r)
theorem cX_hi {Z : xZ} {lay : xK → Nat} {μ : Mu} {tb : Tb} {r : xK → Option xE} {k : xK} (h : 40 ≤ k.1) : cX Z lay μ tb r k = r k := by
  obtain ⟨a, b⟩ := k
  dsimp only at h
  exact cX_r (by show a ≠ 0; omega) (by show a ≠ 1; omega) (by show a ≠ 2; omega) (by show a ≠ 3; omega) (by show a ≠ 4; omega) (by show a ≠ 5; omega) (by show a ≠ 6; omega) (by show a ≠ 7; omega) (by show a ≠ 10; omega) (by show a ≠ 11; omega) (by show a ≠ 12; omega) (by show a ≠ 13; omega) (by show a ≠ 14; omega) (by show a ≠ 20; omega) (by show a ≠ 30; omega) (by show a ≠ 31; omega)
theorem W2_sw {Z : xZ} {lay : xK → Nat} {μ μ' : Mu} {tb tb' : Tb} {r : xK → Option xE} : csw (W2 Z lay μ tb μ' tb' r) = W2 Z (csw lay) μ' tb' μ tb r := by
  funext ⟨a, b⟩
  show W2 Z lay μ tb μ' tb' r (sw (a, b)) = _
  by_cases h : a < 40
  · rw [sw_o b h]
    unfold W2
    rw [cX_hi (show 40 ≤ a + 500 by omega)]
    unfold tw
    rw [if_neg (show ¬ ((a + 500, b) : xK).1 < 40 by show ¬ a + 500 < 40; omega), if_pos (show 500 ≤ ((a + 500, b) : xK).1 ∧ ((a + 500, b) : xK).1 < 540 by show 500 ≤ a + 500 ∧ a + 500 < 540; omega)]
    show cX Z (csw lay) μ' tb' (fun _ => none) (a + 500 - 500, b) = _
    rw [Nat.add_sub_cancel]
    exact cX_rk (if_pos (show ((a, b) : xK).1 < 40 from h)).symm
  · by_cases h2 : 500 ≤ a ∧ a < 540
    · rw [sw_t b h2]
      unfold W2
      rw [cX_hi (lay := csw lay) (show 40 ≤ a by omega)]
      unfold tw
      rw [if_neg (show ¬ ((a, b) : xK).1 < 40 from h), if_pos (show 500 ≤ ((a, b) : xK).1 ∧ ((a, b) : xK).1 < 540 from h2), csw_csw]
      exact cX_rk (if_pos (show ((a - 500, b) : xK).1 < 40 by show a - 500 < 40; omega))
    · rw [sw_r (k := (a, b)) (by show 40 ≤ a; omega) (by show a < 500 ∨ 540 ≤ a; omega)]
      unfold W2
      rw [cX_hi (lay := csw lay) (show 40 ≤ a by omega), cX_hi (show 40 ≤ a by omega)]
      unfold tw
      rw [if_neg (show ¬ ((a, b) : xK).1 < 40 from h), if_neg (show ¬ (500 ≤ ((a, b) : xK).1 ∧ ((a, b) : xK).1 < 540) from h2), if_neg (show ¬ ((a, b) : xK).1 < 40 from h), if_neg (show ¬ (500 ≤ ((a, b) : xK).1 ∧ ((a, b) : xK).1 < 540) from h2)]
theorem tw_lay {Z : xZ} {lay lay' : xK → Nat} {μ : Mu} {tb : Tb} {r : xK → Option xE} (h : lyB lay lay') : tw Z lay' μ tb r = tw Z lay μ tb r := by
  have e : ∀ k : xK, k.1 < 40 → csw lay' k = csw lay k := fun k hk => h (sw k) (by
    obtain ⟨a, b⟩ := k
    rw [sw_o b hk]
    show 40 ≤ a + 500
    omega)
  funext k
  unfold tw
  by_cases h1 : k.1 < 40
  · rw [if_pos h1, if_pos h1]
  · rw [if_neg h1, if_neg h1]
    by_cases h2 : 500 ≤ k.1 ∧ k.1 < 540
    · rw [if_pos h2, if_pos h2]
      have e10 : ∀ i, csw lay' (10, i) = csw lay (10, i) := fun i => e (10, i) (by show 10 < 40; decide)
      have e20 : ∀ i, csw lay' (20, i) = csw lay (20, i) := fun i => e (20, i) (by show 20 < 40; decide)
      have e30 : ∀ i, csw lay' (30, i) = csw lay (30, i) := fun i => e (30, i) (by show 30 < 40; decide)
      have e31 : ∀ i, csw lay' (31, i) = csw lay (31, i) := fun i => e (31, i) (by show 31 < 40; decide)
      have ek : lyk (csw lay) (fun q => if q.1 < 40 then csw lay' q else csw lay q) := fun q _ => by
        by_cases hq : q.1 < 40
        · show (if q.1 < 40 then _ else _) = _
          rw [if_pos hq]; exact e q hq
        · exact if_neg hq
      have f1 := cXl (Z := Z) (μ := μ) (tb := tb) (r := fun _ => none) ek (k := (k.1 - 500, k.2)) (fun _ => by show (if _ then _ else _) = _; rw [if_pos (show ((31, k.2) : xK).1 < 40 by show 31 < 40; decide)]; exact e31 k.2)
      have f2 : (fun q : xK => if q.1 < 40 then csw lay' q else csw lay q) = (fun q : xK => if q.1 < 40 then csw lay q else csw lay q) := by
        funext q
        by_cases hq : q.1 < 40
        · rw [if_pos hq, if_pos hq]; exact e q hq
        · rw [if_neg hq, if_neg hq]
      have g : ∀ (L : xK → Nat), (∀ q : xK, q.1 < 40 → L q = csw lay q) → cX Z L μ tb (fun _ => none) (k.1 - 500, k.2) = cX Z (csw lay) μ tb (fun _ => none) (k.1 - 500, k.2) := by
        intro L hL
        have hLa : ∀ a i, a < 40 → L (a, i) = csw lay (a, i) := fun a i h => hL (a, i) h
        have hX : fX L μ = fX (csw lay) μ := by
          funext j; unfold fX; split <;> first | rfl | rw [hLa _ _ (by decide)]
        have hR : fR L μ = fR (csw lay) μ := by
          funext j; unfold fR; split <;> first | rfl | rw [hLa _ _ (by decide)]
        have hP : ∀ i, fP L μ i = fP (csw lay) μ i := by
          intro i; funext j; unfold fP; split <;> first | rfl | rw [hLa _ _ (by decide)]
        have hG : ∀ i, fG L μ i = fG (csw lay) μ i := by
          intro i; funext j; unfold fG; split <;> first | rfl | rw [hLa _ _ (by decide)]
        have hl : ∀ q, tLeg L q = tLeg (csw lay) q := by
          intro q; unfold tLeg; rw [hLa _ _ (by decide)]
        have hT : ∀ i, fT L μ i = fT (csw lay) μ i := by
          intro i; funext j; unfold fT; split <;> first | rfl | rw [hLa _ _ (by decide)] | rw [hl]
        have h10 : (fun i => L (10, i)) = fun i => csw lay (10, i) := funext fun i => hL _ (by show 10 < 40; decide)
        have h20 : (fun i => L (20, i)) = fun i => csw lay (20, i) := funext fun i => hL _ (by show 20 < 40; decide)
        have h30 : (fun i => L (30, i)) = fun i => csw lay (30, i) := funext fun i => hL _ (by show 30 < 40; decide)
        unfold cX
        rw [hX, hR, hP, hG, hT, h10, h20, h30]
      exact g (csw lay') e
    · rw [if_neg h2, if_neg h2]
theorem tw_200 {Z : xZ} {lay : xK → Nat} {μ : Mu} {tb : Tb} {r : xK → Option xE} (h : r (200, 0) = none) : tw Z lay μ tb r (200, 0) = none := h
/-- what the law's own keys hold on to -/
abbrev lyL (lay lay' : xK → Nat) : Prop := lay' (0, 0) = lay (0, 0) ∧ lay' (500, 0) = lay (500, 0) ∧ ∀ k : xK, 300 ≤ k.1 → k.1 < 400 → lay' k = lay k
theorem lyL_rf (lay : xK → Nat) : lyL lay lay := ⟨rfl, rfl, fun _ _ _ => rfl⟩
theorem lyL_tr {l1 l2 l3 : xK → Nat} (h1 : lyL l1 l2) (h2 : lyL l2 l3) : lyL l1 l3 := ⟨h2.1.trans h1.1, h2.2.1.trans h1.2.1, fun k a b => (h2.2.2 k a b).trans (h1.2.2 k a b)⟩
theorem lyL_o {lay lay' : xK → Nat} (h : lyB lay lay') (h0 : lay' (0, 0) = lay (0, 0)) : lyL lay lay' := ⟨h0, h (500, 0) (by show 40 ≤ 500; decide), fun k a _ => h k (by omega)⟩
theorem lyL_t {lay lay' : xK → Nat} (h : lyB (csw lay) (csw lay')) (h0 : csw lay' (0, 0) = csw lay (0, 0)) : lyL lay lay' := by
  refine ⟨?_, h0, fun k a b => ?_⟩
  · exact h (500, 0) (by show 40 ≤ 500; decide)
  · have := h k (by omega)
    unfold csw at this
    rwa [sw_r (by omega) (by omega)] at this
