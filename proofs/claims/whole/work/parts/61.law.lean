/-! the law's world and its calls -/
def oW (Z : xZ) (o : Nat → Int64) : xK → Option xE := xup (fun _ => none) (300, 0) (outE Z o)
theorem cM_ne {Z : xZ} {lay : xK → Nat} {μ : Mu} {r : xK → Option xE} {k : xK} (h : k.1 ≠ 100) : cM Z lay μ r k = r k := if_neg h
theorem cM_lay {Z : xZ} {lay lay' : xK → Nat} {μ : Mu} {r : xK → Option xE} (h : ∀ j, lay' (100, j) = lay (100, j)) : cM Z lay' μ r = cM Z lay μ r := by
  have e : fM lay' μ = fM lay μ := by
    funext j
    unfold fM
    rw [h]
  funext k
  unfold cM
  rw [e]
theorem cM_r_eq {Z : xZ} {lay : xK → Nat} {μ : Mu} {r r' : xK → Option xE} (h : ∀ j : xK, j.1 ≠ 100 → r' j = r j) : cM Z lay μ r' = cM Z lay μ r := by
  funext k
  unfold cM
  by_cases hk : k.1 = 100
  · rw [if_pos hk, if_pos hk]
  · rw [if_neg hk, if_neg hk, h k hk]
theorem cXM {Z : xZ} {lay : xK → Nat} {μ ν : Mu} {tb : Tb} {r : xK → Option xE} : cX Z lay ν tb (cM Z lay μ r) = cM Z lay μ (cX Z lay ν tb r) := by
  funext ⟨a, b⟩
  by_cases h : a = 100
  · subst h
    rfl
  · rw [cM_ne (show (a, b).1 ≠ 100 from h)]
    unfold cX
    rw [cM_ne (show (a, b).1 ≠ 100 from h)]
theorem oW_up {Z : xZ} {lay : xK → Nat} {μ : Mu} {o o' : Nat → Int64} : xup (cM Z lay μ (oW Z o)) (300, 0) (outE Z o') = cM Z lay μ (oW Z o') := by
  funext k
  by_cases h : k = (300, 0)
  · subst h
    rfl
  · rw [xup_ne _ _ h]
    unfold cM oW
    rw [xup_ne _ _ h, xup_ne _ _ h]
/-- room used after k calls -/
def RM (cells slots k : Nat) (tb : Tb) : Prop := cells ≤ 60 + 10 * k + Pp tb ∧ slots ≤ 162000 + 60 * k + 2 * Pp tb
theorem Pp_max {μ : Mu} {tb : Tb} {c : Nat} (h : NI μ tb c) : Pp tb ≤ 327680 := by
  obtain ⟨hI, -, ⟨cl, hH⟩, -, -, -, hz⟩ := h
  have h1 : ∀ t, tb.2.2 t ≤ 8192 := by
    intro t
    by_cases ht : t < nT μ
    · obtain ⟨n, -, -, -, ⟨s, hs, q⟩, -⟩ := hH t ht
      rcases q with q | q
      · have : 2 ^ s ≤ 2 ^ 10 := Nat.pow_le_pow_right (by decide) hs
        omega
      · omega
    · rw [hz t (by omega)]; omega
  have h2 : ∀ n, capS tb n ≤ 8192 * n := by
    intro n
    induction n with
    | zero => exact Nat.zero_le _
    | succ n ih =>
      rw [capS]
      have := h1 n
      omega
  exact h2 40
theorem RMf {cells slots k ce sl : Nat} {μ : Mu} {tb : Tb} {c : Nat} (h : RM cells slots k tb) (hk : k ≤ 512) (hN : NI μ tb c) (hc : ce ≤ 10) (hs : sl ≤ 60) : cells + ce ≤ room_1.cells ∧ slots + sl ≤ room_1.slots := by
  have hP := Pp_max hN
  have h1 := h.1
  have h2 := h.2
  exact ⟨Nat.le_trans (show cells + ce ≤ 601024 by omega) (Nat.le_of_ble_eq_true rfl), Nat.le_trans (show slots + sl ≤ 7293034 by omega) (Nat.le_of_ble_eq_true rfl)⟩
theorem RMu {cells slots k ce sl : Nat} {tb tbn : Tb} {T : Prop} (h : RM cells slots k tb) (hc : ce ≤ 10) (hs : sl ≤ 60) (hP : Pp tb ≤ Pp tbn) : ∀ tb9, (tb9 = tb ∧ ¬ T) ∨ (tb9 = tbn ∧ T) → RM (cells + ce) (slots + sl) (k + 1) tb9 := by
  intro tb9 q
  have h1 := h.1
  have h2 := h.2
  rcases q with ⟨rfl, -⟩ | ⟨rfl, -⟩
  · exact ⟨by omega, by omega⟩
  · exact ⟨by omega, by omega⟩
/-- what a call of the class by the law leaves, said for the reference -/
theorem law_mid {Z : xZ} {lay : xK → Nat} {μ ν : Mu} {tb tbn : Tb} {o o' : Nat → Int64} {k : Nat} {v : Option Value} {lay' : xK → Nat} {r' C' : xK → Option xE} (hL : LI μ tb k) (hr' : r' = cM Z lay μ (oW Z o')) (hν : (∃ z, ¬ z = 0 ∧ ν = th μ z) ∨ (ν.1 38 0 = 0 ∧ LI ν tbn (k + 1))) (hp : wpost Z lay μ ν tb tbn (cM Z lay μ (oW Z o)) r' v lay' C') : ∃ tb9 o9, v = some (.int (ν.1 38 0)) ∧ C' = cM Z lay' μ (cX Z lay' ν tb9 (oW Z o9)) ∧ lay' (0, 0) = lay (0, 0) ∧ lay' (100, 0) = lay (100, 0) ∧ lay' (300, 0) = lay (300, 0) ∧ LI ν tb9 (k + 1) ∧ (ν.1 38 0 = 0 → o9 = o') ∧ ((tb9 = tb ∧ ¬ ν.1 38 0 = 0) ∨ (tb9 = tbn ∧ ν.1 38 0 = 0)) := by
  obtain ⟨hv, ⟨h0, hB, h00, hC⟩ | ⟨h0, rfl, hC⟩⟩ := hp
  · rcases hν with ⟨z, hz, rfl⟩ | ⟨-, hN⟩
    · exact absurd ((th_38 μ z).symm.trans h0) hz
    · refine ⟨tbn, o', hv, ?_, h00, hB _ (by decide), hB _ (by decide), hN, fun _ => rfl, Or.inr ⟨rfl, h0⟩⟩
      rw [hC, hr', ← cXM, cM_lay (fun j => hB (100, j) (by show 40 ≤ 100; decide))]
  · rcases hν with ⟨z, hz, rfl⟩ | ⟨h1, -⟩
    · refine ⟨tb, o, hv, ?_, rfl, rfl, rfl, LI_of (NI_th hL.1 z), fun q => absurd q h0, Or.inl ⟨rfl, h0⟩⟩
      rw [hC, cXM, cX_th]
    · exact absurd h1 h0
theorem code_law : code = cL_law := rfl
section LW
variable {p : Program} {l : Launch} {e : Env} {s : State} {m : MethodId} {args : Array Value} {below : List Frame} {meth : Method} {c : Code} {Q : State → Prop} {R : Room} {Z : xZ} {B0 nL : Nat} {lay : xK → Nat} {C : xK → Option xE} {cells slots pc : Nat} {lv : List (Option Value)} {rest st : List Value} {cc : ByteArray} {own : String}
theorem v_sld (X : Cx p m meth c cc nL s args own Z B0) {b L : Nat} {xs : Nat → Int32} (hX : va_X b L xs s s.heap) (hbl : b < B0) {i : Int32} {n : Nat} (hn : i = nI n) (hnL : n < L) (hL : L ≤ 3584) (hdg : decode cc pc = .ok (.iaload, 1)) (kk : V p l e R s m args below meth c Q Z B0 nL lay C cells slots (pc + 1) lv (.int (xs n) :: rest)) : V p l e R s m args below meth c Q Z B0 nL lay C cells slots pc lv (.int i :: .ref b :: rest) := by
  subst hn
  intro ls H locs hl hP hS
  refine va_sld X.1.1 X.1.2.1 hX (Nat.lt_of_lt_of_le hbl X.2.2.1) (Nat.not_le.mpr hbl) hS (vp_in_nI hnL (by omega)) hdg ?_
  rw [show (nI n).toNatClampNeg = n from ix_nI (by omega)]
  exact kk ls H locs hl hP hS
theorem v_slen (X : Cx p m meth c cc nL s args own Z B0) {b L : Nat} {xs : Nat → Int32} (hX : va_X b L xs s s.heap) (hbl : b < B0) (hdg : decode cc pc = .ok (.arraylength, 1)) (kk : V p l e R s m args below meth c Q Z B0 nL lay C cells slots (pc + 1) lv (.int (nI L) :: rest)) : V p l e R s m args below meth c Q Z B0 nL lay C cells slots pc lv (.ref b :: rest) :=
  fun ls H locs hl hP hS => va_slen X.1.1 X.1.2.1 hX (Nat.lt_of_lt_of_le hbl X.2.2.1) (Nat.not_le.mpr hbl) hS hdg (kk ls H locs hl hP hS)
variable {y : MethodName} {cb : ByteArray} {nLb fr lo ce sl n : Nat} {ret : Option FieldType} {hh : List (Nat × Nat × Nat × Nat)}
theorem v_wC (X : Cx p m meth c cc nL s args own Z B0) (hE : xEx B0 s ∧ xNc s) (M : xMW y cb nLb ret hh n) (As : List Value) (rest : List Value) {post : Option Value → (xK → Nat) → (xK → Option xE) → Prop} (h : YC l y cb nLb ret hh fr lo ce sl Z B0 As lay C post) {index : Nat} (hlink : Cond.methodLink own index y ∈ BG) (hn : As.length = n) (hst : st = As.reverse ++ rest) (hW : (rest.map fun v => v.category).sum ≤ 8) (hdg : decode cc pc = .ok (.invokestatic index, 3)) (hR : fr + 1 ≤ R.frames ∧ 8 + (nLb + 11) + lo ≤ R.locals) (hf : cells + ce ≤ R.cells ∧ slots + sl ≤ R.slots)
    (kk : ∀ (v : Option Value) (lay' : xK → Nat) (C' : xK → Option xE), post v lay' C' → V p l e R s m args below meth c Q Z B0 nL lay' C' (cells + ce) (slots + sl) (pc + 3) lv (v.toList ++ rest)) : V p l e R s m args below meth c Q Z B0 nL lay C cells slots pc lv st := by
  intro ls H locs hl hP hS
  subst hst
  have hr := vx_runSX (e := e) (below := below) (meth := meth) (H := H) (locs := locs) (cells := cells) (slots := slots) (n := n) (As := As) (rest := rest) (g := F0 m pc ls (As.reverse ++ rest)) X.1 h (vx_cwSW n X.1.2.2.2.2 (BG_sub (fun w hw => by
    rcases List.mem_append.mp hw with hw | hw
    · simp only [List.mem_cons, List.not_mem_nil, or_false] at hw
      rcases hw with rfl | rfl | rfl
      · exact hlink
      · exact M.1
      · exact M.2.1
    · rcases List.mem_cons.mp hw with rfl | hw
      · exact M.2.2.1
      · exact hw)) rfl rfl rfl M.2.2.2.1 hR) ⟨yPW.blind, fun U hU hW9 => ⟨⟨⟨rfl, by rw [hU]; exact hP, X.2.1.warm hW9, by rw [hU]; exact Nat.le_trans X.2.2.1 hS.1⟩, hE.1.go (locs := locs) hW9 (by rw [hU]; exact hS)⟩, hE.2.moved hW9.alike⟩⟩ rfl hn hl.1 rfl (lv_room hW) hdg hf
  intro T hT X9
  rcases hr T hT X9 with ⟨v, st₀, t, T', L, h0, X', hL, e1, e2, ⟨⟨v', lay', C', hv, hp, hP'⟩, hF⟩, stp⟩ | ⟨q, st₀, t, T', L, E, ce9, h0, X', hL, e1, e2, hF, -⟩
  · cases hv
    obtain ⟨k1, k2, k3⟩ := vx_keep (free := fun q => B0 ≤ q) h0 e1 hS (fun _ _ h => h) (fun _ h => h) hL hF
    obtain ⟨t2, a1, b1⟩ := kk v lay' C' hp ls T'.heap (locs ++ L) hl (by rw [e1]; exact hP') k3 T' rfl X'
    exact ⟨t2, stp t2 a1, b1⟩
  · exact hF.elim
/-- one call of the class by the law -/
theorem v_law (X : Cx p m meth c cc nL s args own Z B0) (hE : xEx B0 s ∧ xNc s) {μ ν : Mu} {tb tbn : Tb} {o o' : Nat → Int64} {k : Nat} (hL : LI μ tb k) (M : xMW y cb nLb ret hh n) (As : List Value) (rest : List Value) {r' : xK → Option xE} (h : YC l y cb nLb ret hh fr lo ce sl Z B0 As lay (cX Z lay μ tb (cM Z lay μ (oW Z o))) (wpost Z lay μ ν tb tbn (cM Z lay μ (oW Z o)) r')) (hr' : r' = cM Z lay μ (oW Z o')) (hν : (∃ z, ¬ z = 0 ∧ ν = th μ z) ∨ (ν.1 38 0 = 0 ∧ LI ν tbn (k + 1))) (hRM : ∀ tb9, (tb9 = tb ∧ ¬ ν.1 38 0 = 0) ∨ (tb9 = tbn ∧ ν.1 38 0 = 0) → RM (cells + ce) (slots + sl) (k + 1) tb9) {index : Nat} (hlink : Cond.methodLink own index y ∈ BG) (hn : As.length = n) (hst : st = As.reverse ++ rest) (hW : (rest.map fun v => v.category).sum ≤ 8) (hdg : decode cc pc = .ok (.invokestatic index, 3)) (hR : fr + 1 ≤ R.frames ∧ 8 + (nLb + 11) + lo ≤ R.locals) (hf : cells + ce ≤ R.cells ∧ slots + sl ≤ R.slots)
    (kk : ∀ (lay' : xK → Nat) (tb9 : Tb) (o9 : Nat → Int64), lay' (0, 0) = lay (0, 0) → lay' (100, 0) = lay (100, 0) → lay' (300, 0) = lay (300, 0) → LI ν tb9 (k + 1) → (ν.1 38 0 = 0 → o9 = o') → RM (cells + ce) (slots + sl) (k + 1) tb9 → V p l e R s m args below meth c Q Z B0 nL lay' (cM Z lay' μ (cX Z lay' ν tb9 (oW Z o9))) (cells + ce) (slots + sl) (pc + 3) lv (.int (ν.1 38 0) :: rest)) : V p l e R s m args below meth c Q Z B0 nL lay (cM Z lay μ (cX Z lay μ tb (oW Z o))) cells slots pc lv st := by
  rw [← cXM]
  refine v_wC X hE M As rest h hlink hn hst hW hdg hR hf fun v lay' C' hp => ?_
  obtain ⟨tb9, o9, rfl, rfl, e0, e1, e3, hL', ho, hT⟩ := law_mid hL hr' hν hp
  exact kk lay' tb9 o9 e0 e1 e3 hL' ho (hRM tb9 hT)
end LW
theorem lcz {a b : Int64} (h : a = b) : lg_cmp a b = 0 := by
  subst h
  unfold lg_cmp
  simp
theorem ask_LI {μ ν : Mu} {tb : Tb} {k : Nat} (hL : LI μ tb k) (h : ∃ z, ν = th μ z) : (∃ z, ¬ z = 0 ∧ ν = th μ z) ∨ (ν.1 38 0 = 0 ∧ LI ν tb (k + 1)) := by
  obtain ⟨z, rfl⟩ := h
  by_cases hz : z = 0
  · subst hz
    exact Or.inr ⟨th_38 μ 0, LI_of (NI_th hL.1 0)⟩
  · exact Or.inl ⟨z, hz, rfl⟩
theorem cs_LI {μ ν : Mu} {tbn : Tb} {k : Nat} {P : Prop} {ν' : Mu} (h : (∃ z, ¬ z = 0 ∧ ν = th μ z) ∨ (P ∧ ν = ν')) (h38 : ν'.1 38 0 = 0) (hN : P → NI ν' tbn (16 + 7 * k)) : (∃ z, ¬ z = 0 ∧ ν = th μ z) ∨ (ν.1 38 0 = 0 ∧ LI ν tbn (k + 1)) := by
  rcases h with h | ⟨h, rfl⟩
  · exact Or.inl h
  · exact Or.inr ⟨h38, LI_of (hN h)⟩
theorem claimS_38 (μ : Mu) (t : Nat) : (M_claimS μ t).2.1 38 0 = μ.1 38 0 := by
  unfold M_claimS
  dsimp only
  split
  · rw [M_paysFor_1]; exact congrFun (up2_ne μ.1 29 t 1 38 (by decide)) 0
  · rw [M_paysFor_1, M_paysFor_1]; exact congrFun (up2_ne μ.1 29 t 1 38 (by decide)) 0
theorem Pp_le {tb tb' : Tb} (h : ∀ t, tb.2.2 t ≤ tb'.2.2 t) : Pp tb ≤ Pp tb' := by
  have : ∀ n, capS tb n ≤ capS tb' n := by
    intro n
    induction n with
    | zero => exact Nat.le_refl _
    | succ n ih =>
      rw [capS, capS]
      have := h n
      omega
  exact this 40
theorem Pp_mail {μ : Mu} {tb : Tb} {c : Nat} (h : NI μ tb c) (a rg : Int32) : Pp tb ≤ Pp (KT_mail μ tb a rg) := by
  refine Pp_le fun t => ?_
  unfold KT_mail
  dsimp only
  by_cases ht : t = nT μ
  · rw [ht, h.2.2.2.2.2.2 _ (Nat.le_refl _)]
    exact Nat.zero_le _
  · rw [if_neg ht]
    exact Nat.le_refl _
