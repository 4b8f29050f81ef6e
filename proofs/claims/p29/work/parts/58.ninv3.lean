/-! a thing mailed: what holds then -/
theorem up2_c16 {A A' : Nat → Nat → Int32} {j i : Nat} {v : Int32} (h : ∀ a, a ≠ 16 → A' a = A a) : ∀ a, a ≠ 16 → up2 A' j i v a = up2 A j i v a := fun a ha => by funext y; rw [up2_at, up2_at, h a ha]
theorem signs_16 (A : Nat → Nat → Int32) (J : Nat → Nat → Int64) (T : Nat) (v x : Int32) : ∀ j, j ≠ 16 → (M_signs (up2 A 16 0 x, J) T v).1 j = (M_signs (A, J) T v).1 j := by
  have f : ∀ j, j ≠ 16 → up2 A 16 0 x j = A j := fun j hj => up2_ne _ _ _ _ _ hj
  intro j hj
  have f21 := f 21 (by decide)
  have f30 := f 30 (by decide)
  have f35 := f 35 (by decide)
  have f34 := f 34 (by decide)
  unfold M_signs
  dsimp only
  by_cases c : A 21 T = 0 ∨ 80000 ≤ A 30 0
  · have c' : up2 A 16 0 x 21 T = 0 ∨ 80000 ≤ up2 A 16 0 x 30 0 := by rw [f21, f30]; exact c
    rw [if_pos c, if_pos c']; exact f j hj
  · have c' : ¬ (up2 A 16 0 x 21 T = 0 ∨ 80000 ≤ up2 A 16 0 x 30 0) := by rw [f21, f30]; exact c
    rw [if_neg c, if_neg c']
    dsimp only
    by_cases d : A 35 T = 0
    · have d' : up2 A 16 0 x 35 T = 0 := by rw [f35]; exact d
      rw [if_pos d, if_pos d', f30, f35]
      exact up2_c16 (up2_c16 (up2_c16 (up2_c16 (up2_c16 (up2_c16 f))))) j hj
    · have d' : ¬ up2 A 16 0 x 35 T = 0 := by rw [f35]; exact d
      rw [if_neg d, if_neg d', f30, f35, f34]
      exact up2_c16 (up2_c16 (up2_c16 (up2_c16 (up2_c16 (up2_c16 f))))) j hj
section MI
variable {μ : Mu} {tb : Tb} {c : Nat}
theorem cs_mail (k a b g pd rg : Int32) : (∃ z, ¬ z = 0 ∧ (M_mail μ k a b g pd rg).2 = th μ z) ∨ ((isP μ a ∧ isP μ b ∧ isK k ∧ arG k g ∧ ¬ μ.1 16 0 = 40) ∧ (M_mail μ k a b g pd rg).2 = M_mailS (th μ 0) k a b g pd rg) := by
  unfold M_mail
  by_cases h1 : isP μ a ∧ isP μ b
  · rw [if_pos h1]
    by_cases h2 : ¬ isK k ∨ ¬ arG k g ∨ ¬ inR pd 0 100000 ∨ a = b
    · rw [if_pos h2]; exact Or.inl ⟨2, by decide, th_th _ _ _⟩
    · rw [if_neg h2]
      by_cases h3 : μ.1 16 0 = 40
      · rw [if_pos h3]; exact Or.inl ⟨3, by decide, th_th _ _ _⟩
      · rw [if_neg h3]; exact Or.inr ⟨⟨h1.1, h1.2, Decidable.not_not.mp (fun z => h2 (Or.inl z)), Decidable.not_not.mp (fun z => h2 (Or.inr (Or.inl z))), h3⟩, rfl⟩
  · rw [if_neg h1]; exact Or.inl ⟨1, by decide, rfl⟩
/-- the numbers before the hands are signed -/
def MA (A : Nat → Nat → Int32) (T : Nat) (k a b g rg lk : Int32) : Nat → Nat → Int32 := up2 (up2 (up2 (up2 (up2 (up2 (up2 (up2 (up2 A 17 T k) 18 T a) 19 T b) 20 T g) 21 T rg) 22 T lk) 23 T 0) 24 T a) 25 T (-1)
theorem MA_ne (A : Nat → Nat → Int32) (T : Nat) (k a b g rg lk : Int32) {j : Nat} (h : j < 17 ∨ 25 < j) : MA A T k a b g rg lk j = A j := by
  unfold MA
  rw [up2_ne _ _ _ _ _ (by omega), up2_ne _ _ _ _ _ (by omega), up2_ne _ _ _ _ _ (by omega), up2_ne _ _ _ _ _ (by omega), up2_ne _ _ _ _ _ (by omega), up2_ne _ _ _ _ _ (by omega), up2_ne _ _ _ _ _ (by omega), up2_ne _ _ _ _ _ (by omega), up2_ne _ _ _ _ _ (by omega)]
theorem MA_o (A : Nat → Nat → Int32) (T : Nat) (k a b g rg lk : Int32) {j x : Nat} (h : x ≠ T) : MA A T k a b g rg lk j x = A j x := by
  unfold MA
  simp only [up2_at, h, and_false, if_false]
theorem mailS_eq (k a b g pd rg : Int32) {T : Nat} (eT : ix (μ.1 16 0) = T) : ∃ lk, M_mailS (th μ 0) k a b g pd rg = (up2 (M_signs (MA (th μ 0).1 T k a b g rg lk, up2 μ.2 8 (ix a) (μ.2 8 (ix a) + pd.toInt64)) T a).1 16 0 ((M_signs (MA (th μ 0).1 T k a b g rg lk, up2 μ.2 8 (ix a) (μ.2 8 (ix a) + pd.toInt64)) T a).1 16 0 + 1), (M_signs (MA (th μ 0).1 T k a b g rg lk, up2 μ.2 8 (ix a) (μ.2 8 (ix a) + pd.toInt64)) T a).2) := by
  refine ⟨if M_rateOf (th μ 0) k a g rg ≤ pd then 0 else M_rateOf (th μ 0) k a g rg - pd, ?_⟩
  unfold M_mailS MA
  dsimp only
  rw [show ix ((th μ 0).1 16 0) = T from eT]
theorem ni_mail (h : NI μ tb c) (h16 : 16 ≤ c) (hS : ¬ (80000 : Int32) ≤ μ.1 30 0) {k a b g pd rg : Int32} (hc : isP μ a ∧ isP μ b ∧ isK k ∧ arG k g ∧ ¬ μ.1 16 0 = 40) (hrg : rg = 0 ∨ rg = 1) : NI (M_mailS (th μ 0) k a b g pd rg) (KT_mail μ tb a rg) c := by
  obtain ⟨ha, hb, hk, hg, h40⟩ := hc
  have hI := h.1
  have hK := h.2.1
  obtain ⟨T, hT, eT⟩ := hI.2.2.1
  have hnT := nT_of hT eT
  have hT40 : T < 40 := by
    rcases Nat.lt_or_ge T 40 with q | q
    · exact q
    · exact absurd (by rw [eT, show T = 40 by omega]; decide) h40
  have hcom := mailS_com hK (T := T) (by omega) hnT hS k a b g pd rg
  obtain ⟨lk, hm⟩ := mailS_eq (μ := μ) k a b g pd rg hnT
  obtain ⟨J, hJ⟩ : ∃ J, J = up2 μ.2 8 (ix a) (μ.2 8 (ix a) + pd.toInt64) := ⟨_, rfl⟩
  obtain ⟨A, hA⟩ : ∃ A, A = MA (th μ 0).1 T k a b g rg lk := ⟨_, rfl⟩
  rw [← hJ, ← hA] at hm
  rw [← hJ] at hcom
  have a0 : ∀ j, j ≠ 38 → (j < 17 ∨ 25 < j) → A j = μ.1 j := fun j h1 h2 => by rw [hA, MA_ne _ _ _ _ _ _ _ _ h2]; exact up2_ne _ _ _ _ _ h1
  have a21 : A 21 T = rg := by rw [hA]; unfold MA; simp [up2_at]
  have hRA : RI (A, J) := by
    have h0 : RI ((th μ 0).1, J) := RI_J (A := (th μ 0).1) (J := (th μ 0).2) (RI_th hI 0)
    rw [hA]
    unfold MA
    exact RI_up (RI_up (RI_F (RI_F (RI_up (RI_F (RI_up (RI_up (RI_up h0 (ok17 (isK_in hk))) (ok8 (by omega) (hI.P ha))) (ok8 (by omega) (hI.P hb))) (j := 20) rfl _ _) (okb (by omega) hrg)) (j := 22) rfl _ _) (j := 23) rfl _ _) (ok8 (by omega) (hI.P ha))) (ok25 (Or.inl rfl))
  have hSA : ¬ (80000 : Int32) ≤ A 30 0 := by rw [a0 30 (by decide) (by omega)]; exact hS
  have s16 : (M_signs (A, J) T a).1 16 = μ.1 16 := by rw [sg_ne _ _ _ (by decide)]; exact a0 16 (by decide) (by omega)
  rw [s16] at hm
  have e16 : μ.1 16 0 + 1 = nI (T + 1) := by rw [eT, nI_1]
  obtain ⟨ν, hν⟩ : ∃ ν, ν = M_mailS (th μ 0) k a b g pd rg := ⟨_, rfl⟩
  rw [← hν] at hm hcom ⊢
  have hRν : RI ν := by
    rw [hm, e16]
    exact RI_up (RI_signs hRA T a) (okC (M := 40) (Or.inr (Or.inr (Or.inl ⟨rfl, rfl⟩))) (by omega))
  have hnT' : nT ν = T + 1 := by
    unfold nT
    rw [hm]
    dsimp only
    rw [up2_at, if_pos ⟨rfl, rfl⟩, e16, ix_nI (by omega)]
  have fν : ∀ j, j ≠ 16 → ν.1 j = (M_signs (A, J) T a).1 j := fun j hj => by rw [hm]; exact up2_ne _ _ _ _ _ hj
  -- the invariants of the class
  have hKM : KI (MC μ.1 T k a b g rg (if M_rateOf μ k a g rg ≤ pd then 0 else M_rateOf μ k a g rg - pd) (if rg = 0 then 0 else 1), J) := by
    obtain ⟨lk2, hlk2⟩ : ∃ lk2, lk2 = (if M_rateOf μ k a g rg ≤ pd then 0 else M_rateOf μ k a g rg - pd) := ⟨_, rfl⟩
    obtain ⟨c2, hc2⟩ : ∃ c2 : Int32, c2 = (if rg = 0 then 0 else 1) := ⟨_, rfl⟩
    rw [← hlk2, ← hc2]
    have hKJ : KI (μ.1, J) := by rw [hJ]; exact KI_J78 (A := μ.1) (J := μ.2) hK (Or.inr rfl) (isP_lt hI ha).1 _
    obtain ⟨hL, hTh, hM, hC, hZ⟩ := hKJ
    have g0 : ∀ j, j ≠ 16 → (j < 17 ∨ 25 < j) → j ≠ 35 → MC μ.1 T k a b g rg lk2 c2 j = μ.1 j := fun j h1 h2 h3 => MC_mk μ.1 T k a b g rg lk2 c2 h1 h2 h3
    have n16 : nT (MC μ.1 T k a b g rg lk2 c2, J) = T + 1 := by
      unfold nT
      rw [show (MC μ.1 T k a b g rg lk2 c2, J).1 16 0 = μ.1 16 0 + 1 from MC_16 μ.1 T k a b g rg lk2 c2, e16, ix_nI (by omega)]
    have n0 : nP (MC μ.1 T k a b g rg lk2 c2, J) = nP μ := by unfold nP; dsimp only; rw [g0 0 (by decide) (by omega) (by decide)]
    have n10 : nG (MC μ.1 T k a b g rg lk2 c2, J) = nG μ := by unfold nG; dsimp only; rw [g0 10 (by decide) (by omega) (by decide)]
    unfold KI KL KT KM KC KZ
    rw [n16, n0, n10]
    dsimp only
    rw [g0 11 (by decide) (by omega) (by decide), g0 12 (by decide) (by omega) (by decide), g0 13 (by decide) (by omega) (by decide), g0 5 (by decide) (by omega) (by decide), g0 1 (by decide) (by omega) (by decide), g0 2 (by decide) (by omega) (by decide), g0 4 (by decide) (by omega) (by decide), g0 6 (by decide) (by omega) (by decide), g0 3 (by decide) (by omega) (by decide), g0 14 (by decide) (by omega) (by decide), g0 26 (by decide) (by omega) (by decide), g0 27 (by decide) (by omega) (by decide), g0 28 (by decide) (by omega) (by decide), g0 29 (by decide) (by omega) (by decide)]
    have mo : ∀ (j x : Nat), j ≠ 16 → x ≠ T → MC μ.1 T k a b g rg lk2 c2 j x = μ.1 j x := fun j x h1 h2 => MC_mo μ.1 T k a b g rg lk2 c2 h1 h2
    refine ⟨hL, fun t ht => ?_, hM, hC, hZ.1, hZ.2.1, fun t ht => ?_⟩
    · by_cases e : t = T
      · subst e
        rw [MC_18, MC_19, MC_24, MC_25, MC_20]
        exact ⟨⟨(isP_lt hI ha).1, (isP_lt hI hb).1, (isP_lt hI ha).1⟩, Or.inl rfl, k, hg⟩
      · rw [mo 18 t (by decide) e, mo 19 t (by decide) e, mo 24 t (by decide) e, mo 25 t (by decide) e, mo 20 t (by decide) e]
        exact hTh t (show t < nT μ by omega)
    · rw [mo 35 t (by decide) (by omega)]
      exact hZ.2.2 t (show nT μ ≤ t by omega)
  have hKν : KI ν := KI_same hKM (fun j hj => hcom.1 j (by
    simp only [frK, Bool.not_eq_false', Bool.or_eq_true, beq_iff_eq] at hj
    simp only [com, Bool.not_eq_true', Bool.or_eq_false_iff, beq_eq_false_iff_ne]
    omega)) hcom.2
  -- hands
  obtain ⟨cl, hH⟩ := h.2.2.1
  have hz := hK.2.2.2.2.2.2 T (by omega)
  obtain ⟨tX, htX⟩ : ∃ tX : Tb, tX = (tb.1, (fun x y => if x = T then 0 else tb.2.1 x y), fun x => if x = T then (if rg = 0 then 0 else 8) else tb.2.2 x) := ⟨_, rfl⟩
  have b35 : A 35 = μ.1 35 := a0 35 (by decide) (by omega)
  have hHX : HR (up2 A 16 0 (nI (T + 1)), J) tX cl := by
    have u : ∀ j, j ≠ 16 → up2 A 16 0 (nI (T + 1)) j = A j := fun j hj => up2_ne _ _ _ _ _ hj
    have enT : nT (up2 A 16 0 (nI (T + 1)), J) = T + 1 := by unfold nT; dsimp only; rw [up2_at, if_pos ⟨rfl, rfl⟩, ix_nI (by omega)]
    intro t ht
    rw [enT] at ht ⊢
    dsimp only
    rw [u 35 (by decide), u 21 (by decide), u 33 (by decide), u 34 (by decide), u 30 (by decide), u 31 (by decide), u 32 (by decide), b35, a0 33 (by decide) (by omega), a0 34 (by decide) (by omega), a0 30 (by decide) (by omega), a0 31 (by decide) (by omega), a0 32 (by decide) (by omega)]
    by_cases e : t = T
    · subst e
      refine ⟨0, hz.2.2.2.2, Nat.zero_le _, Nat.zero_le _, ⟨0, Nat.zero_le _, ?_⟩, fun _ => rfl, fun z => absurd z (by omega), fun j hj => absurd hj (by omega)⟩
      rw [htX, a21]
      dsimp only
      rw [if_pos rfl]
      by_cases e2 : rg = 0
      · rw [if_pos e2]; exact Or.inr ⟨rfl, rfl, e2⟩
      · rw [if_neg e2]; exact Or.inl rfl
    · obtain ⟨n, q1, q2, q3, q4, q5, q6, q7⟩ := hH t (by omega)
      have ea : A 21 t = μ.1 21 t := by rw [hA, MA_o _ _ _ _ _ _ _ _ e]; exact congrFun (up2_ne μ.1 38 0 0 21 (by decide)) t
      have et : tX.2.2 t = tb.2.2 t := by rw [htX]; exact if_neg e
      have et1 : ∀ j, tX.2.1 t j = tb.2.1 t j := fun j => by rw [htX]; exact if_neg e
      rw [ea, et]
      refine ⟨n, q1, q2, q3, q4, q5, q6, fun j hj => ⟨?_, fun t' ht' j' hj' hcl => ?_⟩⟩
      · rw [et1]; exact (q7 j hj).1
      · by_cases e' : t' = T
        · subst e'
          rw [hz.2.2.2.2] at hj'
          exact absurd hj' (Nat.not_lt_zero j')
        · exact (q7 j hj).2 t' (by omega) j' hj' hcl
  obtain ⟨cl', hH2⟩ := HR_signs (RI_up hRA (okC (M := 40) (Or.inr (Or.inr (Or.inl ⟨rfl, rfl⟩))) (show T + 1 ≤ 40 by omega))) hHX (t := T) (by unfold nT; dsimp only; rw [up2_at, if_pos ⟨rfl, rfl⟩, ix_nI (by omega)]; omega) a (by dsimp only; rw [up2_ne _ _ _ _ _ (by decide)]; exact hSA) (by dsimp only; rw [up2_ne _ _ _ _ _ (by decide), b35, hz.2.2.2.2]; decide)
  have eKT : KT_sign (up2 A 16 0 (nI (T + 1)), J) tX T a = KT_mail μ tb a rg := by
    have c21 : up2 A 16 0 (nI (T + 1)) 21 T = rg := by rw [up2_ne _ _ _ _ _ (by decide)]; exact a21
    have c35 : up2 A 16 0 (nI (T + 1)) 35 T = 0 := by rw [up2_ne _ _ _ _ _ (by decide), b35]; exact hz.2.2.2.2
    have ea : nI (ix a) = a := in_eq (hI.P ha) (by decide)
    unfold KT_sign KT_mail
    dsimp only
    rw [hnT]
    by_cases e2 : rg = 0
    · rw [if_pos (c21.trans e2), htX]
      simp only [e2, if_true]
    · rw [if_neg (fun z => e2 (c21.symm.trans z)), if_pos (by rw [c35, htX]; dsimp only; rw [if_pos rfl, if_neg e2]; decide), c35, htX]
      dsimp only
      refine Prod.ext rfl (Prod.ext ?_ rfl)
      funext x y
      show up2 (fun x y => if x = T then (0 : Int32) else tb.2.1 x y) T (ix 0) a x y = (if x = T then (if rg = 0 then (fun _ => 0) else upd (fun _ => 0) 0 (nI (ix a))) y else tb.2.1 x y)
      rw [up2_at, if_neg e2, ea]
      show (if x = T ∧ y = 0 then a else if x = T then 0 else tb.2.1 x y) = (if x = T then upd (fun _ => 0) 0 a y else tb.2.1 x y)
      unfold upd
      by_cases hx : x = T
      · by_cases hy : y = 0
        · rw [if_pos ⟨hx, hy⟩, if_pos hx, if_pos hy]
        · rw [if_neg (fun z => hy z.2), if_pos hx, if_pos hx, if_neg hy]
      · rw [if_neg (fun z => hx z.1), if_neg hx, if_neg hx]
  have hHν : HR ν (KT_mail μ tb a rg) cl' := by
    rw [← eKT]
    refine HR_same hH2 (fun j hj => ?_)
    by_cases e : j = 16
    · subst e
      rw [hm, sg_ne _ _ _ (by decide)]
      funext y
      show up2 _ 16 0 (μ.1 16 0 + 1) 16 y = up2 A 16 0 (nI (T + 1)) 16 y
      rw [up2_at, up2_at, e16, s16, a0 16 (by decide) (by omega)]
    · rw [fν j e, signs_16 A J T a _ j e]
  have hsg := sg_n hRA (t := T) (n := 0) a hSA (by show A 35 T = nI 0; rw [b35, hz.2.2.2.2]; rfl) (by decide)
  obtain ⟨⟨d, hd, d35, d30⟩, hne⟩ := hsg
  have hs35 : ∀ x, x ≠ T → ν.1 35 x = μ.1 35 x := fun x hx => by rw [fν 35 (by decide), hne x hx]; exact congrFun b35 x
  refine ⟨hRν, hKν, ⟨cl', hHν⟩, ?_, ?_, fun t ht => ?_, fun t ht => ?_⟩
  · refine TK_same (fun j hj => ?_) h.2.2.2.1
    rw [fν j (by omega), sg_ne _ _ _ (by omega)]
    exact a0 j (by omega) (by omega)
  · rw [hnT', sumH, fν 30 (by decide), d30, fν 35 (by decide), d35]
    have e2 : sumH ν T = sumH μ T := by
      have : ∀ n, n ≤ T → sumH ν n = sumH μ n := by
        intro n
        induction n with
        | zero => intro _; rfl
        | succ n ih => intro hn; rw [sumH, sumH, ih (by omega), hs35 n (by omega)]
      exact this T (Nat.le_refl _)
    show ix (A 30 0) + d = _
    rw [e2, a0 30 (by decide) (by omega), h.2.2.2.2.1, hnT]
    omega
  · rw [hnT'] at ht
    by_cases e : t = T
    · subst e
      have e23 : ν.1 23 t = 0 := by rw [fν 23 (by decide), sg_ne _ _ _ (by decide)]; show A 23 t = 0; rw [hA]; unfold MA; simp [up2_at]
      unfold Ph
      rw [e23, fν 35 (by decide), d35, if_neg (by decide)]
      split <;> omega
    · have := h.2.2.2.2.2.1 t (by omega)
      have e23 : ν.1 23 t = μ.1 23 t := by rw [fν 23 (by decide), sg_ne _ _ _ (by decide)]; show A 23 t = _; rw [hA, MA_o _ _ _ _ _ _ _ _ e]; exact congrFun (up2_ne μ.1 38 0 0 23 (by decide)) t
      have e27 : ν.1 27 t = μ.1 27 t := by rw [fν 27 (by decide), sg_ne _ _ _ (by decide)]; exact congrFun (a0 27 (by decide) (by omega)) t
      rw [Ph_congr (hs35 t e) e23 e27]
      exact this
  · rw [hnT'] at ht
    unfold KT_mail
    dsimp only
    rw [hnT, if_neg (by omega)]
    exact h.2.2.2.2.2.2 t (by omega)
end MI
