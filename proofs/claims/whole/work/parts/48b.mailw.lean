/-! a thing more -/
theorem fT_new {μ μ' : Mu} {lay' : xK → Nat} {b a1 : Nat} {k p q g lk rg c : Int32} (v17 : μ'.1 17 b = k) (v18 : μ'.1 18 b = p) (v19 : μ'.1 19 b = q) (v20 : μ'.1 20 b = g) (v21 : μ'.1 21 b = rg) (v22 : μ'.1 22 b = lk) (v23 : μ'.1 23 b = 0) (v24 : μ'.1 24 b = p) (v25 : μ'.1 25 b = -1) (v26 : μ'.1 26 b = 0) (v28 : μ'.1 28 b = 0) (v27 : μ'.1 27 b = 0) (v29 : μ'.1 29 b = 0) (v35 : μ'.1 35 b = c) (h31' : lay' (31, b) = a1) : fT0 k (.ref (lay' (10, ix p))) (.ref (lay' (10, ix q))) g lk rg (.ref a1) c = fT lay' μ' b := by
  subst v17 v18 v19 v20 v21 v22 v35 h31'
  funext j
  unfold fT0 fT
  rw [v23, v24, v25, v26, v27, v28, v29, tLeg_n] <;> first | rfl | (split <;> rfl)
set_option maxRecDepth 100000 in
set_option maxHeartbeats 1000000 in
theorem mail_world {μ' : Mu} {Z : xZ} {lay lay' : xK → Nat} {μ : Mu} {tb : Tb} {r : xK → Option xE} {T a0 a1 n : Nat} {hd : Nat → Int32} {k p q g lk rg c : Int32} (hI : RI μ) (hK : KI μ) (hT : T < 40) (eT : μ.1 16 0 = nI T) (hl : lyC Z lay lay' μ tb r) (hp : ix p < nP μ) (hq : ix q < nP μ) (h30' : lay' (30, T) = a0) (h31' : lay' (31, T) = a1) (m16 : μ'.1 16 0 = nI (T + 1)) (mo : ∀ j, j ≠ 16 → ∀ b, b ≠ T → μ'.1 j b = μ.1 j b) (mJ : μ'.2 = μ.2) (mk : ∀ j, j ≠ 16 → (j < 17 ∨ 25 < j) → j ≠ 35 → μ'.1 j = μ.1 j) (v17 : μ'.1 17 T = k) (v18 : μ'.1 18 T = p) (v19 : μ'.1 19 T = q) (v20 : μ'.1 20 T = g) (v21 : μ'.1 21 T = rg) (v22 : μ'.1 22 T = lk) (v23 : μ'.1 23 T = 0) (v24 : μ'.1 24 T = p) (v25 : μ'.1 25 T = -1) (v35 : μ'.1 35 T = c) : xup (xup (xup (xup (cX Z lay μ tb r) (31, T) (aI Z n hd)) (30, T) (.inr (3, fT0 k (.ref (lay (10, ix p))) (.ref (lay (10, ix q))) g lk rg (.ref a1) c))) (2, 0) (.inl (Z.2 4, 40, .inr (.inr (.inr (.inr (va_up (fun i => if i < nT μ then some (lay (30, i)) else none) (ix (μ.1 16 0)) (some a0)))))))) (0, 0) (.inr (4, updV (fX lay μ) 4 (.int (μ.1 16 0 + 1)))) = cX Z lay' μ' (tb.1, (fun x y => if x = T then hd y else tb.2.1 x y), (fun x => if x = T then n else tb.2.2 x)) r := by
  have hnT := nT_of (by omega) eT
  have hz := hK.2.2.2.2.2.2 T (by omega)
  have hnT' : nT μ' = T + 1 := by unfold nT; rw [m16, ix_nI (by omega)]
  have hnP' : nP μ' = nP μ := by unfold nP; rw [mk 0 (by decide) (by decide) (by decide)]
  have hnG' : nG μ' = nG μ := by unfold nG; rw [mk 10 (by decide) (by decide) (by decide)]
  have f10 : ∀ i, i < nP μ → lay' (10, i) = lay (10, i) := fun i hi => hl _ (by rw [cX_P hi]; exact fun z => by cases z)
  have f30 : ∀ i, i < nT μ → lay' (30, i) = lay (30, i) := fun i hi => hl _ (by rw [cX_T hi]; exact fun z => by cases z)
  have eX : fX lay μ = fX lay' μ := by unfold fX; rw [hl (1, 0) (by rw [cX_ps]; exact fun z => by cases z), hl (2, 0) (by rw [cX_ts]; exact fun z => by cases z), hl (3, 0) (by rw [cX_R]; exact fun z => by cases z)]
  have eR : fR lay' μ' = fR lay' μ := by unfold fR; rw [mk 10 (by decide) (by decide) (by decide)]
  have eP : ∀ b, fP lay' μ' b = fP lay' μ b := by intro b; unfold fP; rw [mk 4 (by decide) (by decide) (by decide), mk 5 (by decide) (by decide) (by decide), mk 6 (by decide) (by decide) (by decide), mJ]
  have eG : ∀ b, fG lay' μ' b = fG lay' μ b := by intro b; unfold fG; rw [mk 11 (by decide) (by decide) (by decide), mk 12 (by decide) (by decide) (by decide), mk 13 (by decide) (by decide) (by decide), mk 14 (by decide) (by decide) (by decide)]
  have er : ∀ j b, j = 1 ∨ j = 2 ∨ j = 3 → row3 μ'.1 j b = row3 μ.1 j b := by intro j b hj; unfold row3; rw [mk j (by omega) (by omega) (by omega)]
  have eo : ∀ b, b ≠ T → fT lay' μ' b = fT lay' μ b := by intro b hb; unfold fT; simp only [mo _ (show (17 : Nat) ≠ 16 by decide) b hb, mo _ (show (18 : Nat) ≠ 16 by decide) b hb, mo _ (show (19 : Nat) ≠ 16 by decide) b hb, mo _ (show (20 : Nat) ≠ 16 by decide) b hb, mo _ (show (21 : Nat) ≠ 16 by decide) b hb, mo _ (show (22 : Nat) ≠ 16 by decide) b hb, mo _ (show (23 : Nat) ≠ 16 by decide) b hb, mo _ (show (24 : Nat) ≠ 16 by decide) b hb, mo _ (show (25 : Nat) ≠ 16 by decide) b hb, mo _ (show (26 : Nat) ≠ 16 by decide) b hb, mo _ (show (27 : Nat) ≠ 16 by decide) b hb, mo _ (show (28 : Nat) ≠ 16 by decide) b hb, mo _ (show (29 : Nat) ≠ 16 by decide) b hb, mo _ (show (35 : Nat) ≠ 16 by decide) b hb]
  have hix : ix (μ.1 16 0) = nT μ := rfl
  rw [← f10 _ hp, ← f10 _ hq, ← cX_lay hI hK hl, eX, hix, aQ_grow (f' := fun i => lay' (30, i)) (fun i hi => f30 i hi) (by rw [hnT]; exact h30'), hnT]
  obtain ⟨W9, hW9⟩ : ∃ W9, W9 = xup (xup (xup (xup (cX Z lay' μ tb r) (31, T) (aI Z n hd)) (30, T) (.inr (3, fT0 k (.ref (lay' (10, ix p))) (.ref (lay' (10, ix q))) g lk rg (.ref a1) c))) (2, 0) (aQ Z 4 40 (T + 1) (fun i => lay' (30, i)))) (0, 0) (.inr (4, updV (fX lay' μ) 4 (.int (μ.1 16 0 + 1)))) := ⟨_, rfl⟩
  rw [← hW9]
  funext ⟨a, b⟩
  by_cases h0 : a = 0
  · subst h0
    by_cases hb : b = 0
    · subst hb
      rw [hW9, xup_at, cXk_0, if_pos rfl]
      exact congrArg (fun f => some (Sum.inr (4, f) : xE)) (funext fun j => by match j with | 0 => rfl | 1 => rfl | 2 => rfl | 3 => (show Value.int (μ.1 0 0) = .int (μ'.1 0 0); rw [mk 0 (by decide) (by decide) (by decide)]) | 4 => (show Value.int (μ.1 16 0 + 1) = .int (μ'.1 16 0); rw [m16, eT, nI_1]) | 5 => (show Value.int (μ.1 36 0) = .int (μ'.1 36 0); rw [mk 36 (by decide) (by decide) (by decide)]) | j + 6 => rfl)
    · rw [show W9 (0, b) = cX Z lay' μ tb r (0, b) from by rw [hW9]; simp [xup, hb], cXk_0, cXk_0, if_neg hb, if_neg hb]
  by_cases h1 : a = 1
  · subst h1
    rw [show W9 (1, b) = cX Z lay' μ tb r (1, b) from by rw [hW9]; simp [xup], cXk_1, cXk_1, hnP']
  by_cases h2 : a = 2
  · subst h2
    by_cases hb : b = 0
    · subst hb
      rw [hW9, xup_ne _ _ (by simp), xup_at, cXk_2, if_pos rfl, hnT']
    · rw [show W9 (2, b) = cX Z lay' μ tb r (2, b) from by rw [hW9]; simp [xup, hb], cXk_2, cXk_2, if_neg hb, if_neg hb]
  by_cases h3 : a = 3
  · subst h3
    rw [show W9 (3, b) = cX Z lay' μ tb r (3, b) from by rw [hW9]; simp [xup], cXk_3, cXk_3, eR]
  by_cases h4 : a = 4
  · subst h4
    rw [show W9 (4, b) = cX Z lay' μ tb r (4, b) from by rw [hW9]; simp [xup], cXk_4, cXk_4, hnG']
  by_cases h5 : a = 5
  · subst h5
    rw [show W9 (5, b) = cX Z lay' μ tb r (5, b) from by rw [hW9]; simp [xup], cXk_5, cXk_5]
  by_cases h6 : a = 6
  · subst h6
    rw [show W9 (6, b) = cX Z lay' μ tb r (6, b) from by rw [hW9]; simp [xup], cXk_6, cXk_6]
  by_cases h7 : a = 7
  · subst h7
    rw [show W9 (7, b) = cX Z lay' μ tb r (7, b) from by rw [hW9]; simp [xup], cXk_7, cXk_7]
  by_cases h10 : a = 10
  · subst h10
    rw [show W9 (10, b) = cX Z lay' μ tb r (10, b) from by rw [hW9]; simp [xup], cXk_10, cXk_10, hnP', eP]
  by_cases h11 : a = 11
  · subst h11
    rw [show W9 (11, b) = cX Z lay' μ tb r (11, b) from by rw [hW9]; simp [xup], cXk_11, cXk_11, hnP', er 1 b (by omega)]
  by_cases h12 : a = 12
  · subst h12
    rw [show W9 (12, b) = cX Z lay' μ tb r (12, b) from by rw [hW9]; simp [xup], cXk_12, cXk_12, hnP', er 2 b (by omega)]
  by_cases h13 : a = 13
  · subst h13
    rw [show W9 (13, b) = cX Z lay' μ tb r (13, b) from by rw [hW9]; simp [xup], cXk_13, cXk_13, hnP', er 3 b (by omega)]
  by_cases h14 : a = 14
  · subst h14
    rw [show W9 (14, b) = cX Z lay' μ tb r (14, b) from by rw [hW9]; simp [xup], cXk_14, cXk_14, hnP', mJ]
  by_cases h20 : a = 20
  · subst h20
    rw [show W9 (20, b) = cX Z lay' μ tb r (20, b) from by rw [hW9]; simp [xup], cXk_20, cXk_20, hnG', eG]
  by_cases h30 : a = 30
  · subst h30
    by_cases hb : b = T
    · subst hb
      rw [hW9, xup_ne _ _ (by simp), xup_ne _ _ (by simp), xup_at, cXk_30, if_pos (by rw [hnT']; omega)]
      rw [fT_new (μ := μ) v17 v18 v19 v20 v21 v22 v23 v24 v25 (by rw [mk 26 (by decide) (by decide) (by decide), hz.1]) (by rw [mk 28 (by decide) (by decide) (by decide), hz.2.2.1]) (by rw [mk 27 (by decide) (by decide) (by decide), hz.2.1]) (by rw [mk 29 (by decide) (by decide) (by decide), hz.2.2.2.1]) v35 h31']
    · rw [show W9 (30, b) = cX Z lay' μ tb r (30, b) from by rw [hW9]; simp [xup, hb], cXk_30, cXk_30, hnT', hnT, eo b hb]
      by_cases hb2 : b < T
      · rw [if_pos hb2, if_pos (by omega)]
      · rw [if_neg hb2, if_neg (by omega)]
  by_cases h31 : a = 31
  · subst h31
    by_cases hb : b = T
    · subst hb
      rw [hW9, xup_ne _ _ (by simp), xup_ne _ _ (by simp), xup_ne _ _ (by simp), xup_at, cXk_31, if_pos (by rw [hnT']; omega)]
      simp
    · rw [show W9 (31, b) = cX Z lay' μ tb r (31, b) from by rw [hW9]; simp [xup, hb], cXk_31, cXk_31, hnT', hnT]
      by_cases hb2 : b < T
      · rw [if_pos hb2, if_pos (by omega)]; simp [hb]
      · rw [if_neg hb2, if_neg (by omega)]
  rw [show W9 (a, b) = cX Z lay' μ tb r (a, b) from by rw [hW9]; simp [xup, h0, h2, h30, h31]]
  rw [cX_r h0 h1 h2 h3 h4 h5 h6 h7 h10 h11 h12 h13 h14 h20 h30 h31, cX_r h0 h1 h2 h3 h4 h5 h6 h7 h10 h11 h12 h13 h14 h20 h30 h31]
