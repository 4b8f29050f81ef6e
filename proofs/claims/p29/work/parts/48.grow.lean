/-! worlds that grow: a post, a leg, a thing more -/
theorem xlay_ne (lay : xK → Nat) {k j : xK} (a : Nat) (h : j ≠ k) : xlay lay k a j = lay j := if_neg h
theorem k40 {k : xK} {a b : Nat} (hk : 40 ≤ k.1) (ha : a < 40) : k ≠ (a, b) := fun z => by have h1 : k.1 = a := congrArg Prod.fst z; omega
theorem xlay_at (lay : xK → Nat) (k : xK) (a : Nat) : xlay lay k a k = a := if_pos rfl
abbrev lyB (lay lay' : xK → Nat) : Prop := ∀ k : xK, 40 ≤ k.1 → lay' k = lay k
abbrev lyC (Z : xZ) (lay lay' : xK → Nat) (μ : Mu) (tb : Tb) (r : xK → Option xE) : Prop := ∀ k, cX Z lay μ tb r k ≠ none → lay' k = lay k
theorem aQ_lay {Z : xZ} {ty n m : Nat} {f f' : Nat → Nat} (h : ∀ i, i < m → f' i = f i) : aQ Z ty n m f' = aQ Z ty n m f := by
  have e : (fun i => if i < m then some (f' i) else none) = (fun i => if i < m then some (f i) else none) := by
    funext i
    by_cases hi : i < m
    · rw [if_pos hi, if_pos hi, h i hi]
    · rw [if_neg hi, if_neg hi]
  unfold aQ
  rw [e]
set_option maxRecDepth 100000 in
set_option maxHeartbeats 1000000 in
theorem cX_lay {Z : xZ} {lay lay' : xK → Nat} {μ : Mu} {tb : Tb} {r : xK → Option xE} (hI : RI μ) (hK : KI μ) (h : lyC Z lay lay' μ tb r) : cX Z lay' μ tb r = cX Z lay μ tb r := by
  have f10 : ∀ i, i < nP μ → lay' (10, i) = lay (10, i) := fun i hi => h _ (by rw [cX_P hi]; exact fun z => by cases z)
  have f11 : ∀ i, i < nP μ → lay' (11, i) = lay (11, i) := fun i hi => h _ (by rw [cX_r1 hi]; exact fun z => by cases z)
  have f12 : ∀ i, i < nP μ → lay' (12, i) = lay (12, i) := fun i hi => h _ (by rw [cX_r2 hi]; exact fun z => by cases z)
  have f13 : ∀ i, i < nP μ → lay' (13, i) = lay (13, i) := fun i hi => h _ (by rw [cX_r3 hi]; exact fun z => by cases z)
  have f14 : ∀ i, i < nP μ → lay' (14, i) = lay (14, i) := fun i hi => h _ (by rw [cX_c hi]; exact fun z => by cases z)
  have f20 : ∀ i, i < nG μ → lay' (20, i) = lay (20, i) := fun i hi => h _ (by rw [cX_G hi]; exact fun z => by cases z)
  have f30 : ∀ i, i < nT μ → lay' (30, i) = lay (30, i) := fun i hi => h _ (by rw [cX_T hi]; exact fun z => by cases z)
  have f31 : ∀ i, i < nT μ → lay' (31, i) = lay (31, i) := fun i hi => h _ (by rw [cX_h hi]; exact fun z => by cases z)
  have g1 : lay' (1, 0) = lay (1, 0) := h _ (by rw [cX_ps]; exact fun z => by cases z)
  have g2 : lay' (2, 0) = lay (2, 0) := h _ (by rw [cX_ts]; exact fun z => by cases z)
  have g3 : lay' (3, 0) = lay (3, 0) := h _ (by rw [cX_R]; exact fun z => by cases z)
  have g4 : lay' (4, 0) = lay (4, 0) := h _ (by rw [cX_gs]; exact fun z => by cases z)
  have g5 : lay' (5, 0) = lay (5, 0) := h _ (by rw [cX_t0]; exact fun z => by cases z)
  have g6 : lay' (6, 0) = lay (6, 0) := h _ (by rw [cX_t1]; exact fun z => by cases z)
  have g7 : lay' (7, 0) = lay (7, 0) := h _ (by rw [cX_t2]; exact fun z => by cases z)
  funext ⟨a, b⟩
  by_cases h0 : a = 0
  · subst h0
    rw [cXk_0, cXk_0]
    have e : fX lay' μ = fX lay μ := by unfold fX; rw [g1, g2, g3]
    rw [e]
  by_cases h1 : a = 1
  · subst h1
    rw [cXk_1, cXk_1]
    have e : aQ Z 3 8 (nP μ) (fun i => lay' (10, i)) = aQ Z 3 8 (nP μ) (fun i => lay (10, i)) := aQ_lay (fun i hi => f10 i hi)
    rw [e]
  by_cases h2 : a = 2
  · subst h2
    rw [cXk_2, cXk_2]
    have e : aQ Z 4 40 (nT μ) (fun i => lay' (30, i)) = aQ Z 4 40 (nT μ) (fun i => lay (30, i)) := aQ_lay (fun i hi => f30 i hi)
    rw [e]
  by_cases h3 : a = 3
  · subst h3
    rw [cXk_3, cXk_3]
    have e : fR lay' μ = fR lay μ := by unfold fR; rw [g4, g5, g6, g7]
    rw [e]
  by_cases h4 : a = 4
  · subst h4
    rw [cXk_4, cXk_4]
    have e : aQ Z 5 20 (nG μ) (fun i => lay' (20, i)) = aQ Z 5 20 (nG μ) (fun i => lay (20, i)) := aQ_lay (fun i hi => f20 i hi)
    rw [e]
  by_cases h5 : a = 5
  · subst h5
    rw [cXk_5, cXk_5]
  by_cases h6 : a = 6
  · subst h6
    rw [cXk_6, cXk_6]
  by_cases h7 : a = 7
  · subst h7
    rw [cXk_7, cXk_7]
  by_cases h10 : a = 10
  · subst h10
    rw [cXk_10, cXk_10]
    by_cases hb : b < nP μ
    · rw [if_pos hb, if_pos hb]
      have e : fP lay' μ b = fP lay μ b := by unfold fP; rw [f11 b hb, f12 b hb, f13 b hb, f14 b hb]
      rw [e]
    · rw [if_neg hb, if_neg hb]
  by_cases h11 : a = 11
  · subst h11
    rw [cXk_11, cXk_11]
  by_cases h12 : a = 12
  · subst h12
    rw [cXk_12, cXk_12]
  by_cases h13 : a = 13
  · subst h13
    rw [cXk_13, cXk_13]
  by_cases h14 : a = 14
  · subst h14
    rw [cXk_14, cXk_14]
  by_cases h20 : a = 20
  · subst h20
    rw [cXk_20, cXk_20]
    by_cases hb : b < nG μ
    · rw [if_pos hb, if_pos hb]
      have e : fG lay' μ b = fG lay μ b := by unfold fG; rw [f10 _ (hK.g1 hb), f10 _ (hK.g2 hb)]
      rw [e]
    · rw [if_neg hb, if_neg hb]
  by_cases h30 : a = 30
  · subst h30
    rw [cXk_30, cXk_30]
    by_cases hb : b < nT μ
    · rw [if_pos hb, if_pos hb]
      have el : tLeg lay' (μ.1 25 b) = tLeg lay (μ.1 25 b) := by unfold tLeg; rcases hK.on hb with q | q; rw [if_pos q, if_pos q]; rw [f20 _ q]
      have e : fT lay' μ b = fT lay μ b := by unfold fT; rw [f10 _ (hK.or hb), f10 _ (hK.ta hb), f10 _ (hK.at hb), f31 _ hb, el]
      rw [e]
    · rw [if_neg hb, if_neg hb]
  by_cases h31 : a = 31
  · subst h31
    rw [cXk_31, cXk_31]
  rw [cX_r h0 h1 h2 h3 h4 h5 h6 h7 h10 h11 h12 h13 h14 h20 h30 h31, cX_r h0 h1 h2 h3 h4 h5 h6 h7 h10 h11 h12 h13 h14 h20 h30 h31]
theorem aQ_grow {Z : xZ} {ty n m : Nat} {f f' : Nat → Nat} {a : Nat} (h : ∀ i, i < m → f' i = f i) (ha : f' m = a) : (.inl (Z.2 ty, n, .inr (.inr (.inr (.inr (va_up (fun i => if i < m then some (f i) else none) m (some a)))))) : xE) = aQ Z ty n (m + 1) f' := by
  unfold aQ va_up
  congr 7
  funext i
  by_cases h1 : i = m
  · rw [if_pos h1, if_pos (by omega), h1, ha]
  · rw [if_neg h1]
    show (if i < m then some (f i) else none) = _
    by_cases h2 : i < m
    · rw [if_pos h2, if_pos (by omega), h i h2]
    · rw [if_neg h2, if_neg (by omega)]
set_option maxRecDepth 100000 in
set_option maxHeartbeats 1000000 in
theorem post_world {Z : xZ} {lay lay' : xK → Nat} {μ : Mu} {tb : Tb} {r : xK → Option xE} {P a1 a2 a3 a4 a0 : Nat} (hI : RI μ) (hK : KI μ) (hP : P < 8) (eP : μ.1 0 0 = nI P) (hl : lyC Z lay lay' μ tb r) (h10 : lay' (10, P) = a0) (h11 : lay' (11, P) = a1) (h12 : lay' (12, P) = a2) (h13 : lay' (13, P) = a3) (h14 : lay' (14, P) = a4) : xup (xup (xup (xup (xup (xup (xup (cX Z lay μ tb r) (11, P) (aI Z 3 (fun _ => 0))) (12, P) (aI Z 3 (fun _ => 0))) (13, P) (aI Z 3 (fun _ => 0))) (14, P) (aL Z 8 (fun _ => 0))) (10, P) (.inr (1, fP0 (μ.1 0 0) (.ref a1) (.ref a2) (.ref a3) (.ref a4)))) (1, 0) (.inl (Z.2 3, 8, .inr (.inr (.inr (.inr (va_up (fun i => if i < nP μ then some (lay (10, i)) else none) (ix (μ.1 0 0)) (some a0)))))))) (0, 0) (.inr (4, updV (fX lay μ) 3 (.int (μ.1 0 0 + 1)))) = cX Z lay' (up2 (up2 μ.1 38 0 0) 0 0 (μ.1 0 0 + 1), μ.2) tb r := by
  have hnP := nP_of (by omega) eP
  have hz := hK.2.2.2.2.1 P (by omega)
  have hnP' : nP (up2 (up2 μ.1 38 0 0) 0 0 (μ.1 0 0 + 1), μ.2) = P + 1 := by show ix (μ.1 0 0 + 1) = P + 1; rw [eP, nI_1, ix_nI (by omega)]
  have f10 : ∀ i, i < nP μ → lay' (10, i) = lay (10, i) := fun i hi => hl _ (by rw [cX_P hi]; exact fun z => by cases z)
  have eX : fX lay μ = fX lay' μ := by unfold fX; rw [hl (1, 0) (by rw [cX_ps]; exact fun z => by cases z), hl (2, 0) (by rw [cX_ts]; exact fun z => by cases z), hl (3, 0) (by rw [cX_R]; exact fun z => by cases z)]
  have hix : ix (μ.1 0 0) = nP μ := rfl
  rw [← cX_lay hI hK hl, eX, hix, aQ_grow (f' := fun i => lay' (10, i)) (fun i hi => f10 i hi) (by rw [hnP]; exact h10), hnP]
  obtain ⟨W9, hW9⟩ : ∃ W9, W9 = xup (xup (xup (xup (xup (xup (xup (cX Z lay' μ tb r) (11, P) (aI Z 3 (fun _ => 0))) (12, P) (aI Z 3 (fun _ => 0))) (13, P) (aI Z 3 (fun _ => 0))) (14, P) (aL Z 8 (fun _ => 0))) (10, P) (.inr (1, fP0 (μ.1 0 0) (.ref a1) (.ref a2) (.ref a3) (.ref a4)))) (1, 0) (aQ Z 3 8 (P + 1) (fun i => lay' (10, i)))) (0, 0) (.inr (4, updV (fX lay' μ) 3 (.int (μ.1 0 0 + 1)))) := ⟨_, rfl⟩
  rw [← hW9]
  funext ⟨a, b⟩
  by_cases h0 : a = 0
  · subst h0
    by_cases hb : b = 0
    · subst hb
      rw [hW9, xup_at, cXk_0, if_pos rfl]
      exact congrArg (fun f => some (Sum.inr (4, f) : xE)) (funext fun j => by match j with | 0 => rfl | 1 => rfl | 2 => rfl | 3 => rfl | 4 => rfl | 5 => rfl | j + 6 => rfl)
    · rw [show W9 (0, b) = cX Z lay' μ tb r (0, b) from by rw [hW9]; simp [xup, hb], cXk_0, cXk_0, if_neg hb, if_neg hb]
  by_cases h1 : a = 1
  · subst h1
    by_cases hb : b = 0
    · subst hb
      rw [hW9, xup_ne _ _ (by simp), xup_at, cXk_1, if_pos rfl, hnP']
    · rw [show W9 (1, b) = cX Z lay' μ tb r (1, b) from by rw [hW9]; simp [xup, hb], cXk_1, cXk_1, if_neg hb, if_neg hb]
  by_cases h2 : a = 2
  · subst h2
    rw [show W9 (2, b) = cX Z lay' μ tb r (2, b) from by rw [hW9]; simp [xup]]
    rw [cXk_2, cXk_2] <;> rfl
  by_cases h3 : a = 3
  · subst h3
    rw [show W9 (3, b) = cX Z lay' μ tb r (3, b) from by rw [hW9]; simp [xup]]
    rw [cXk_3, cXk_3] <;> rfl
  by_cases h4 : a = 4
  · subst h4
    rw [show W9 (4, b) = cX Z lay' μ tb r (4, b) from by rw [hW9]; simp [xup]]
    rw [cXk_4, cXk_4] <;> rfl
  by_cases h5 : a = 5
  · subst h5
    rw [show W9 (5, b) = cX Z lay' μ tb r (5, b) from by rw [hW9]; simp [xup]]
    rw [cXk_5, cXk_5] <;> rfl
  by_cases h6 : a = 6
  · subst h6
    rw [show W9 (6, b) = cX Z lay' μ tb r (6, b) from by rw [hW9]; simp [xup]]
    rw [cXk_6, cXk_6] <;> rfl
  by_cases h7 : a = 7
  · subst h7
    rw [show W9 (7, b) = cX Z lay' μ tb r (7, b) from by rw [hW9]; simp [xup]]
    rw [cXk_7, cXk_7] <;> rfl
  by_cases h10 : a = 10
  · subst h10
    by_cases hb : b = P
    · subst hb
      rw [hW9, xup_ne _ _ (by simp), xup_ne _ _ (by simp), xup_at, cXk_10, if_pos (by rw [hnP']; omega)]
      exact congrArg (fun f => some (Sum.inr (1, f) : xE)) (funext fun j => by match j with | 0 => (show Value.int (μ.1 0 0) = .int (nI b); rw [eP]) | 1 => (show Value.ref a1 = .ref (lay' (11, b)); rw [h11]) | 2 => (show Value.ref a2 = .ref (lay' (12, b)); rw [h12]) | 3 => (show Value.ref a3 = .ref (lay' (13, b)); rw [h13]) | 4 => (show Value.ref a4 = .ref (lay' (14, b)); rw [h14]) | 5 => (show Value.int 0 = .int (μ.1 4 b); rw [hz.1.1]) | 6 => (show Value.int 0 = .int (μ.1 5 b); rw [hz.1.2.1]) | 7 => (show Value.int 0 = .int (μ.1 6 b); rw [hz.1.2.2]) | 8 => (show Value.long 0 = .long (μ.2 7 b); rw [hz.2.1.1]) | 9 => (show Value.long 0 = .long (μ.2 8 b); rw [hz.2.1.2]) | j + 10 => rfl)
    · rw [show W9 (10, b) = cX Z lay' μ tb r (10, b) from by rw [hW9]; simp [xup, hb], cXk_10, cXk_10, hnP', hnP]
      by_cases hb2 : b < P
      · rw [if_pos hb2, if_pos (by omega)] <;> rfl
      · rw [if_neg hb2, if_neg (by omega)]
  by_cases h11 : a = 11
  · subst h11
    by_cases hb : b = P
    · subst hb
      rw [hW9, xup_ne _ _ (by simp), xup_ne _ _ (by simp), xup_ne _ _ (by simp), xup_ne _ _ (by simp), xup_ne _ _ (by simp), xup_ne _ _ (by simp), xup_at, cXk_11, if_pos (by rw [hnP']; omega)]
      exact congrArg (fun f => some (aI Z 3 f)) (funext fun k => by show (0 : Int32) = (if k < 3 then μ.1 1 (3 * b + k) else 0); split; exact (hz.2.2 k (by assumption)).1.symm; rfl)
    · rw [show W9 (11, b) = cX Z lay' μ tb r (11, b) from by rw [hW9]; simp [xup, hb], cXk_11, cXk_11, hnP', hnP]
      by_cases hb2 : b < P
      · rw [if_pos hb2, if_pos (by omega)] <;> rfl
      · rw [if_neg hb2, if_neg (by omega)]
  by_cases h12 : a = 12
  · subst h12
    by_cases hb : b = P
    · subst hb
      rw [hW9, xup_ne _ _ (by simp), xup_ne _ _ (by simp), xup_ne _ _ (by simp), xup_ne _ _ (by simp), xup_ne _ _ (by simp), xup_at, cXk_12, if_pos (by rw [hnP']; omega)]
      exact congrArg (fun f => some (aI Z 3 f)) (funext fun k => by show (0 : Int32) = (if k < 3 then μ.1 2 (3 * b + k) else 0); split; exact (hz.2.2 k (by assumption)).2.1.symm; rfl)
    · rw [show W9 (12, b) = cX Z lay' μ tb r (12, b) from by rw [hW9]; simp [xup, hb], cXk_12, cXk_12, hnP', hnP]
      by_cases hb2 : b < P
      · rw [if_pos hb2, if_pos (by omega)] <;> rfl
      · rw [if_neg hb2, if_neg (by omega)]
  by_cases h13 : a = 13
  · subst h13
    by_cases hb : b = P
    · subst hb
      rw [hW9, xup_ne _ _ (by simp), xup_ne _ _ (by simp), xup_ne _ _ (by simp), xup_ne _ _ (by simp), xup_at, cXk_13, if_pos (by rw [hnP']; omega)]
      exact congrArg (fun f => some (aI Z 3 f)) (funext fun k => by show (0 : Int32) = (if k < 3 then μ.1 3 (3 * b + k) else 0); split; exact (hz.2.2 k (by assumption)).2.2.symm; rfl)
    · rw [show W9 (13, b) = cX Z lay' μ tb r (13, b) from by rw [hW9]; simp [xup, hb], cXk_13, cXk_13, hnP', hnP]
      by_cases hb2 : b < P
      · rw [if_pos hb2, if_pos (by omega)] <;> rfl
      · rw [if_neg hb2, if_neg (by omega)]
  by_cases h14 : a = 14
  · subst h14
    by_cases hb : b = P
    · subst hb
      rw [hW9, xup_ne _ _ (by simp), xup_ne _ _ (by simp), xup_ne _ _ (by simp), xup_at, cXk_14, if_pos (by rw [hnP']; omega)]
      exact congrArg (fun f => some (aL Z 8 f)) (funext fun k => by show (0 : Int64) = (if k < 8 then μ.2 9 (8 * b + k) else 0); split; exact (hK.2.2.2.1 b k hP (by assumption) (Or.inl (by omega))).symm; rfl)
    · rw [show W9 (14, b) = cX Z lay' μ tb r (14, b) from by rw [hW9]; simp [xup, hb], cXk_14, cXk_14, hnP', hnP]
      by_cases hb2 : b < P
      · rw [if_pos hb2, if_pos (by omega)] <;> rfl
      · rw [if_neg hb2, if_neg (by omega)]
  by_cases h20 : a = 20
  · subst h20
    rw [show W9 (20, b) = cX Z lay' μ tb r (20, b) from by rw [hW9]; simp [xup]]
    rw [cXk_20, cXk_20] <;> rfl
  by_cases h30 : a = 30
  · subst h30
    rw [show W9 (30, b) = cX Z lay' μ tb r (30, b) from by rw [hW9]; simp [xup]]
    rw [cXk_30, cXk_30] <;> rfl
  by_cases h31 : a = 31
  · subst h31
    rw [show W9 (31, b) = cX Z lay' μ tb r (31, b) from by rw [hW9]; simp [xup]]
    rw [cXk_31, cXk_31] <;> rfl
  rw [show W9 (a, b) = cX Z lay' μ tb r (a, b) from by rw [hW9]; simp [xup, h0, h1, h10, h11, h12, h13, h14]]
  rw [cX_r h0 h1 h2 h3 h4 h5 h6 h7 h10 h11 h12 h13 h14 h20 h30 h31, cX_r h0 h1 h2 h3 h4 h5 h6 h7 h10 h11 h12 h13 h14 h20 h30 h31]
set_option maxRecDepth 100000 in
set_option maxHeartbeats 1000000 in
theorem leg_world {Z : xZ} {lay lay' : xK → Nat} {μ : Mu} {tb : Tb} {r : xK → Option xE} {G a0 : Nat} {p q d : Int32} (hI : RI μ) (hK : KI μ) (hG : G < 20) (eG : μ.1 10 0 = nI G) (hl : lyC Z lay lay' μ tb r) (hp : ix p < nP μ) (hq : ix q < nP μ) (h20 : lay' (20, G) = a0) : xup (xup (xup (cX Z lay μ tb r) (20, G) (.inr (0, fG0 (.ref (lay (10, ix p))) (.ref (lay (10, ix q))) d))) (4, 0) (.inl (Z.2 5, 20, .inr (.inr (.inr (.inr (va_up (fun i => if i < nG μ then some (lay (20, i)) else none) (ix (μ.1 10 0)) (some a0)))))))) (3, 0) (.inr (2, updV (fR lay μ) 4 (.int (μ.1 10 0 + 1)))) = cX Z lay' (up2 (up2 (up2 (up2 μ.1 11 G p) 12 G q) 13 G d) 10 0 (μ.1 10 0 + 1), μ.2) tb r := by
  have hnG := nG_of (by omega) eG
  have hz := hK.2.2.2.2.2.1 G (by omega)
  have hnG' : nG (up2 (up2 (up2 (up2 μ.1 11 G p) 12 G q) 13 G d) 10 0 (μ.1 10 0 + 1), μ.2) = G + 1 := by show ix (μ.1 10 0 + 1) = G + 1; rw [eG, nI_1, ix_nI (by omega)]
  have f10 : ∀ i, i < nP μ → lay' (10, i) = lay (10, i) := fun i hi => hl _ (by rw [cX_P hi]; exact fun z => by cases z)
  have f20 : ∀ i, i < nG μ → lay' (20, i) = lay (20, i) := fun i hi => hl _ (by rw [cX_G hi]; exact fun z => by cases z)
  have eX : fR lay μ = fR lay' μ := by unfold fR; rw [hl (4, 0) (by rw [cX_gs]; exact fun z => by cases z), hl (5, 0) (by rw [cX_t0]; exact fun z => by cases z), hl (6, 0) (by rw [cX_t1]; exact fun z => by cases z), hl (7, 0) (by rw [cX_t2]; exact fun z => by cases z)]
  have hix : ix (μ.1 10 0) = nG μ := rfl
  rw [← f10 _ hp, ← f10 _ hq, ← cX_lay hI hK hl, eX, hix, aQ_grow (f' := fun i => lay' (20, i)) (fun i hi => f20 i hi) (by rw [hnG]; exact h20), hnG]
  obtain ⟨W9, hW9⟩ : ∃ W9, W9 = xup (xup (xup (cX Z lay' μ tb r) (20, G) (.inr (0, fG0 (.ref (lay' (10, ix p))) (.ref (lay' (10, ix q))) d))) (4, 0) (aQ Z 5 20 (G + 1) (fun i => lay' (20, i)))) (3, 0) (.inr (2, updV (fR lay' μ) 4 (.int (μ.1 10 0 + 1)))) := ⟨_, rfl⟩
  rw [← hW9]
  funext ⟨a, b⟩
  by_cases h0 : a = 0
  · subst h0
    rw [show W9 (0, b) = cX Z lay' μ tb r (0, b) from by rw [hW9]; simp [xup]]
    rw [cXk_0, cXk_0] <;> rfl
  by_cases h1 : a = 1
  · subst h1
    rw [show W9 (1, b) = cX Z lay' μ tb r (1, b) from by rw [hW9]; simp [xup]]
    rw [cXk_1, cXk_1] <;> rfl
  by_cases h2 : a = 2
  · subst h2
    rw [show W9 (2, b) = cX Z lay' μ tb r (2, b) from by rw [hW9]; simp [xup]]
    rw [cXk_2, cXk_2] <;> rfl
  by_cases h3 : a = 3
  · subst h3
    by_cases hb : b = 0
    · subst hb
      rw [hW9, xup_at, cXk_3, if_pos rfl]
      exact congrArg (fun f => some (Sum.inr (2, f) : xE)) (funext fun j => by match j with | 0 => rfl | 1 => rfl | 2 => rfl | 3 => rfl | 4 => rfl | j + 5 => rfl)
    · rw [show W9 (3, b) = cX Z lay' μ tb r (3, b) from by rw [hW9]; simp [xup, hb], cXk_3, cXk_3, if_neg hb, if_neg hb]
  by_cases h4 : a = 4
  · subst h4
    by_cases hb : b = 0
    · subst hb
      rw [hW9, xup_ne _ _ (by simp), xup_at, cXk_4, if_pos rfl, hnG']
    · rw [show W9 (4, b) = cX Z lay' μ tb r (4, b) from by rw [hW9]; simp [xup, hb], cXk_4, cXk_4, if_neg hb, if_neg hb]
  by_cases h5 : a = 5
  · subst h5
    rw [show W9 (5, b) = cX Z lay' μ tb r (5, b) from by rw [hW9]; simp [xup]]
    rw [cXk_5, cXk_5] <;> rfl
  by_cases h6 : a = 6
  · subst h6
    rw [show W9 (6, b) = cX Z lay' μ tb r (6, b) from by rw [hW9]; simp [xup]]
    rw [cXk_6, cXk_6] <;> rfl
  by_cases h7 : a = 7
  · subst h7
    rw [show W9 (7, b) = cX Z lay' μ tb r (7, b) from by rw [hW9]; simp [xup]]
    rw [cXk_7, cXk_7] <;> rfl
  by_cases h10 : a = 10
  · subst h10
    rw [show W9 (10, b) = cX Z lay' μ tb r (10, b) from by rw [hW9]; simp [xup]]
    rw [cXk_10, cXk_10] <;> rfl
  by_cases h11 : a = 11
  · subst h11
    rw [show W9 (11, b) = cX Z lay' μ tb r (11, b) from by rw [hW9]; simp [xup]]
    rw [cXk_11, cXk_11] <;> rfl
  by_cases h12 : a = 12
  · subst h12
    rw [show W9 (12, b) = cX Z lay' μ tb r (12, b) from by rw [hW9]; simp [xup]]
    rw [cXk_12, cXk_12] <;> rfl
  by_cases h13 : a = 13
  · subst h13
    rw [show W9 (13, b) = cX Z lay' μ tb r (13, b) from by rw [hW9]; simp [xup]]
    rw [cXk_13, cXk_13] <;> rfl
  by_cases h14 : a = 14
  · subst h14
    rw [show W9 (14, b) = cX Z lay' μ tb r (14, b) from by rw [hW9]; simp [xup]]
    rw [cXk_14, cXk_14] <;> rfl
  by_cases h20 : a = 20
  · subst h20
    by_cases hb : b = G
    · subst hb
      rw [hW9, xup_ne _ _ (by simp), xup_ne _ _ (by simp), xup_at, cXk_20, if_pos (by rw [hnG']; omega)]
      exact congrArg (fun f => some (Sum.inr (0, f) : xE)) (funext fun j => by match j with | 0 => (show Value.ref (lay' (10, ix p)) = .ref (lay' (10, ix (up2 (up2 (up2 (up2 μ.1 11 b p) 12 b q) 13 b d) 10 0 (μ.1 10 0 + 1) 11 b))); simp [up2]) | 1 => (show Value.ref (lay' (10, ix q)) = .ref (lay' (10, ix (up2 (up2 (up2 (up2 μ.1 11 b p) 12 b q) 13 b d) 10 0 (μ.1 10 0 + 1) 12 b))); simp [up2]) | 2 => (show Value.int d = .int (up2 (up2 (up2 (up2 μ.1 11 b p) 12 b q) 13 b d) 10 0 (μ.1 10 0 + 1) 13 b); simp [up2]) | 3 => (show Value.int 0 = .int (μ.1 14 b); rw [hz]) | j + 4 => rfl)
    · rw [show W9 (20, b) = cX Z lay' μ tb r (20, b) from by rw [hW9]; simp [xup, hb], cXk_20, cXk_20, hnG', hnG]
      by_cases hb2 : b < G
      · rw [if_pos hb2, if_pos (by omega)]
        have e : fG lay' μ b = fG lay' (up2 (up2 (up2 (up2 μ.1 11 G p) 12 G q) 13 G d) 10 0 (μ.1 10 0 + 1), μ.2) b := by unfold fG; simp only [up2_at, hb, and_false, if_false]; rfl
        rw [e]
      · rw [if_neg hb2, if_neg (by omega)]
  by_cases h30 : a = 30
  · subst h30
    rw [show W9 (30, b) = cX Z lay' μ tb r (30, b) from by rw [hW9]; simp [xup]]
    rw [cXk_30, cXk_30] <;> rfl
  by_cases h31 : a = 31
  · subst h31
    rw [show W9 (31, b) = cX Z lay' μ tb r (31, b) from by rw [hW9]; simp [xup]]
    rw [cXk_31, cXk_31] <;> rfl
  rw [show W9 (a, b) = cX Z lay' μ tb r (a, b) from by rw [hW9]; simp [xup, h3, h4, h20]]
  rw [cX_r h0 h1 h2 h3 h4 h5 h6 h7 h10 h11 h12 h13 h14 h20 h30 h31, cX_r h0 h1 h2 h3 h4 h5 h6 h7 h10 h11 h12 h13 h14 h20 h30 h31]
