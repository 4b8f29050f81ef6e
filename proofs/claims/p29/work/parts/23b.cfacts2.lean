/-! the class's small answers are the reference's -/
theorem tax_eq {μ : Mu} (h : RI μ) {t : Nat} (ht : t < 40) : K_tax μ t = M_taxOf μ t := by
  have e1 := (in_3 (h.or ht)).2
  have e2 := (in_3 (h.ta ht)).2
  have z : ix 0 = 0 := by decide
  unfold K_tax M_taxOf
  rw [e1, e2, z, row3_at (by decide), row3_at (by decide)]
  rfl
theorem arG_of {k g : Int32} (h : arG k g) : ∃ n, 1 ≤ n ∧ n ≤ 2000 ∧ g = nI n := by
  have h1 : inR g 1 (nI 2000) := by
    refine ⟨h.1, ?_⟩
    have h2 := h.2
    split at h2
    · exact Int32.le_trans h2 (by decide)
    · exact h2
  obtain ⟨e, a, b⟩ := inR_ix (M := 2000) (by decide) h1
  exact ⟨ix g, a, b, e⟩
theorem n20 : (20 : Int32) = nI 20 := by decide
theorem n10 : (10 : Int32) = nI 10 := by decide
theorem n1 : (1 : Int32) = nI 1 := by decide
theorem n9 : (9 : Int32) = nI 9 := by decide
theorem bp_nI {m p : Nat} (hm : 1 ≤ m) (hm2 : m < 2 ^ 30) (hp : 1 ≤ p) (hp2 : p < 2 ^ 30) : K_bp (nI m) (nI p) = nI ((m - 1) / p + 1) := by
  unfold K_bp
  rw [if_pos ⟨nI_nle (by omega) (by omega), nI_nle (by omega) (by omega)⟩, n1, pk_sub hm, pk_div (by omega) (by omega) (by omega), nI_add]
theorem bp20 {k g : Int32} (h : arG k g) : K_bp (g - 20) 20 = (g - 1) / 20 := by
  obtain ⟨n, h1, h2, rfl⟩ := arG_of h
  rw [n20, n1, pk_sub h1, pk_div (by omega) (by decide) (by decide)]
  rcases Nat.lt_or_ge 20 n with q | q
  · rw [pk_sub (by omega), bp_nI (by omega) (by omega) (by decide) (by decide)]
    congr 1
    omega
  · have hz : nI n - nI 20 ≤ 0 := by
      rw [Int32.le_iff_toInt_le, pk_sub_toInt (by omega) (by decide), show (0 : Int32).toInt = 0 from rfl]
      omega
    unfold K_bp
    rw [if_neg (fun z => z.2 hz), show (n - 1) / 20 = 0 by omega]
    rfl
theorem bp10 {k g : Int32} (h : arG k g) : K_bp g 10 = (g + 9) / 10 := by
  obtain ⟨n, h1, h2, rfl⟩ := arG_of h
  rw [n10, n9, nI_add, bp_nI h1 (by omega) (by decide) (by decide), pk_div (by omega) (by decide) (by decide)]
  congr 1
  omega
theorem rate_eq {μ : Mu} (h : RI μ) {p k g b : Int32} (hp : isP μ p) (hk : isK k) (hg : arG k g) : K_rateOf μ (ix p) k g b = M_rateOf μ k p g b := by
  unfold K_rateOf M_rateOf
  rw [i3k h hp hk, row3_at (k3 hk), row3_at (k3 hk), bp20 hg]
theorem nn_or {a b : Prop} [Decidable a] (h : ¬ (a ∧ b)) : ¬ a ∨ ¬ b := by
  by_cases ha : a
  · exact Or.inr fun hb => h ⟨ha, hb⟩
  · exact Or.inl ha
