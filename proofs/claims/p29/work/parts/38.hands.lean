/-! hands: the chains stay right as a thing is signed -/
section HS
variable {μ : Mu} {tb : Tb} {cl : Nat → Nat → Nat}
theorem HR.len (h : HR μ tb cl) {t : Nat} (ht : t < nT μ) : ∃ n : Nat, μ.1 35 t = nI n ∧ n ≤ tb.2.2 t ∧ n ≤ 8192 ∧ tb.2.2 t < 2 ^ 31 ∧ (¬ μ.1 21 t = 0 → 1 ≤ tb.2.2 t) ∧ (μ.1 21 t = 0 → n = 0) ∧ ix (μ.1 35 t) = n := by
  obtain ⟨n, h1, h2, h3, ⟨s, hs, h4⟩, h5, -⟩ := h t ht
  have hb : 2 ^ s ≤ 2 ^ 10 := Nat.pow_le_pow_right (by decide) hs
  have hp : 1 ≤ 2 ^ s := Nat.one_le_two_pow
  refine ⟨n, h1, h2, h3, ?_, fun z => ?_, h5, by rw [h1, ix_nI (by omega)]⟩
  · rcases h4 with h4 | h4
    · rw [h4]; omega
    · rw [h4.1]; omega
  · rcases h4 with h4 | h4
    · rw [h4]; omega
    · exact absurd h4.2.2 z
theorem HR_same {μ' : Mu} (h : HR μ tb cl) (e : ∀ j, j = 16 ∨ j = 21 ∨ j = 30 ∨ j = 31 ∨ j = 32 ∨ j = 33 ∨ j = 34 ∨ j = 35 → μ'.1 j = μ.1 j) : HR μ' tb cl := by
  unfold HR nT at *
  rw [e 16 (by omega), e 21 (by omega), e 30 (by omega), e 31 (by omega), e 32 (by omega), e 33 (by omega), e 34 (by omega), e 35 (by omega)]
  exact h
theorem HR_signs (hI : RI μ) (h : HR μ tb cl) {t : Nat} (ht : t < nT μ) (v : Int32) (hS : ¬ (80000 : Int32) ≤ μ.1 30 0) (hh : ix (μ.1 35 t) < 4096) : ∃ cl', HR (M_signs μ t v) (KT_sign μ tb t v) cl' := by
  by_cases h21 : μ.1 21 t = 0
  · refine ⟨cl, ?_⟩
    unfold M_signs KT_sign
    rw [if_pos (Or.inl h21), if_pos h21]
    exact h
  obtain ⟨S, hS8, eS⟩ := hI.2.2.2.1
  have hSx : ix (μ.1 30 0) = S := by rw [eS, ix_nI (by omega)]
  have hS9 : S < 80000 := by
    rcases Nat.lt_or_ge S 80000 with q | q
    · exact q
    · exact absurd (by rw [eS, show S = 80000 by omega]; exact Int32.le_refl _) hS
  obtain ⟨n, e35, hn1, hn2, ⟨s, hs, hc⟩, -, hF, hJ⟩ := h t ht
  have hnx : ix (μ.1 35 t) = n := by rw [e35, ix_nI (by omega)]
  rw [hnx] at hh
  obtain ⟨ν, hν⟩ : ∃ ν, ν = M_signs μ t v := ⟨_, rfl⟩
  have eν : ν = (up2 (up2 (up2 (if μ.1 35 t = 0 then up2 (up2 (up2 μ.1 31 S v) 32 S (-1)) 33 t (nI S) else up2 (up2 (up2 μ.1 31 S v) 32 S (-1)) 32 (ix (μ.1 34 t)) (nI S)) 34 t (nI S)) 35 t (nI (n + 1))) 30 0 (nI (S + 1)), μ.2) := by
    rw [hν]
    unfold M_signs
    rw [if_neg (fun z => z.elim h21 hS)]
    dsimp only
    rw [hSx, eS, e35, nI_1, nI_1]
  have hz : μ.1 35 t = 0 ↔ n = 0 := by
    constructor
    · intro z; rw [← hnx, z]; rfl
    · intro z; rw [e35, z]; rfl
  have f16 : ν.1 16 = μ.1 16 := by rw [hν]; exact kep_signs _ _ _ rfl
  have f21 : ν.1 21 = μ.1 21 := by rw [hν]; exact kep_signs _ _ _ rfl
  have f30 : ν.1 30 0 = nI (S + 1) := by rw [eν]; rfl
  have f35 : ∀ a, ν.1 35 a = if a = t then nI (n + 1) else μ.1 35 a := by
    intro a
    rw [eν]
    dsimp only
    rw [up2_ne _ _ _ _ _ (by decide), up2_at]
    by_cases ha : a = t
    · rw [if_pos ⟨rfl, ha⟩, if_pos ha]
    · rw [if_neg (fun z => ha z.2), if_neg ha, up2_ne _ _ _ _ _ (by decide)]
      split
      · rw [up2_ne _ _ _ _ _ (by decide), up2_ne _ _ _ _ _ (by decide), up2_ne _ _ _ _ _ (by decide)]
      · rw [up2_ne _ _ _ _ _ (by decide), up2_ne _ _ _ _ _ (by decide), up2_ne _ _ _ _ _ (by decide)]
  have f34 : ∀ a, ν.1 34 a = if a = t then nI S else μ.1 34 a := by
    intro a
    rw [eν]
    dsimp only
    rw [up2_ne _ _ _ _ _ (by decide), up2_ne _ _ _ _ _ (by decide), up2_at]
    by_cases ha : a = t
    · rw [if_pos ⟨rfl, ha⟩, if_pos ha]
    · rw [if_neg (fun z => ha z.2), if_neg ha]
      split
      · rw [up2_ne _ _ _ _ _ (by decide), up2_ne _ _ _ _ _ (by decide), up2_ne _ _ _ _ _ (by decide)]
      · rw [up2_ne _ _ _ _ _ (by decide), up2_ne _ _ _ _ _ (by decide), up2_ne _ _ _ _ _ (by decide)]
  have f33 : ∀ a, ν.1 33 a = if n = 0 ∧ a = t then nI S else μ.1 33 a := by
    intro a
    rw [eν]
    dsimp only
    rw [up2_ne _ _ _ _ _ (by decide), up2_ne _ _ _ _ _ (by decide), up2_ne _ _ _ _ _ (by decide)]
    by_cases h0 : n = 0
    · rw [if_pos (hz.mpr h0), up2_at]
      by_cases ha : a = t
      · rw [if_pos ⟨rfl, ha⟩, if_pos ⟨h0, ha⟩]
      · rw [if_neg (fun z => ha z.2), if_neg (fun z => ha z.2), up2_ne _ _ _ _ _ (by decide), up2_ne _ _ _ _ _ (by decide)]
    · rw [if_neg (fun z => h0 (hz.mp z)), if_neg (fun z => h0 z.1), up2_ne _ _ _ _ _ (by decide), up2_ne _ _ _ _ _ (by decide), up2_ne _ _ _ _ _ (by decide)]
  have f32 : ∀ x, x ≠ S → ν.1 32 x = if ¬ n = 0 ∧ x = ix (μ.1 34 t) then nI S else μ.1 32 x := by
    intro x hx
    rw [eν]
    dsimp only
    rw [up2_ne _ _ _ _ _ (by decide), up2_ne _ _ _ _ _ (by decide), up2_ne _ _ _ _ _ (by decide)]
    by_cases h0 : n = 0
    · rw [if_pos (hz.mpr h0), if_neg (fun z => z.1 h0), up2_ne _ _ _ _ _ (by decide), up2_at, if_neg (fun z => hx z.2), up2_ne _ _ _ _ _ (by decide)]
    · rw [if_neg (fun z => h0 (hz.mp z)), up2_at]
      by_cases ha : x = ix (μ.1 34 t)
      · rw [if_pos ⟨rfl, ha⟩, if_pos ⟨h0, ha⟩]
      · rw [if_neg (fun z => ha z.2), if_neg (fun z => ha z.2), up2_at, if_neg (fun z => hx z.2), up2_ne _ _ _ _ _ (by decide)]
  have f31 : ∀ x, ν.1 31 x = if x = S then v else μ.1 31 x := by
    intro x
    rw [eν]
    dsimp only
    rw [up2_ne _ _ _ _ _ (by decide), up2_ne _ _ _ _ _ (by decide), up2_ne _ _ _ _ _ (by decide)]
    have e1 : ∀ B : Nat → Nat → Int32, B = up2 (up2 μ.1 31 S v) 32 S (-1) → B 31 x = if x = S then v else μ.1 31 x := by
      intro B hB
      rw [hB, up2_ne _ _ _ _ _ (by decide), up2_at]
      by_cases hx : x = S
      · rw [if_pos ⟨rfl, hx⟩, if_pos hx]
      · rw [if_neg (fun z => hx z.2), if_neg hx]
    split
    · rw [up2_ne _ _ _ _ _ (by decide)]; exact e1 _ rfl
    · rw [up2_ne _ _ _ _ _ (by decide)]; exact e1 _ rfl
  -- the class's rows
  obtain ⟨tb', htb⟩ : ∃ z, z = KT_sign μ tb t v := ⟨_, rfl⟩
  have g2 : ∀ a, a ≠ t → tb'.2.2 a = tb.2.2 a := by
    intro a ha
    rw [htb]; unfold KT_sign KT_grow
    rw [if_neg h21]
    split
    · rfl
    · exact if_neg ha
  have g1 : ∀ a j, (a ≠ t ∨ j < n) → tb'.2.1 a j = tb.2.1 a j := by
    intro a j haj
    rw [htb]; unfold KT_sign KT_grow
    rw [if_neg h21, hnx]
    split
    · dsimp only; rw [up2_at, if_neg (fun z => by omega)]
    · dsimp only; rw [up2_at, if_neg (fun z => by omega), if_neg (fun z => by omega)]
  have g1n : tb'.2.1 t n = v := by
    rw [htb]; unfold KT_sign KT_grow
    rw [if_neg h21, hnx]
    split
    · dsimp only; rw [up2_at, if_pos ⟨rfl, rfl⟩]
    · dsimp only; rw [up2_at, if_pos ⟨rfl, rfl⟩]
  have hcap : tb.2.2 t = 8 * 2 ^ s := hc.resolve_right (fun z => h21 z.2.2)
  have g3 : n + 1 ≤ tb'.2.2 t ∧ ∃ s', s' ≤ 10 ∧ (tb'.2.2 t = 8 * 2 ^ s' ∨ (tb'.2.2 t = 0 ∧ s' = 0 ∧ μ.1 21 t = 0)) := by
    rw [htb]; unfold KT_sign KT_grow
    rw [if_neg h21, hnx]
    split
    · next q => exact ⟨q, s, hs, Or.inl hcap⟩
    · next q =>
      dsimp only
      rw [if_pos rfl, hcap]
      have hle : 8 * 2 ^ s < 4096 := by rw [← hcap]; omega
      refine ⟨by rw [← hcap]; have : 1 ≤ 2 ^ s := Nat.one_le_two_pow; omega, s + 1, ?_, Or.inl (by rw [Nat.pow_succ]; omega)⟩
      rcases Nat.lt_or_ge s 10 with z | z
      · omega
      · have : 2 ^ 10 ≤ 2 ^ s := Nat.pow_le_pow_right (by decide) z
        omega
  obtain ⟨cl', hcl'⟩ : ∃ cl' : Nat → Nat → Nat, ∀ a b, cl' a b = if a = t ∧ b = n then S else cl a b := ⟨_, fun _ _ => rfl⟩
  refine ⟨cl', ?_⟩
  rw [← hν, ← htb]
  intro a ha
  have ha' : a < nT μ := by unfold nT at ha ⊢; rw [f16] at ha; exact ha
  have hclS : ∀ a' j', a' < nT μ → j' < ix (μ.1 35 a') → cl a' j' < S := by
    intro a' j' h1 h2
    obtain ⟨n', e1, -, hn', -, -, -, hJ'⟩ := h a' h1
    rw [e1, ix_nI (by omega)] at h2
    have := (hJ' j' h2).1.1
    rw [hSx] at this
    exact this
  by_cases hat : a = t
  · subst hat
    refine ⟨n + 1, by rw [f35, if_pos rfl], g3.1, by omega, by obtain ⟨s', q1, q2⟩ := g3.2; exact ⟨s', q1, by rw [f21]; exact q2⟩, fun z => absurd (by rw [f21] at z; exact z) h21, fun _ => ⟨?_, ?_⟩, fun j hj => ⟨⟨?_, ?_, fun hj1 => ?_⟩, fun t' ht' j' hj' hcl => ?_⟩⟩
    · rw [hcl', f33]
      by_cases h0 : n = 0
      · rw [if_pos ⟨h0, rfl⟩, if_pos ⟨rfl, h0.symm⟩]
      · rw [if_neg (fun z => h0 z.1), if_neg (fun z => h0 z.2.symm)]
        exact (hF (by omega)).1
    · rw [hcl', f34, if_pos rfl, show n + 1 - 1 = n by omega, if_pos ⟨rfl, rfl⟩]
    · rw [hcl', f30, ix_nI (by omega)]
      by_cases hjn : j = n
      · rw [if_pos ⟨rfl, hjn⟩]; omega
      · rw [if_neg (fun z => hjn z.2)]
        have := hclS a j ha' (by rw [hnx]; omega)
        omega
    · rw [hcl']
      by_cases hjn : j = n
      · rw [if_pos ⟨rfl, hjn⟩, hjn, g1n, f31, if_pos rfl]
      · have hlt := hclS a j ha' (by rw [hnx]; omega)
        rw [if_neg (fun z => hjn z.2), g1 a j (Or.inr (by omega)), f31, if_neg (by omega)]
        exact (hJ j (by omega)).1.2.1
    · have hjn : j < n := by omega
      have hlt := hclS a j ha' (by rw [hnx]; omega)
      rw [hcl', hcl', if_neg (fun z => by omega), f32 _ (by omega)]
      have e34 := (hF (by omega)).2
      have hlt2 := hclS a (n - 1) ha' (by rw [hnx]; omega)
      rw [e34, ix_nI (by omega)]
      by_cases hj2 : j + 1 = n
      · rw [if_pos ⟨by omega, by rw [show j = n - 1 by omega]⟩, if_pos ⟨rfl, hj2⟩]
      · rw [if_neg (fun z => by have := ((hJ j hjn).2 a ha' (n - 1) (by rw [hnx]; omega) z.2).2; omega), if_neg (fun z => hj2 z.2)]
        exact (hJ j hjn).1.2.2 (by omega)
    · have ht'' : t' < nT μ := by unfold nT at ht' ⊢; rw [f16] at ht'; exact ht'
      rw [hcl', hcl'] at hcl
      rw [f35] at hj'
      by_cases hjn : j = n
      · rw [if_pos ⟨rfl, hjn⟩] at hcl
        by_cases h2 : t' = a ∧ j' = n
        · exact ⟨h2.1.symm, by omega⟩
        · rw [if_neg h2] at hcl
          exfalso
          have : cl t' j' < S := by
            refine hclS t' j' ht'' ?_
            by_cases h3 : t' = a
            · rw [if_pos h3, ix_nI (by omega)] at hj'
              rw [h3, hnx]
              have : j' ≠ n := fun z => h2 ⟨h3, z⟩
              omega
            · rw [if_neg h3] at hj'; exact hj'
          omega
      · rw [if_neg (fun z => hjn z.2)] at hcl
        have hlt := hclS a j ha' (by rw [hnx]; omega)
        by_cases h2 : t' = a ∧ j' = n
        · rw [if_pos h2] at hcl; omega
        · rw [if_neg h2] at hcl
          refine (hJ j (by omega)).2 t' ht'' j' ?_ hcl
          by_cases h3 : t' = a
          · rw [if_pos h3, ix_nI (by omega)] at hj'
            rw [h3, hnx]
            have : j' ≠ n := fun z => h2 ⟨h3, z⟩
            omega
          · rw [if_neg h3] at hj'; exact hj'
  · obtain ⟨n', e1, q2, q3, q4, q5, q6, q7⟩ := h a ha'
    have hx' : ix (μ.1 35 a) = n' := by rw [e1, ix_nI (by omega)]
    refine ⟨n', by rw [f35, if_neg hat]; exact e1, by rw [g2 a hat]; exact q2, q3, by rw [g2 a hat, f21]; exact q4, by rw [f21]; exact q5, fun z => ?_, fun j hj => ⟨⟨?_, ?_, fun hj1 => ?_⟩, fun t' ht' j' hj' hcl => ?_⟩⟩
    · rw [hcl', hcl', f33, if_neg (fun y => hat y.2), f34, if_neg hat, if_neg (fun y => hat y.1), if_neg (fun y => hat y.1)]
      exact q6 z
    · rw [hcl', if_neg (fun y => hat y.1), f30, ix_nI (by omega)]
      have := hclS a j ha' (by rw [hx']; exact hj)
      omega
    · have hlt := hclS a j ha' (by rw [hx']; exact hj)
      rw [hcl', if_neg (fun y => hat y.1), g1 a j (Or.inl hat), f31, if_neg (by omega)]
      exact (q7 j hj).1.2.1
    · have hlt := hclS a j ha' (by rw [hx']; exact hj)
      rw [hcl', hcl', if_neg (fun y => hat y.1), if_neg (fun y => hat y.1), f32 _ (by omega), if_neg]
      · exact (q7 j hj).1.2.2 hj1
      · rintro ⟨y0, y⟩
        have hlt2 := hclS t (n - 1) ht (by rw [hnx]; omega)
        rw [(hF (by omega)).2, ix_nI (by omega)] at y
        exact hat ((q7 j hj).2 t ht (n - 1) (by rw [hnx]; omega) y).1
    · have ht'' : t' < nT μ := by unfold nT at ht' ⊢; rw [f16] at ht'; exact ht'
      have hlt := hclS a j ha' (by rw [hx']; exact hj)
      rw [hcl', hcl', if_neg (fun y => hat y.1)] at hcl
      rw [f35] at hj'
      by_cases h2 : t' = t ∧ j' = n
      · rw [if_pos h2] at hcl; omega
      · rw [if_neg h2] at hcl
        refine (q7 j hj).2 t' ht'' j' ?_ hcl
        by_cases h3 : t' = t
        · rw [if_pos h3, ix_nI (by omega)] at hj'
          rw [h3, hnx]
          have : j' ≠ n := fun z => h2 ⟨h3, z⟩
          omega
        · rw [if_neg h3] at hj'; exact hj'
end HS
