/-! ways: as long there as back, no longer than over others; next legs -/
def DW (μ : Mu) (p q : Nat) : Nat := Fw (L0 (Dn μ (nG μ))) 8 p q
section DW
variable {μ : Mu} {p q c : Nat}
theorem Dn_sym (μ : Mu) : ∀ n a b, Dn μ n a b = Dn μ n b a
  | 0, _, _ => rfl
  | n + 1, a, b => by
    rw [Dn, Dn, Dn_sym μ n a b]
    have e : (opn μ n ∧ ((ix (μ.1 11 n) = a ∧ ix (μ.1 12 n) = b) ∨ (ix (μ.1 12 n) = a ∧ ix (μ.1 11 n) = b))) ↔ (opn μ n ∧ ((ix (μ.1 11 n) = b ∧ ix (μ.1 12 n) = a) ∨ (ix (μ.1 12 n) = b ∧ ix (μ.1 11 n) = a))) := by
      constructor
      · rintro ⟨h, ⟨h1, h2⟩ | ⟨h1, h2⟩⟩
        · exact ⟨h, Or.inr ⟨h2, h1⟩⟩
        · exact ⟨h, Or.inl ⟨h2, h1⟩⟩
      · rintro ⟨h, ⟨h1, h2⟩ | ⟨h1, h2⟩⟩
        · exact ⟨h, Or.inr ⟨h2, h1⟩⟩
        · exact ⟨h, Or.inl ⟨h2, h1⟩⟩
    by_cases h : opn μ n ∧ ((ix (μ.1 11 n) = a ∧ ix (μ.1 12 n) = b) ∨ (ix (μ.1 12 n) = a ∧ ix (μ.1 11 n) = b))
    · rw [if_pos h, if_pos (e.mp h)]
    · rw [if_neg h, if_neg (fun z => h (e.mpr z))]
theorem Fw_sym {L : Nat → Nat → Nat} (hL : ∀ a b, L a b = L b a) : ∀ n a b, Fw L n a b = Fw L n b a
  | 0, a, b => hL a b
  | n + 1, a, b => by
    rw [Fw, Fw, Fw_sym hL n a b, Fw_sym hL n a n, Fw_sym hL n n b, Nat.add_comm]
theorem DW_sym (μ : Mu) (p q : Nat) : DW μ p q = DW μ q p := by
  refine Fw_sym (fun a b => ?_) 8 p q
  unfold L0
  by_cases h : a = b
  · rw [if_pos h, if_pos h.symm]
  · rw [if_neg h, if_neg (fun z => h z.symm), Dn_sym]
theorem DW_self (μ : Mu) (p : Nat) : DW μ p p = 0 := Fw_d 8 p
theorem DW_tri (μ : Mu) {b : Nat} (hb : b < 8) (a c : Nat) : DW μ a c ≤ DW μ a b + DW μ b c := Fw_tri 8 b hb a c
theorem DW_F (μ : Mu) (a b : Nat) : DW μ a b ≤ 1000000 := Fw_F (Dn_F μ (nG μ)) 8 a b
theorem Dn_1 (hI : RI μ) (hL : KL μ) {a v : Nat} (h : Dn μ (nG μ) a v < 1000000) : 1 ≤ Dn μ (nG μ) a v ∧ Dn μ (nG μ) a v ≤ 100 := by
  obtain ⟨l, l1, -, -, l4⟩ := Dn_att μ (nG μ) h
  obtain ⟨-, -, s, s1, s2, s3⟩ := Lg_of hI hL l l1
  rw [l4, s3, ix_nI (by omega)]
  exact ⟨s1, s2⟩
theorem DW_pos (hI : RI μ) (hL : KL μ) {a b : Nat} (hab : a ≠ b) (hb : b < 8) : 1 ≤ DW μ a b := by
  rcases Nat.lt_or_ge (DW μ a b) 1000000 with h | h
  · obtain ⟨v, hv, h1⟩ := Fw_att (D := Dn μ (nG μ)) 8 (Nat.le_refl _) a b hab hb h
    have h2 : Dn μ (nG μ) a v < 1000000 := by
      have : DW μ a b = Fw (L0 (Dn μ (nG μ))) 8 a b := rfl
      omega
    have := (Dn_1 hI hL h2).1
    have : DW μ a b = Fw (L0 (Dn μ (nG μ))) 8 a b := rfl
    omega
  · omega
theorem dY_eq (hI : RI μ) (hL : KL μ) (hp : p < nP μ) (hq : q < nP μ) : dY μ p q = if DW μ p q < 1000000 then nI (DW μ p q) else -1 := by
  have h8 := nP8 hI
  have h1 := isP_n hI hp
  have h2 := isP_n hI hq
  have hg := Gd_Fw (Dn_F μ (nG μ)) (b := q) (by omega)
  have hme : (M_meas μ (nI q)).1 15 p = nI (DW μ p q) := meas_eq hI hL (by omega : q < 8) hg p (by omega)
  have hF := DW_F μ p q
  unfold dY M_told
  rw [if_pos ⟨h1.1, h2.1⟩, meas_th (nI q) 15 (by decide), h1.2, hme, n1000000]
  by_cases h : DW μ p q < 1000000
  · rw [if_pos h, if_pos ((nI_ltI (by omega) (by omega)).mpr h)]
  · rw [if_neg h, if_neg (fun z => h ((nI_ltI (by omega) (by omega)).mp z))]
theorem dY_cs (hI : RI μ) (hL : KL μ) (hp : p < nP μ) (hq : q < nP μ) : (DW μ p q < 1000000 ∧ dY μ p q = nI (DW μ p q)) ∨ (¬ DW μ p q < 1000000 ∧ dY μ p q = -1) := by
  rw [dY_eq hI hL hp hq]
  by_cases h : DW μ p q < 1000000
  · rw [if_pos h]; exact Or.inl ⟨h, rfl⟩
  · rw [if_neg h]; exact Or.inr ⟨h, rfl⟩
theorem w1 (hI : RI μ) (hL : KL μ) (hp : p < nP μ) (hq : q < nP μ) : dY μ p q = dY μ q p := by
  rw [dY_eq hI hL hp hq, dY_eq hI hL hq hp, DW_sym]
theorem w2 (hI : RI μ) (hL : KL μ) (hp : p < nP μ) (hq : q < nP μ) : dY μ p q = 0 ↔ p = q := by
  have h8 := nP8 hI
  constructor
  · intro h
    by_cases hpq : p = q
    · exact hpq
    · have := DW_pos hI hL hpq (by omega)
      rcases dY_cs hI hL hp hq with ⟨h1, h2⟩ | ⟨h1, h2⟩
      · rw [h2] at h
        exact absurd h (nI_ne0 (by omega) (by omega))
      · rw [h2] at h
        exact absurd h (by decide)
  · rintro rfl
    rw [dY_eq hI hL hp hp, DW_self, if_pos (by decide)]
    rfl
theorem dY_0 (hI : RI μ) (hL : KL μ) (hp : p < nP μ) (hq : q < nP μ) : dY μ p q ≤ 0 ↔ ¬ (p ≠ q ∧ DW μ p q < 1000000) := by
  have h8 := nP8 hI
  rcases dY_cs hI hL hp hq with ⟨h1, h2⟩ | ⟨h1, h2⟩
  · rw [h2]
    constructor
    · rintro h ⟨h3, -⟩
      have := DW_pos hI hL h3 (by omega)
      exact absurd h (nI_nle (by omega) (by omega))
    · intro h
      have : p = q := Classical.byContradiction fun z => h ⟨z, h1⟩
      rw [this, DW_self]
      decide
  · rw [h2]
    exact ⟨fun _ z => h1 z.2, fun _ => by decide⟩
theorem w3 (hI : RI μ) (hL : KL μ) (hp : p < nP μ) (hq : q < nP μ) : nX μ p q = -1 ↔ dY μ p q ≤ 0 := by
  have h8 := nP8 hI
  have hG := nG20 hI
  rw [dY_0 hI hL hp hq]
  have h2 := isP_n hI hq
  have h1 := isP_n hI hp
  have hg := Gd_Fw (Dn_F μ (nG μ)) (b := q) (by omega)
  have hme := meas_eq hI hL (by omega : q < 8) hg
  have hF := DW_F μ p q
  have hA : ∀ j, j = 11 ∨ j = 12 ∨ j = 13 ∨ j = 14 → (M_meas μ (nI q)).1 j = μ.1 j := fun j hj => M_meas_ne _ _ (by omega)
  have hb := nx_best hI hL hA (a := p) (by omega) (g := fun a => Fw (L0 (Dn μ (nG μ))) 8 a q) (fun p hp => ⟨hg.2.1 p hp, hme p hp⟩) (nG μ) (-1) (Nat.le_refl _) (Or.inl ⟨rfl, fun l q1 q2 => absurd q2 (by omega)⟩)
  unfold nX M_nextOf
  dsimp only
  rw [h1.2, hme p (by omega), n1000000]
  have ec : (¬ nI p = nI q ∧ ¬ nI 1000000 ≤ nI (Fw (L0 (Dn μ (nG μ))) 8 p q)) ↔ (p ≠ q ∧ DW μ p q < 1000000) := by
    have hF' : Fw (L0 (Dn μ (nG μ))) 8 p q ≤ 1000000 := hF
    rw [nI_nle_iff (by omega) (by omega), nI_eq (by omega) (by omega)]
    rfl
  by_cases c : p ≠ q ∧ DW μ p q < 1000000
  · rw [if_pos (ec.mpr c)]
    refine ⟨fun z => absurd z ?_, fun z => absurd c z⟩
    rcases hb with ⟨b1, b2⟩ | ⟨m, b1, b2⟩
    · exfalso
      obtain ⟨v, hv, h3⟩ := Fw_att (D := Dn μ (nG μ)) 8 (Nat.le_refl _) p q c.1 (by omega) c.2
      have hDl : Dn μ (nG μ) p v < 1000000 := by have := c.2; unfold DW at this; omega
      obtain ⟨l, l1, l2, l3, l4⟩ := Dn_att μ (nG μ) hDl
      have h4 : Fw (L0 (Dn μ (nG μ))) 8 p q ≤ Dn μ (nG μ) p v + Fw (L0 (Dn μ (nG μ))) 8 v q := hg.2.2.1 p v (by omega) hv
      refine b2 l l1 ⟨l2, ?_, ?_⟩
      · rcases l3 with ⟨l3, -⟩ | ⟨l3, -⟩
        · left; rw [← l3, in_eq (hI.o1 (by omega)) (by decide)]
        · right; rw [← l3, in_eq (hI.o2 (by omega)) (by decide)]
      · have ea : ix (M_across μ.1 l (nI p)) = v := by
          rcases l3 with ⟨l3, l5⟩ | ⟨l3, l5⟩
          · unfold M_across
            rw [if_pos (by rw [← l3, in_eq (hI.o1 (by omega)) (by decide)])]
            exact l5
          · unfold M_across
            by_cases h6 : μ.1 11 l = nI p
            · rw [if_pos h6]
              have : ix (μ.1 11 l) = p := by rw [h6, ix_nI (by omega)]
              omega
            · rw [if_neg h6]; exact l5
        rw [ea, ← l4]
        show Dn μ (nG μ) p v + Fw (L0 (Dn μ (nG μ))) 8 v q = Fw (L0 (Dn μ (nG μ))) 8 p q
        omega
    · show ¬ M_nx (M_meas μ (nI q)).1 (nI p) (nG μ) (-1) = -1
      rw [b2]
      intro z
      have hm := b1.2.1
      have : ∀ n, n < 20 → ¬ nI n = -1 := by decide
      exact this m (by omega) z
  · rw [if_neg (fun z => c (ec.mp z))]
    exact ⟨fun _ => c, fun _ => rfl⟩
theorem w4 (hI : RI μ) : nX μ p q < nI (nG μ) := by
  have hG := nG20 hI
  rcases M_nextOf_in hI (nI p) (nI q) with h | ⟨h1, h2⟩
  · unfold nX
    rw [h]
    have : ∀ n, n ≤ 20 → (-1 : Int32) < nI n := by decide
    exact this _ hG
  · unfold nX
    obtain ⟨j, hj, e, ej⟩ := in_of h1 (by decide)
    rw [ej] at h2
    rw [e]
    exact nI_lt h2 (by omega)
theorem dY_nn (hI : RI μ) (hL : KL μ) (hp : p < nP μ) (hq : q < nP μ) (h : ¬ dY μ p q < 0) : DW μ p q < 1000000 ∧ dY μ p q = nI (DW μ p q) := by
  rcases dY_cs hI hL hp hq with h1 | ⟨h1, h2⟩
  · exact h1
  · rw [h2] at h
    exact absurd (by decide) h
theorem w5 (hI : RI μ) (hL : KL μ) (hp : p < nP μ) (hq : q < nP μ) (hc : c < nP μ) (h1 : ¬ dY μ p q < 0) (h2 : ¬ dY μ q c < 0) : DW μ p c < 1000000 → (¬ dY μ p c < 0 ∧ dY μ p c ≤ dY μ p q + dY μ q c) := by
  have h8 := nP8 hI
  intro h3
  obtain ⟨a1, a2⟩ := dY_nn hI hL hp hq h1
  obtain ⟨b1, b2⟩ := dY_nn hI hL hq hc h2
  have ht := DW_tri μ (b := q) (by omega) p c
  rw [dY_eq hI hL hp hc, if_pos h3, a2, b2, nI_add]
  exact ⟨nI_pos (by omega), nI_le ht (by omega)⟩
/-- a way's length, where there is one, is at most 700 -/
theorem DW_700 (hI : RI μ) (hL : KL μ) (hp : p < 8) (hq : q < 8) (h : DW μ p q < 1000000) : DW μ p q ≤ 700 := by
  have := Gd_700 (Gd_Fw (Dn_F μ (nG μ)) hq) (fun a v h => Dn_1 hI hL h) 7 p hp (rn7 hp) h
  exact this
theorem w5' (hI : RI μ) (hL : KL μ) (hp : p < nP μ) (hq : q < nP μ) (hc : c < nP μ) (h1 : ¬ dY μ p q < 0) (h2 : ¬ dY μ q c < 0) : ¬ dY μ p c < 0 ∧ dY μ p c ≤ dY μ p q + dY μ q c := by
  have h8 := nP8 hI
  refine w5 hI hL hp hq hc h1 h2 ?_
  have a := DW_700 hI hL (by omega) (by omega) (dY_nn hI hL hp hq h1).1
  have b := DW_700 hI hL (by omega) (by omega) (dY_nn hI hL hq hc h2).1
  have ht := DW_tri μ (b := q) (by omega) p c
  omega
theorem w6 (hI : RI μ) (hL : KL μ) (hp : p < nP μ) (hq : q < nP μ) (hpq : p ≠ q) {d l : Nat} (hl : l < nG μ) (ho : μ.1 14 l = 0) (e1 : ix (μ.1 11 l) = p) (e2 : ix (μ.1 12 l) = q) (e3 : μ.1 13 l = nI d) (hd : d ≤ 100) : ¬ dY μ p q < 1 ∧ ¬ nI d < dY μ p q := by
  have h8 := nP8 hI
  have h1 := Dn_leg μ (l := l) ho (a := p) (b := q) (Or.inl ⟨e1, e2⟩) (nG μ) hl
  rw [e3, ix_nI (by omega)] at h1
  have h2 : DW μ p q ≤ d := by
    have := Fw_0 (D := Dn μ (nG μ)) p q 8
    unfold L0 at this
    rw [if_neg hpq] at this
    exact Nat.le_trans this h1
  have h3 := DW_pos hI hL hpq (by omega)
  rw [dY_eq hI hL hp hq, if_pos (by omega)]
  exact ⟨nI_nlt (b := 1) h3 (by omega), nI_nlt h2 (by omega)⟩
theorem nX_self (μ : Mu) (p : Nat) : nX μ p p = -1 := by
  unfold nX M_nextOf
  exact if_neg (fun z => z.1 rfl)
end DW
