/-! the class's world speaks of the common numbers alone -/
def com (j : Nat) : Bool := !(j == 15 || j == 30 || j == 31 || j == 32 || j == 33 || j == 34 || j == 37 || j == 38)
theorem cX_eq {Z : xZ} {lay : xK → Nat} {μ μ' : Mu} {tb : Tb} {r : xK → Option xE} (h : ∀ j, com j = true → μ'.1 j = μ.1 j) (h2 : μ'.2 = μ.2) : cX Z lay μ' tb r = cX Z lay μ tb r := by
  have e1 : fX lay μ' = fX lay μ := by unfold fX; simp only [h 0 rfl, h 16 rfl, h 36 rfl]
  have e2 : fR lay μ' = fR lay μ := by unfold fR; simp only [h 10 rfl]
  have e3 : ∀ i, fP lay μ' i = fP lay μ i := fun i => by unfold fP; simp only [h 4 rfl, h 5 rfl, h 6 rfl, h2]
  have e4 : ∀ i, fG lay μ' i = fG lay μ i := fun i => by unfold fG; simp only [h 11 rfl, h 12 rfl, h 13 rfl, h 14 rfl]
  have e5 : ∀ i, fT lay μ' i = fT lay μ i := fun i => by unfold fT; simp only [h 17 rfl, h 18 rfl, h 19 rfl, h 20 rfl, h 21 rfl, h 22 rfl, h 23 rfl, h 24 rfl, h 25 rfl, h 26 rfl, h 27 rfl, h 28 rfl, h 29 rfl, h 35 rfl]
  have e6 : ∀ i, row3 μ'.1 1 i = row3 μ.1 1 i := fun i => by unfold row3; simp only [h 1 rfl]
  have e7 : ∀ i, row3 μ'.1 2 i = row3 μ.1 2 i := fun i => by unfold row3; simp only [h 2 rfl]
  have e8 : ∀ i, row3 μ'.1 3 i = row3 μ.1 3 i := fun i => by unfold row3; simp only [h 3 rfl]
  funext k
  unfold cX
  simp only [nP, nG, nT, e1, e2, e3, e4, e5, e6, e7, e8, h 0 rfl, h 10 rfl, h 16 rfl, h2]
theorem com38 {j : Nat} (h : com j = true) : j ≠ 38 ∧ j ≠ 37 ∧ j ≠ 15 ∧ j ≠ 30 ∧ j ≠ 31 ∧ j ≠ 32 ∧ j ≠ 33 ∧ j ≠ 34 := by
  simp only [com, Bool.not_eq_true', Bool.or_eq_false_iff, beq_eq_false_iff_ne] at h
  obtain ⟨⟨⟨⟨⟨⟨⟨a, b⟩, c⟩, d⟩, e⟩, f⟩, g⟩, i⟩ := h
  exact ⟨i, g, a, b, c, d, e, f⟩
theorem row3_at {A : Nat → Nat → Int32} {j i k : Nat} (h : k < 3) : row3 A j i k = A j (3 * i + k) := if_pos h
theorem row8_at {J : Nat → Nat → Int64} {i k : Nat} (h : k < 8) : row8 J i k = J 9 (8 * i + k) := if_pos h
theorem isP_of {μ : Mu} (h : RI μ) {p : Int32} (h1 : ¬ p < 0) (h2 : p < μ.1 0 0) : isP μ p := by
  obtain ⟨n, hn, e⟩ := h.1
  obtain ⟨j, hj, rfl⟩ := nI_of h1
  rw [e] at h2
  have hj2 := (nI_ltI hj (by omega)).mp h2
  show inR _ 0 (μ.1 0 0 - 1)
  rw [e]
  exact inR_to (by omega) hj2
theorem isP_lt {μ : Mu} (h : RI μ) {p : Int32} (hp : isP μ p) : ix p < nP μ ∧ ¬ p < 0 ∧ p < μ.1 0 0 := by
  obtain ⟨n, hn, e⟩ := h.1
  have hp' : inR p 0 (μ.1 0 0 - 1) := hp
  rw [e] at hp'
  obtain ⟨j, hj, rfl⟩ := inR_of (by omega) hp'
  unfold nP
  rw [e, ix_nI (by omega), ix_nI (by omega)]
  exact ⟨hj, nI_pos (by omega), (nI_ltI (by omega) (by omega)).mpr hj⟩
theorem isT_of {μ : Mu} (h : RI μ) {p : Int32} (h1 : ¬ p < 0) (h2 : p < μ.1 16 0) : isT μ p := by
  obtain ⟨n, hn, e⟩ := h.2.2.1
  obtain ⟨j, hj, rfl⟩ := nI_of h1
  rw [e] at h2
  have hj2 := (nI_ltI hj (by omega)).mp h2
  show inR _ 0 (μ.1 16 0 - 1)
  rw [e]
  exact inR_to (by omega) hj2
theorem isT_lt {μ : Mu} (h : RI μ) {p : Int32} (hp : isT μ p) : ix p < nT μ ∧ ¬ p < 0 ∧ p < μ.1 16 0 := by
  obtain ⟨n, hn, e⟩ := h.2.2.1
  have hp' : inR p 0 (μ.1 16 0 - 1) := hp
  rw [e] at hp'
  obtain ⟨j, hj, rfl⟩ := inR_of (by omega) hp'
  unfold nT
  rw [e, ix_nI (by omega), ix_nI (by omega)]
  exact ⟨hj, nI_pos (by omega), (nI_ltI (by omega) (by omega)).mpr hj⟩
theorem nP8 {μ : Mu} (h : RI μ) : nP μ ≤ 8 := by obtain ⟨n, hn, e⟩ := h.1; unfold nP; rw [e, ix_nI (by omega)]; exact hn
theorem nT40 {μ : Mu} (h : RI μ) : nT μ ≤ 40 := by obtain ⟨n, hn, e⟩ := h.2.2.1; unfold nT; rw [e, ix_nI (by omega)]; exact hn
theorem nG20 {μ : Mu} (h : RI μ) : nG μ ≤ 20 := by obtain ⟨n, hn, e⟩ := h.2.1; unfold nG; rw [e, ix_nI (by omega)]; exact hn
theorem i3k {μ : Mu} (h : RI μ) {p k : Int32} (hp : isP μ p) (hk : isK k) : ix (3 * p + k) = 3 * ix p + ix k := (in_3k (h.P hp) (isK_in hk)).2
theorem i8k {μ : Mu} (h : RI μ) {p k : Int32} (hp : isP μ p) (hk : isP μ k) : ix (8 * p + k) = 8 * ix p + ix k := (in_8k (h.P hp) (h.P hk)).2
theorem k3 {k : Int32} (h : isK k) : ix k < 3 := in_ix (isK_in h)
abbrev eO : String := "java/lang/IndexOutOfBoundsException"
abbrev eA : String := "java/lang/IllegalArgumentException"
abbrev eS : String := "java/lang/IllegalStateException"
