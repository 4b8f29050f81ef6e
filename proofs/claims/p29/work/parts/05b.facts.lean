/-! what holds of the reference's state at any time, as far as its places go; plain facts of ints -/
theorem inR_of {p : Int32} {n : Nat} (hn : n < 2 ^ 31) (h : inR p 0 (nI n - 1)) : ∃ j, j < n ∧ p = nI j := by
  obtain ⟨h1, h2⟩ := h
  obtain ⟨j, hj, rfl⟩ := nI_of (Int32.not_lt.mpr h1)
  refine ⟨j, ?_, rfl⟩
  cases n with
  | zero =>
    exfalso
    have e : nI 0 - 1 = -1 := by decide
    rw [e] at h2
    have h3 : (0 : Int32) ≤ -1 := Int32.le_trans h1 h2
    exact absurd h3 (by decide)
  | succ n =>
    rw [nI_pred] at h2
    have := (nI_leI hj (by omega)).mp h2
    omega
theorem inR_to {j n : Nat} (hn : n < 2 ^ 31) (h : j < n) : inR (nI j) 0 (nI n - 1) := by
  cases n with
  | zero => omega
  | succ n =>
    rw [nI_pred]
    exact ⟨nI_pos' (by omega), (nI_leI (by omega) (by omega)).mpr (by omega)⟩
theorem inR_k {a : Nat} {p : Int32} (ha : a < 2 ^ 31) (h : inR p 0 (nI a)) : ∃ j, j ≤ a ∧ p = nI j := by
  obtain ⟨h1, h2⟩ := h
  obtain ⟨j, hj, rfl⟩ := nI_of (Int32.not_lt.mpr h1)
  exact ⟨j, (nI_leI hj ha).mp h2, rfl⟩
theorem ix_nI {n : Nat} (h : n < 2 ^ 31) : ix (nI n) = n := nI_clamp h
theorem n3 : (3 : Int32) = nI 3 := by decide
theorem n8 : (8 : Int32) = nI 8 := by decide
theorem n2 : (2 : Int32) = nI 2 := by decide
theorem in_of {x : Int32} {n : Nat} (h : vp_in x n) (hn : n < 2 ^ 31) : ∃ j, j < n ∧ x = nI j ∧ ix x = j := by
  obtain ⟨j, hj, rfl⟩ := vp_in_of h hn
  exact ⟨j, hj, rfl, ix_nI (by omega)⟩
theorem in_ix {x : Int32} {n : Nat} (h : vp_in x n) : ix x < n := Nat.not_le.mp fun q => h (Or.inr q)
theorem in_eq {x : Int32} {n : Nat} (h : vp_in x n) (hn : n < 2 ^ 31) : nI (ix x) = x := by
  obtain ⟨j, -, rfl, e⟩ := in_of h hn
  rw [e]
theorem in_3k {p k : Int32} (hp : vp_in p 8) (hk : vp_in k 3) : vp_in (3 * p + k) 24 ∧ ix (3 * p + k) = 3 * ix p + ix k := by
  obtain ⟨j, hj, rfl, e1⟩ := in_of hp (by decide)
  obtain ⟨i, hi, rfl, e2⟩ := in_of hk (by decide)
  rw [n3, pk_mul, nI_add, e1, e2]
  exact ⟨vp_in_nI (by omega) (by decide), ix_nI (by omega)⟩
theorem in_8k {p k : Int32} (hp : vp_in p 8) (hk : vp_in k 8) : vp_in (8 * p + k) 64 ∧ ix (8 * p + k) = 8 * ix p + ix k := by
  obtain ⟨j, hj, rfl, e1⟩ := in_of hp (by decide)
  obtain ⟨i, hi, rfl, e2⟩ := in_of hk (by decide)
  rw [n8, pk_mul, nI_add, e1, e2]
  exact ⟨vp_in_nI (by omega) (by decide), ix_nI (by omega)⟩
theorem in_3 {p : Int32} (hp : vp_in p 8) : vp_in (3 * p) 24 ∧ ix (3 * p) = 3 * ix p := by
  obtain ⟨j, hj, rfl, e1⟩ := in_of hp (by decide)
  rw [n3, pk_mul, e1]
  exact ⟨vp_in_nI (by omega) (by decide), ix_nI (by omega)⟩
theorem isK_in {k : Int32} (h : isK k) : vp_in k 3 := by
  obtain ⟨j, hj, rfl⟩ := inR_k (a := 2) (by decide) (by rw [← n2]; exact h)
  exact vp_in_nI (by omega) (by decide)
/-- counts and places of the reference -/
def RI (μ : Mu) : Prop := (∃ n, n ≤ 8 ∧ μ.1 0 0 = nI n) ∧ (∃ n, n ≤ 20 ∧ μ.1 10 0 = nI n) ∧ (∃ n, n ≤ 40 ∧ μ.1 16 0 = nI n) ∧ (∃ n, n ≤ 80000 ∧ μ.1 30 0 = nI n) ∧ (∀ g, g < 20 → vp_in (μ.1 11 g) 8 ∧ vp_in (μ.1 12 g) 8) ∧ (∀ t, t < 40 → vp_in (μ.1 17 t) 3 ∧ vp_in (μ.1 18 t) 8 ∧ vp_in (μ.1 19 t) 8 ∧ vp_in (μ.1 24 t) 8 ∧ (μ.1 25 t = -1 ∨ vp_in (μ.1 25 t) 20) ∧ vp_in (μ.1 33 t) 80000 ∧ vp_in (μ.1 34 t) 80000) ∧ (∀ j i, mTy j = 2 ∨ j = 36 → μ.1 j i = 0 ∨ μ.1 j i = 1)
theorem RI.P {μ : Mu} (h : RI μ) {p : Int32} (hp : isP μ p) : vp_in p 8 := by
  obtain ⟨n, hn, e⟩ := h.1
  unfold isP at hp
  rw [e] at hp
  obtain ⟨j, hj, rfl⟩ := inR_of (by omega) hp
  exact vp_in_nI (by omega) (by decide)
theorem RI.T {μ : Mu} (h : RI μ) {p : Int32} (hp : isT μ p) : vp_in p 40 := by
  obtain ⟨n, hn, e⟩ := h.2.2.1
  unfold isT at hp
  rw [e] at hp
  obtain ⟨j, hj, rfl⟩ := inR_of (by omega) hp
  exact vp_in_nI (by omega) (by decide)
theorem RI.L {μ : Mu} (h : RI μ) {p : Int32} (hp : inR p 0 (μ.1 10 0 - 1)) : vp_in p 20 := by
  obtain ⟨n, hn, e⟩ := h.2.1
  rw [e] at hp
  obtain ⟨j, hj, rfl⟩ := inR_of (by omega) hp
  exact vp_in_nI (by omega) (by decide)
theorem RI.PK {μ : Mu} (h : RI μ) {p k : Int32} (hp : isP μ p) (hk : isK k) : vp_in (3 * p + k) 24 := (in_3k (h.P hp) (isK_in hk)).1
theorem RI.PP {μ : Mu} (h : RI μ) {p k : Int32} (hp : isP μ p) (hk : isP μ k) : vp_in (8 * p + k) 64 := (in_8k (h.P hp) (h.P hk)).1
theorem RI.l {μ : Mu} (h : RI μ) (hl : ¬ μ.1 10 0 = 20) : vp_in (μ.1 10 0) 20 := by
  obtain ⟨n, hn, e⟩ := h.2.1
  rw [e] at hl ⊢
  refine vp_in_nI (Nat.lt_of_le_of_ne hn fun q => hl ?_) (by decide)
  rw [q]; decide
theorem RI.t {μ : Mu} (h : RI μ) (hl : ¬ μ.1 16 0 = 40) : vp_in (μ.1 16 0) 40 := by
  obtain ⟨n, hn, e⟩ := h.2.2.1
  rw [e] at hl ⊢
  refine vp_in_nI (Nat.lt_of_le_of_ne hn fun q => hl ?_) (by decide)
  rw [q]; decide
theorem nb01 {x : Int32} (h : x = 0 ∨ x = 1) : narrow .boolean (.int x) = .int x := by rcases h with rfl | rfl <;> rfl
theorem RI.B {μ : Mu} (h : RI μ) {j i : Nat} (hj : mTy j = 2 ∨ j = 36) : narrow .boolean (.int (μ.1 j i)) = .int (μ.1 j i) := nb01 (h.2.2.2.2.2.2 j i hj)
theorem RI.b {μ : Mu} (h : RI μ) {j i : Nat} (hj : mTy j = 2 ∨ j = 36) : μ.1 j i = 0 ∨ μ.1 j i = 1 := h.2.2.2.2.2.2 j i hj
theorem RI.or {μ : Mu} (h : RI μ) {t : Nat} (ht : t < 40) : vp_in (μ.1 18 t) 8 := (h.2.2.2.2.2.1 t ht).2.1
theorem RI.kd {μ : Mu} (h : RI μ) {t : Nat} (ht : t < 40) : vp_in (μ.1 17 t) 3 := (h.2.2.2.2.2.1 t ht).1
theorem RI.ta {μ : Mu} (h : RI μ) {t : Nat} (ht : t < 40) : vp_in (μ.1 19 t) 8 := (h.2.2.2.2.2.1 t ht).2.2.1
theorem RI.at {μ : Mu} (h : RI μ) {t : Nat} (ht : t < 40) : vp_in (μ.1 24 t) 8 := (h.2.2.2.2.2.1 t ht).2.2.2.1
theorem RI.on {μ : Mu} (h : RI μ) {t : Nat} (ht : t < 40) : μ.1 25 t = -1 ∨ vp_in (μ.1 25 t) 20 := (h.2.2.2.2.2.1 t ht).2.2.2.2.1
theorem RI.fh {μ : Mu} (h : RI μ) {t : Nat} (ht : t < 40) : vp_in (μ.1 33 t) 80000 := (h.2.2.2.2.2.1 t ht).2.2.2.2.2.1
theorem RI.lh {μ : Mu} (h : RI μ) {t : Nat} (ht : t < 40) : vp_in (μ.1 34 t) 80000 := (h.2.2.2.2.2.1 t ht).2.2.2.2.2.2
theorem RI.o1 {μ : Mu} (h : RI μ) {g : Nat} (hg : g < 20) : vp_in (μ.1 11 g) 8 := (h.2.2.2.2.1 g hg).1
theorem RI.o2 {μ : Mu} (h : RI μ) {g : Nat} (hg : g < 20) : vp_in (μ.1 12 g) 8 := (h.2.2.2.2.1 g hg).2
theorem RI.sg {μ : Mu} (h : RI μ) (hs : ¬ (80000 : Int32) ≤ μ.1 30 0) : vp_in (μ.1 30 0) 80000 := by
  obtain ⟨n, hn, e⟩ := h.2.2.2.1
  rw [e] at hs ⊢
  refine vp_in_nI (Nat.lt_of_le_of_ne hn fun q => hs ?_) (by decide)
  rw [q]; decide
theorem tab_out_le {x : Int32} {k : Nat} (hk : k < 2 ^ 31) (h : ∀ i, i ≤ k → ¬ x = nI i) : x.toInt < 0 ∨ (k : Int) < x.toInt := by
  rcases Int.lt_or_le x.toInt 0 with q | q
  · exact Or.inl q
  · right
    have h0 : ¬ x < 0 := by
      rw [Int32.lt_iff_toInt_lt]
      have : (0 : Int32).toInt = 0 := rfl
      omega
    obtain ⟨j, hj, rfl⟩ := nI_of h0
    rw [nI_toInt hj]
    rcases Nat.lt_or_ge k j with z | z
    · omega
    · exact absurd rfl (h j z)
