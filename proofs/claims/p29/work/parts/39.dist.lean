/-! how far posts are: bounds; the next leg leads nearer; ranks; how often a thing may yet be signed -/
def Bd (A : Nat → Nat → Int32) : Prop := ∀ p, p < 8 → ∃ k, k ≤ 1000000 ∧ A 15 p = nI k
def Lg (A : Nat → Nat → Int32) (n : Nat) : Prop := ∀ g, g < n → ix (A 11 g) < 8 ∧ ix (A 12 g) < 8 ∧ ∃ s, 1 ≤ s ∧ s ≤ 100 ∧ A 13 g = nI s
theorem Lg_of {μ : Mu} (hI : RI μ) (hL : KL μ) : Lg μ.1 (nG μ) := by
  intro g hg
  obtain ⟨h1, h2, h3⟩ := hL g hg
  have h8 := nP8 hI
  obtain ⟨e, a, b⟩ := inR_ix (M := 100) (by decide) h3
  exact ⟨by omega, by omega, ix (μ.1 13 g), a, b, e⟩
theorem m2a_at (A : Nat → Nat → Int32) (g p : Nat) : M_m2a A g 15 p = if p = ix (A 12 g) then (if A 14 g = 0 ∧ ¬ A 15 (ix (A 12 g)) ≤ A 15 (ix (A 11 g)) + A 13 g then A 15 (ix (A 11 g)) + A 13 g else A 15 (ix (A 12 g))) else A 15 p := by
  unfold M_m2a
  rw [up2_at]
  by_cases h : p = ix (A 12 g)
  · rw [if_pos ⟨rfl, h⟩, if_pos h]
  · rw [if_neg (fun z => h z.2), if_neg h]
theorem m2_at (A : Nat → Nat → Int32) (g p : Nat) : M_m2 A g 15 p = if p = ix (A 11 g) then (if A 14 g = 0 ∧ ¬ M_m2a A g 15 (ix (A 11 g)) ≤ A 15 (ix (A 12 g)) + A 13 g then A 15 (ix (A 12 g)) + A 13 g else M_m2a A g 15 (ix (A 11 g))) else M_m2a A g 15 p := by
  unfold M_m2
  rw [up2_at]
  by_cases h : p = ix (A 11 g)
  · rw [if_pos ⟨rfl, h⟩, if_pos h]
  · rw [if_neg (fun z => h z.2), if_neg h]
theorem nI_nle_iff {a b : Nat} (ha : a < 2 ^ 31) (hb : b < 2 ^ 31) : ¬ nI a ≤ nI b ↔ b < a := by
  rw [Int32.not_le, nI_ltI hb ha]
/-- one leg looked at: what may change -/
theorem m2_step {A : Nat → Nat → Int32} {g : Nat} (hB : Bd A) (h1 : ix (A 11 g) < 8) (h2 : ix (A 12 g) < 8) {s : Nat} (hs : s ≤ 100) (es : A 13 g = nI s) : Bd (M_m2 A g) ∧ ∀ p, p < 8 → ix (M_m2 A g 15 p) ≤ ix (A 15 p) ∧ (A 14 g = 0 → p = ix (A 12 g) → ix (M_m2 A g 15 p) ≤ ix (A 15 (ix (A 11 g))) + s) ∧ (A 14 g = 0 → p = ix (A 11 g) → ix (M_m2 A g 15 p) ≤ ix (A 15 (ix (A 12 g))) + s) ∧ (ix (M_m2 A g 15 p) = ix (A 15 p) ∨ (A 14 g = 0 ∧ ix (M_m2 A g 15 p) < 1000000 ∧ ((p = ix (A 12 g) ∧ ix (M_m2 A g 15 p) = ix (A 15 (ix (A 11 g))) + s) ∨ (p = ix (A 11 g) ∧ ix (M_m2 A g 15 p) = ix (A 15 (ix (A 12 g))) + s)))) := by
  obtain ⟨k1, b1, e1⟩ := hB _ h1
  obtain ⟨k2, b2, e2⟩ := hB _ h2
  have key : ∀ p, p < 8 → ∃ k, k ≤ 1000000 ∧ M_m2 A g 15 p = nI k ∧ k ≤ ix (A 15 p) ∧ (A 14 g = 0 → p = ix (A 12 g) → k ≤ k1 + s) ∧ (A 14 g = 0 → p = ix (A 11 g) → k ≤ k2 + s) ∧ (k = ix (A 15 p) ∨ (A 14 g = 0 ∧ k < 1000000 ∧ ((p = ix (A 12 g) ∧ k = k1 + s) ∨ (p = ix (A 11 g) ∧ k = k2 + s)))) := by
    intro p hp
    obtain ⟨kp, bp, ep⟩ := hB p hp
    have hx : ix (A 15 p) = kp := by rw [ep, ix_nI (by omega)]
    -- the half step
    have ha : ∀ p, p < 8 → ∃ k, k ≤ 1000000 ∧ M_m2a A g 15 p = nI k ∧ k ≤ ix (A 15 p) ∧ (A 14 g = 0 → p = ix (A 12 g) → k ≤ k1 + s) ∧ (k = ix (A 15 p) ∨ (A 14 g = 0 ∧ k < 1000000 ∧ p = ix (A 12 g) ∧ k = k1 + s)) := by
      intro p hp
      obtain ⟨kp, bp, ep⟩ := hB p hp
      have hx : ix (A 15 p) = kp := by rw [ep, ix_nI (by omega)]
      rw [m2a_at]
      by_cases c : p = ix (A 12 g)
      · have ek : kp = k2 := by rw [← hx, c, e2, ix_nI (by omega)]
        have hi := nI_nle_iff (a := k2) (b := k1 + s) (by omega) (by omega)
        rw [if_pos c, e1, e2, es, nI_add]
        by_cases d : A 14 g = 0 ∧ ¬ nI k2 ≤ nI (k1 + s)
        · rw [if_pos d]
          have d2 := hi.mp d.2
          exact ⟨k1 + s, by omega, rfl, by omega, fun _ _ => Nat.le_refl _, Or.inr ⟨d.1, by omega, c, rfl⟩⟩
        · rw [if_neg d]
          exact ⟨k2, b2, rfl, by omega, fun z _ => by have : ¬ k1 + s < k2 := fun y => d ⟨z, hi.mpr y⟩; omega, Or.inl (by omega)⟩
      · rw [if_neg c]
        exact ⟨kp, bp, ep, by omega, fun _ z => absurd z c, Or.inl hx.symm⟩
    rw [m2_at]
    by_cases c : p = ix (A 11 g)
    · obtain ⟨k3, b3, e3, l3, f3, g3⟩ := ha _ h1
      have hx1 : ix (A 15 p) = k1 := by rw [c, e1, ix_nI (by omega)]
      have hi := nI_nle_iff (a := k3) (b := k2 + s) (by omega) (by omega)
      rw [if_pos c, e2, e3, es, nI_add]
      rw [← c] at l3 f3 g3
      by_cases d : A 14 g = 0 ∧ ¬ nI k3 ≤ nI (k2 + s)
      · rw [if_pos d]
        have d2 := hi.mp d.2
        exact ⟨k2 + s, by omega, rfl, by omega, fun z y => by have := f3 z y; omega, fun _ _ => Nat.le_refl _, Or.inr ⟨d.1, by omega, Or.inr ⟨c, rfl⟩⟩⟩
      · rw [if_neg d]
        refine ⟨k3, b3, rfl, l3, f3, fun z _ => by have : ¬ k2 + s < k3 := fun y => d ⟨z, hi.mpr y⟩; omega, ?_⟩
        rcases g3 with g3 | ⟨q1, q2, q3, q4⟩
        · exact Or.inl g3
        · exact Or.inr ⟨q1, q2, Or.inl ⟨q3, q4⟩⟩
    · rw [if_neg c]
      obtain ⟨k3, b3, e3, l3, f3, g3⟩ := ha p hp
      refine ⟨k3, b3, e3, l3, f3, fun _ z => absurd z c, ?_⟩
      rcases g3 with g3 | ⟨q1, q2, q3, q4⟩
      · exact Or.inl g3
      · exact Or.inr ⟨q1, q2, Or.inl ⟨q3, q4⟩⟩
  have x1 : ix (A 15 (ix (A 11 g))) = k1 := by rw [e1, ix_nI (by omega)]
  have x2 : ix (A 15 (ix (A 12 g))) = k2 := by rw [e2, ix_nI (by omega)]
  refine ⟨fun p hp => by obtain ⟨k, a, b, -⟩ := key p hp; exact ⟨k, a, b⟩, fun p hp => ?_⟩
  obtain ⟨k, a, b, c, d, e, f⟩ := key p hp
  rw [b, ix_nI (by omega), x1, x2]
  exact ⟨c, d, e, f⟩
theorem m3_bd {A : Nat → Nat → Int32} {N : Nat} (hB : Bd A) (hL : Lg A N) : ∀ n, n ≤ N → Bd (M_m3 n A)
  | 0, _ => hB
  | n + 1, hn => by
    obtain ⟨a, b, s, s1, s2, s3⟩ := hL n (by omega)
    refine (m2_step (m3_bd hB hL n (by omega)) (s := s) ?_ ?_ s2 ?_).1
    · rw [M_m3_ne _ _ (by decide)]; exact a
    · rw [M_m3_ne _ _ (by decide)]; exact b
    · rw [M_m3_ne _ _ (by decide)]; exact s3
theorem Lg_m4 {A : Nat → Nat → Int32} {N : Nat} (hL : Lg A N) (g n : Nat) : Lg (M_m4 g n A) N := by
  unfold Lg at *
  rw [M_m4_ne _ _ _ (by decide), M_m4_ne _ _ _ (by decide), M_m4_ne _ _ _ (by decide)]
  exact hL
theorem m4_bd {A : Nat → Nat → Int32} {N : Nat} (hB : Bd A) (hL : Lg A N) : ∀ n, Bd (M_m4 N n A)
  | 0 => hB
  | n + 1 => m3_bd (m4_bd hB hL n) (Lg_m4 hL N n) N (Nat.le_refl _)
theorem m1_at (to : Int32) (A : Nat → Nat → Int32) : ∀ n p, M_m1 to n A 15 p = if p < n then (if nI p = to then 0 else 1000000) else A 15 p
  | 0, p => by rw [if_neg (by omega)]; rfl
  | n + 1, p => by
    rw [M_m1, up2_at]
    by_cases h : p = n
    · rw [if_pos ⟨rfl, h⟩, if_pos (show p < n + 1 by omega), h]
    · rw [if_neg (fun z => h z.2), m1_at to A n p]
      by_cases h2 : p < n
      · rw [if_pos h2, if_pos (show p < n + 1 by omega)]
      · rw [if_neg h2, if_neg (show ¬ p < n + 1 by omega)]
theorem n1000000 : (1000000 : Int32) = nI 1000000 := by decide
theorem m1_bd (to : Int32) (A : Nat → Nat → Int32) : Bd (M_m1 to 8 A) := by
  intro p hp
  rw [m1_at, if_pos hp]
  split
  · exact ⟨0, by decide, rfl⟩
  · exact ⟨1000000, by decide, n1000000⟩
theorem Lg_m1 {A : Nat → Nat → Int32} {N : Nat} (hL : Lg A N) (to : Int32) (n : Nat) : Lg (M_m1 to n A) N := by
  unfold Lg at *
  rw [M_m1_ne _ _ _ (by decide), M_m1_ne _ _ _ (by decide), M_m1_ne _ _ _ (by decide)]
  exact hL
theorem meas_bd {μ : Mu} (hI : RI μ) (hL : KL μ) (to : Int32) : Bd (M_meas μ to).1 := m4_bd (m1_bd to μ.1) (Lg_m1 (Lg_of hI hL) to 8) 8
/-- the leg that is next leads nearer -/
theorem nx_prop (A : Nat → Nat → Int32) (fr : Int32) : ∀ (n : Nat) (fd : Int32), M_nx A fr n fd = fd ∨ ∃ g, g < n ∧ M_nx A fr n fd = nI g ∧ A 14 g = 0 ∧ (A 11 g = fr ∨ A 12 g = fr) ∧ A 13 g + A 15 (ix (M_across A g fr)) = A 15 (ix fr)
  | 0, fd => Or.inl rfl
  | n + 1, fd => by
    rw [M_nx]
    rcases nx_prop A fr n (M_nxs A fr n fd) with h | ⟨g, hg, h⟩
    · rw [h]
      unfold M_nxs
      split
      · next q =>
        split
        · next q2 => exact Or.inr ⟨n, by omega, rfl, q.1, q.2, q2.1⟩
        · exact Or.inl rfl
      · exact Or.inl rfl
    · exact Or.inr ⟨g, by omega, h⟩
def cnt (P : Nat → Bool) : Nat → Nat
  | 0 => 0
  | n + 1 => cnt P n + (if P n = true then 1 else 0)
theorem cnt_le (P : Nat → Bool) : ∀ n, cnt P n ≤ n
  | 0 => Nat.le_refl 0
  | n + 1 => by have := cnt_le P n; rw [cnt]; split <;> omega
theorem cnt_miss {P : Nat → Bool} {q : Nat} (hq : P q = false) : ∀ n, q < n → cnt P n + 1 ≤ n
  | 0, h => absurd h (by omega)
  | n + 1, h => by
    rw [cnt]
    by_cases e : q = n
    · subst e
      rw [if_neg (by rw [hq]; decide)]
      have := cnt_le P q
      omega
    · have := cnt_miss hq n (by omega)
      split <;> omega
theorem cnt_mono {P Q : Nat → Bool} : ∀ n, (∀ p, p < n → P p = true → Q p = true) → cnt P n ≤ cnt Q n
  | 0, _ => Nat.le_refl 0
  | n + 1, h => by
    have := cnt_mono n (fun p hp => h p (by omega))
    rw [cnt, cnt]
    by_cases e : P n = true
    · rw [if_pos e, if_pos (h n (by omega) e)]; omega
    · rw [if_neg e]; split <;> omega
theorem cnt_lt {P Q : Nat → Bool} {q : Nat} (h1 : P q = false) (h2 : Q q = true) : ∀ n, q < n → (∀ p, p < n → P p = true → Q p = true) → cnt P n + 1 ≤ cnt Q n
  | 0, h, _ => absurd h (by omega)
  | n + 1, h, hm => by
    rw [cnt, cnt]
    by_cases e : q = n
    · subst e
      rw [if_neg (by rw [h1]; decide), if_pos h2]
      have := cnt_mono (P := P) (Q := Q) q (fun p hp => hm p (by omega))
      omega
    · have := cnt_lt h1 h2 n (by omega) (fun p hp => hm p (by omega))
      by_cases e2 : P n = true
      · rw [if_pos e2, if_pos (hm n (by omega) e2)]; omega
      · rw [if_neg e2]; split <;> omega
theorem cnt_congr {P Q : Nat → Bool} : ∀ n, (∀ p, p < n → P p = Q p) → cnt P n = cnt Q n
  | 0, _ => rfl
  | n + 1, h => by rw [cnt, cnt, cnt_congr n (fun p hp => h p (by omega)), h n (by omega)]
/-- how many posts are nearer to b than a is -/
def rk (μ : Mu) (a b : Int32) : Nat := cnt (fun p => decide ((M_meas μ b).1 15 p < (M_meas μ b).1 15 (ix a))) 8
theorem rk7 (μ : Mu) {a : Int32} (b : Int32) (ha : ix a < 8) : rk μ a b ≤ 7 := by
  have := cnt_miss (P := fun p => decide ((M_meas μ b).1 15 p < (M_meas μ b).1 15 (ix a))) (q := ix a) (by simp) 8 ha
  unfold rk
  omega
theorem meas_same {μ μ' : Mu} (hI : RI μ) (hL : KL μ) (e : ∀ j, j = 10 ∨ j = 11 ∨ j = 12 ∨ j = 13 ∨ j = 14 → μ'.1 j = μ.1 j) (b : Int32) : ∀ p, p < 8 → (M_meas μ' b).1 15 p = (M_meas μ b).1 15 p := by
  have hl := Lg_of hI hL
  have hm2 : ∀ {A A' : Nat → Nat → Int32} {g : Nat}, (∀ j, j = 11 ∨ j = 12 ∨ j = 13 ∨ j = 14 → A' j = A j) → (∀ p, p < 8 → A' 15 p = A 15 p) → ix (A 11 g) < 8 → ix (A 12 g) < 8 → ∀ p, p < 8 → M_m2 A' g 15 p = M_m2 A g 15 p := by
    intro A A' g h1 h2 a1 a2 p hp
    have ea : ∀ p, p < 8 → M_m2a A' g 15 p = M_m2a A g 15 p := by
      intro p hp
      rw [m2a_at, m2a_at, h1 11 (by omega), h1 12 (by omega), h1 13 (by omega), h1 14 (by omega), h2 p hp, h2 _ a1, h2 _ a2]
    rw [m2_at, m2_at, h1 11 (by omega), h1 12 (by omega), h1 13 (by omega), h1 14 (by omega), h2 _ a2, ea _ a1, ea p hp]
  have hm3 : ∀ {A A' : Nat → Nat → Int32}, (∀ j, j = 11 ∨ j = 12 ∨ j = 13 ∨ j = 14 → A' j = A j) → (∀ p, p < 8 → A' 15 p = A 15 p) → Lg A (nG μ) → ∀ n, n ≤ nG μ → ∀ p, p < 8 → M_m3 n A' 15 p = M_m3 n A 15 p := by
    intro A A' h1 h2 h3 n
    induction n with
    | zero => intro _; exact h2
    | succ n ih =>
      intro hn
      obtain ⟨a, b, -⟩ := h3 n (by omega)
      refine hm2 (fun j hj => ?_) (ih (by omega)) ?_ ?_
      · rw [M_m3_ne _ _ (by omega), M_m3_ne _ _ (by omega)]; exact h1 j hj
      · rw [M_m3_ne _ _ (by decide)]; exact a
      · rw [M_m3_ne _ _ (by decide)]; exact b
  have hm4 : ∀ n p, p < 8 → M_m4 (nG μ) n (M_m1 b 8 μ'.1) 15 p = M_m4 (nG μ) n (M_m1 b 8 μ.1) 15 p := by
    intro n
    induction n with
    | zero =>
      intro p hp
      show M_m1 b 8 μ'.1 15 p = M_m1 b 8 μ.1 15 p
      rw [m1_at, m1_at, if_pos hp, if_pos hp]
    | succ n ih =>
      refine hm3 (fun j hj => ?_) ih (Lg_m4 (Lg_m1 hl b 8) _ _) (nG μ) (Nat.le_refl _)
      rw [M_m4_ne _ _ _ (by omega), M_m4_ne _ _ _ (by omega), M_m1_ne _ _ _ (by omega), M_m1_ne _ _ _ (by omega)]
      exact e j (by omega)
  intro p hp
  show M_m4 (ix (μ'.1 10 0)) 8 (M_m1 b 8 μ'.1) 15 p = M_m4 (ix (μ.1 10 0)) 8 (M_m1 b 8 μ.1) 15 p
  rw [e 10 (by omega)]
  exact hm4 8 p hp
theorem rk_same {μ μ' : Mu} (hI : RI μ) (hL : KL μ) (e : ∀ j, j = 10 ∨ j = 11 ∨ j = 12 ∨ j = 13 ∨ j = 14 → μ'.1 j = μ.1 j) {a : Int32} (b : Int32) (ha : ix a < 8) : rk μ' a b = rk μ a b := by
  unfold rk
  refine cnt_congr 8 (fun p hp => ?_)
  rw [meas_same hI hL e b p hp, meas_same hI hL e b _ ha]
def Ph (μ : Mu) (t : Nat) : Nat := ix (μ.1 35 t) + (if μ.1 23 t = 1 then 1 else 0) + (if μ.1 27 t = 0 then 7 else 0)
def sumH (μ : Mu) : Nat → Nat
  | 0 => 0
  | n + 1 => sumH μ n + ix (μ.1 35 n)
/-- what a day's steps keep: how often each thing may yet be signed; how many were -/
def BDg (μ : Mu) (M : Nat) : Prop := (∀ t, t < nT μ → 2 * Ph μ t + 2 * rk μ (μ.1 24 t) (μ.1 19 t) ≤ M) ∧ ix (μ.1 30 0) = sumH μ (nT μ)
theorem sumH_le {μ : Mu} {K : Nat} : ∀ n, (∀ t, t < n → ix (μ.1 35 t) ≤ K) → sumH μ n ≤ n * K
  | 0, _ => by rw [sumH]; omega
  | n + 1, h => by
    have := sumH_le n (fun t ht => h t (by omega))
    have := h n (by omega)
    rw [sumH, Nat.succ_mul]
    omega
theorem BDg.h {μ : Mu} {M : Nat} (h : BDg μ M) (hM : M ≤ 3600) {t : Nat} (ht : t < nT μ) : ix (μ.1 35 t) ≤ 1800 := by
  have := h.1 t ht
  unfold Ph at this
  omega
theorem BDg.S {μ : Mu} {M : Nat} (h : BDg μ M) (hI : RI μ) (hM : M ≤ 3600) : ¬ (80000 : Int32) ≤ μ.1 30 0 := by
  have h1 := sumH_le (μ := μ) (nT μ) (fun t ht => h.h hM ht)
  have h2 := nT40 hI
  have h3 : nT μ * 1800 ≤ 40 * 1800 := Nat.mul_le_mul_right _ h2
  rw [← h.2] at h1
  obtain ⟨S, hS, eS⟩ := hI.2.2.2.1
  rw [eS, ix_nI (by omega)] at h1
  rw [eS, show (80000 : Int32) = nI 80000 by decide, nI_nle_iff (by decide) (by omega)]
  omega
theorem sumH_step {μ μ' : Mu} {t : Nat} (eo : ∀ a, a ≠ t → μ'.1 35 a = μ.1 35 a) : ∀ n, sumH μ' n + (if t < n then ix (μ.1 35 t) else 0) = sumH μ n + (if t < n then ix (μ'.1 35 t) else 0)
  | 0 => by rw [if_neg (by omega), if_neg (by omega)]; rfl
  | n + 1 => by
    have := sumH_step eo n
    rw [sumH, sumH]
    by_cases h : n = t
    · subst h
      rw [if_neg (by omega), if_neg (by omega)] at this
      rw [if_pos (by omega), if_pos (by omega)]
      omega
    · rw [eo n h]
      by_cases h2 : t < n
      · rw [if_pos h2, if_pos h2] at this
        rw [if_pos (by omega), if_pos (by omega)]
        omega
      · rw [if_neg h2, if_neg h2] at this
        rw [if_neg (by omega), if_neg (by omega)]
        omega
theorem BDg_step {μ μ' : Mu} {M t : Nat} (h : BDg μ M) (hI : RI μ) (hK : KI μ) (ht : t < nT μ) (e16 : μ'.1 16 = μ.1 16) (eL : ∀ j, j = 10 ∨ j = 11 ∨ j = 12 ∨ j = 13 ∨ j = 14 → μ'.1 j = μ.1 j) (eo : ∀ a, a ≠ t → μ'.1 35 a = μ.1 35 a ∧ μ'.1 23 a = μ.1 23 a ∧ μ'.1 27 a = μ.1 27 a ∧ μ'.1 24 a = μ.1 24 a ∧ μ'.1 19 a = μ.1 19 a) (hs : ix (μ'.1 30 0) + ix (μ.1 35 t) = ix (μ.1 30 0) + ix (μ'.1 35 t)) (h24 : ix (μ'.1 24 t) < 8) (hΦ : 2 * Ph μ' t + 2 * rk μ (μ'.1 24 t) (μ'.1 19 t) ≤ M) : BDg μ' M := by
  have en : nT μ' = nT μ := by unfold nT; rw [e16]
  have h8 := nP8 hI
  refine ⟨fun a ha => ?_, ?_⟩
  · rw [en] at ha
    by_cases hat : a = t
    · subst hat
      rw [rk_same hI hK.1 eL _ h24]
      exact hΦ
    · obtain ⟨e1, e2, e3, e4, e5⟩ := eo a hat
      have := h.1 a ha
      unfold Ph at this ⊢
      rw [e1, e2, e3, e4, e5, rk_same hI hK.1 eL _ (by have := hK.at ha; omega)]
      exact this
  · rw [en]
    have := sumH_step (μ := μ) (μ' := μ') (t := t) (fun a ha => (eo a ha).1) (nT μ)
    rw [if_pos ht, if_pos ht] at this
    have := h.2
    omega
