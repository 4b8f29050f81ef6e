/-! the reference's distances; all ways; the next leg: as the class's tables have them -/
theorem m3_le {A : Nat → Nat → Int32} {N : Nat} (hB : Bd A) (hL : Lg A N) : ∀ n m, n + m ≤ N → ∀ p, p < 8 → ix (M_m3 (n + m) A 15 p) ≤ ix (M_m3 n A 15 p)
  | n, 0, _, p, _ => Nat.le_refl _
  | n, m + 1, h, p, hp => by
    obtain ⟨a, b, s, s1, s2, s3⟩ := hL (n + m) (by omega)
    have h1 := ((m2_step (g := n + m) (m3_bd hB hL (n + m) (by omega)) (s := s) (by rw [M_m3_ne _ _ (by decide)]; exact a) (by rw [M_m3_ne _ _ (by decide)]; exact b) s2 (by rw [M_m3_ne _ _ (by decide)]; exact s3)).2 p hp).1
    exact Nat.le_trans h1 (m3_le hB hL n m (by omega) p hp)
/-- a round over all legs: each open leg is looked at -/
theorem m3_leg {A : Nat → Nat → Int32} {N : Nat} (hB : Bd A) (hL : Lg A N) {l : Nat} (hl : l < N) (ho : A 14 l = 0) {p q : Nat} (hp : p < 8) (hq : q < 8) (he : (ix (A 11 l) = p ∧ ix (A 12 l) = q) ∨ (ix (A 12 l) = p ∧ ix (A 11 l) = q)) : ix (M_m3 N A 15 p) ≤ ix (A 15 q) + ix (A 13 l) := by
  obtain ⟨a, b, s, s1, s2, s3⟩ := hL l hl
  have e13 : ix (A 13 l) = s := by rw [s3, ix_nI (by omega)]
  have f : ∀ j, j ≠ 15 → M_m3 l A j = A j := fun j hj => M_m3_ne _ _ hj
  have h1 := (m2_step (g := l) (m3_bd hB hL l (by omega)) (s := s) (by rw [f 11 (by decide)]; exact a) (by rw [f 12 (by decide)]; exact b) s2 (by rw [f 13 (by decide)]; exact s3)).2 p hp
  rw [f 14 (by decide), f 11 (by decide), f 12 (by decide)] at h1
  have h2 := m3_le hB hL 0 l (by omega) q hq
  rw [Nat.zero_add] at h2
  have h3 := m3_le hB hL (l + 1) (N - (l + 1)) (by omega) p hp
  rw [show l + 1 + (N - (l + 1)) = N by omega] at h3
  have h4 : M_m3 0 A = A := rfl
  rw [h4] at h2
  have h5 : M_m3 (l + 1) A = M_m2 (M_m3 l A) l := rfl
  rw [h5] at h3
  rw [e13]
  rcases he with ⟨z1, z2⟩ | ⟨z1, z2⟩
  · have := h1.2.2.1 ho z1.symm
    rw [z2] at this
    omega
  · have := h1.2.1 ho z1.symm
    rw [z2] at this
    omega
theorem m3_lo {A : Nat → Nat → Int32} {N : Nat} (hB : Bd A) (hL : Lg A N) {g : Nat → Nat} (hg : ∀ p, p < 8 → g p ≤ ix (A 15 p)) (hs : ∀ l, l < N → A 14 l = 0 → g (ix (A 11 l)) ≤ g (ix (A 12 l)) + ix (A 13 l) ∧ g (ix (A 12 l)) ≤ g (ix (A 11 l)) + ix (A 13 l)) : ∀ n, n ≤ N → ∀ p, p < 8 → g p ≤ ix (M_m3 n A 15 p)
  | 0, _, p, hp => hg p hp
  | n + 1, hn, p, hp => by
    have ih := m3_lo hB hL hg hs n (by omega)
    obtain ⟨a, b, s, s1, s2, s3⟩ := hL n (by omega)
    have e13 : ix (A 13 n) = s := by rw [s3, ix_nI (by omega)]
    have f : ∀ j, j ≠ 15 → M_m3 n A j = A j := fun j hj => M_m3_ne _ _ hj
    have h1 := (m2_step (g := n) (m3_bd hB hL n (by omega)) (s := s) (by rw [f 11 (by decide)]; exact a) (by rw [f 12 (by decide)]; exact b) s2 (by rw [f 13 (by decide)]; exact s3)).2 p hp
    rw [f 14 (by decide), f 11 (by decide), f 12 (by decide)] at h1
    show g p ≤ ix (M_m2 (M_m3 n A) n 15 p)
    have ia := ih _ a
    have ib := ih _ b
    rcases h1.2.2.2 with z | ⟨z1, z2, ⟨z3, z4⟩ | ⟨z3, z4⟩⟩
    · rw [z]; exact ih p hp
    · have := (hs n (by omega) z1).2
      rw [e13] at this
      rw [z4, z3]
      omega
    · have := (hs n (by omega) z1).1
      rw [e13] at this
      rw [z4, z3]
      omega
section RM
variable {μ : Mu} {b : Nat} {g : Nat → Nat}
/-- the reference's distances are those of any such function -/
theorem meas_eq (hI : RI μ) (hL : KL μ) (hb : b < 8) (hg : Gd (Dn μ (nG μ)) b g) : ∀ p, p < 8 → (M_meas μ (nI b)).1 15 p = nI (g p) := by
  have hl := Lg_of hI hL
  have hs : ∀ l, l < nG μ → μ.1 14 l = 0 → g (ix (μ.1 11 l)) ≤ g (ix (μ.1 12 l)) + ix (μ.1 13 l) ∧ g (ix (μ.1 12 l)) ≤ g (ix (μ.1 11 l)) + ix (μ.1 13 l) := by
    intro l hlG ho
    obtain ⟨a1, a2, -⟩ := hl l hlG
    have h1 := hg.2.2.1 _ _ a1 a2
    have h2 := hg.2.2.1 _ _ a2 a1
    have h3 := Dn_leg μ (l := l) ho (Or.inl ⟨rfl, rfl⟩) (nG μ) hlG
    have h4 := Dn_leg μ (l := l) ho (Or.inr ⟨rfl, rfl⟩) (nG μ) hlG
    omega
  have hB0 := m1_bd (nI b) μ.1
  have hL0 := Lg_m1 hl (nI b) 8
  have e0 : ∀ p, p < 8 → ix (M_m1 (nI b) 8 μ.1 15 p) = if p = b then 0 else 1000000 := by
    intro p hp
    rw [m1_at, if_pos hp]
    by_cases h : p = b
    · rw [if_pos h, if_pos (by rw [h])]; rfl
    · rw [if_neg h, if_neg (fun z => h (nI_inj (by omega) (by omega) z)), n1000000, ix_nI (by omega)]
  have fm : ∀ n j, j ≠ 15 → M_m4 (nG μ) n (M_m1 (nI b) 8 μ.1) j = μ.1 j := fun n j hj => by rw [M_m4_ne _ _ _ hj, M_m1_ne _ _ _ hj]
  have hlo : ∀ n, ∀ p, p < 8 → g p ≤ ix (M_m4 (nG μ) n (M_m1 (nI b) 8 μ.1) 15 p) := by
    intro n
    induction n with
    | zero =>
      intro p hp
      show g p ≤ ix (M_m1 (nI b) 8 μ.1 15 p)
      rw [e0 p hp]
      by_cases h : p = b
      · rw [if_pos h, h, hg.1]; omega
      · rw [if_neg h]; exact hg.2.1 p hp
    | succ n ih =>
      refine m3_lo (m4_bd hB0 hL0 n) (Lg_m4 hL0 _ n) ih (fun l h1 h2 => ?_) (nG μ) (Nat.le_refl _)
      rw [fm n 14 (by decide)] at h2
      rw [fm n 11 (by decide), fm n 12 (by decide), fm n 13 (by decide)]
      exact hs l h1 h2
  have hhi : ∀ n, ∀ p, p < 8 → rn g p ≤ n → ix (M_m4 (nG μ) n (M_m1 (nI b) 8 μ.1) 15 p) ≤ g p := by
    intro n
    induction n with
    | zero =>
      intro p hp hr
      show ix (M_m1 (nI b) 8 μ.1 15 p) ≤ g p
      rw [e0 p hp]
      by_cases h : p = b
      · rw [if_pos h]; omega
      · rw [if_neg h]
        rcases Nat.lt_or_ge (g p) 1000000 with q | q
        · obtain ⟨v, hv, h1⟩ := hg.2.2.2 p hp h q
          obtain ⟨l, l1, l2, l3, l4⟩ := Dn_att μ (a := p) (b := v) (nG μ) (by omega)
          obtain ⟨-, -, s, s1, s2, s3⟩ := hl l l1
          rw [s3, ix_nI (by omega)] at l4
          have := rn_lt (g := g) (a := p) hv (by omega)
          omega
        · exact q
    | succ n ih =>
      intro p hp hr
      show ix (M_m3 (nG μ) (M_m4 (nG μ) n (M_m1 (nI b) 8 μ.1)) 15 p) ≤ g p
      by_cases h : p = b
      · have h1 := m3_le (m4_bd hB0 hL0 n) (Lg_m4 hL0 (nG μ) n) 0 (nG μ) (by omega) p hp
        rw [Nat.zero_add] at h1
        have h2 : M_m3 0 (M_m4 (nG μ) n (M_m1 (nI b) 8 μ.1)) = M_m4 (nG μ) n (M_m1 (nI b) 8 μ.1) := rfl
        rw [h2] at h1
        have h0 : rn g b = 0 := by
          unfold rn
          have : ∀ k, cnt (fun p => decide (g p < g b)) k = 0 := by
            intro k
            induction k with
            | zero => rfl
            | succ k ih => rw [cnt, ih, if_neg]; rw [hg.1]; simp
          exact this 8
        have := ih p hp (by rw [h, h0]; omega)
        omega
      · rcases Nat.lt_or_ge (g p) 1000000 with q | q
        · obtain ⟨v, hv, h1⟩ := hg.2.2.2 p hp h q
          obtain ⟨l, l1, l2, l3, l4⟩ := Dn_att μ (a := p) (b := v) (nG μ) (by omega)
          obtain ⟨-, -, s, s1, s2, s3⟩ := hl l l1
          have l5 := l4
          rw [s3, ix_nI (by omega)] at l5
          have := rn_lt (g := g) (a := p) hv (by omega)
          have h2 := m3_leg (m4_bd hB0 hL0 n) (Lg_m4 hL0 (nG μ) n) l1 (p := p) (q := v) (by rw [fm n 14 (by decide)]; exact l2) hp hv (by rw [fm n 11 (by decide), fm n 12 (by decide)]; exact l3)
          rw [fm n 13 (by decide)] at h2
          have h3 := ih v hv (by omega)
          omega
        · obtain ⟨k, k1, k2⟩ := m4_bd hB0 hL0 (n + 1) p hp
          have k3 : M_m3 (nG μ) (M_m4 (nG μ) n (M_m1 (nI b) 8 μ.1)) 15 p = nI k := k2
          rw [k3, ix_nI (by omega)]
          omega
  intro p hp
  obtain ⟨k, k1, k2⟩ := m4_bd hB0 hL0 8 p hp
  have h1 := hlo 8 p hp
  have h2 := hhi 8 p hp (by have := rn7 (g := g) hp; omega)
  have k3 : (M_meas μ (nI b)).1 15 p = nI k := k2
  rw [k2, ix_nI (by omega)] at h1 h2
  rw [k3, show k = g p by omega]
end RM
/-! all ways that pass no post twice -/
section WY
variable {D : Nat → Nat → Nat} {b : Nat} {g : Nat → Nat} {T : Nat → Int32}
theorem wl_lo (hg : Gd D b g) (hD : ∀ a b, D a b ≤ 1000000) (hT : ∀ a b, a < 8 → b < 8 → T (8 * a + b) = nI (D a b)) {a : Nat} (ha : a < 8) {seen : Int32} {rec_ : Nat → Int32 → Int32} (hr : ∀ n s, n < 8 → ∃ x, x ≤ 1000000 ∧ rec_ n s = nI x ∧ g n ≤ x) : ∀ m, m ≤ 8 → ∃ x, x ≤ 1000000 ∧ K_wl T a seen rec_ m = nI x ∧ g a ≤ x ∧ ∀ n, n < m → D a n < 1000000 → seen &&& (1 <<< (nI n &&& 31)) = 0 → ∀ y, y ≤ 1000000 → rec_ n (seen ||| (1 <<< (nI n &&& 31))) = nI y → x ≤ D a n + y
  | 0, _ => ⟨1000000, Nat.le_refl _, n1000000, hg.2.1 a ha, fun n h => absurd h (by omega)⟩
  | m + 1, hm => by
    obtain ⟨x, h1, h2, h3, h4⟩ := wl_lo hg hD hT ha hr m (by omega)
    rw [K_wl]
    have hd := hD a m
    have e1 : (¬ (1000000 : Int32) ≤ T (8 * a + m)) ↔ D a m < 1000000 := by
      rw [hT a m ha (by omega), n1000000, nI_nle_iff (by omega) (by omega)]
    by_cases c : ¬ (1000000 : Int32) ≤ T (8 * a + m) ∧ seen &&& (1 <<< (nI m &&& 31)) = 0
    · rw [if_pos c]
      obtain ⟨y, y1, y2, y3⟩ := hr m (seen ||| (1 <<< (nI m &&& 31))) (by omega)
      have d1 := e1.mp c.1
      have := hg.2.2.1 a m ha (by omega)
      refine ⟨min x (D a m + y), by omega, ?_, by omega, fun n hn hdn hs z hz hrz => ?_⟩
      · rw [h2, y2, hT a m ha (by omega), nI_add, min_nI (by omega) (by omega)]
      · by_cases hnm : n = m
        · subst hnm
          rw [y2] at hrz
          have := nI_inj (by omega) (by omega) hrz
          omega
        · have := h4 n (by omega) hdn hs z hz hrz
          omega
    · rw [if_neg c]
      refine ⟨x, h1, h2, h3, fun n hn hdn hs z hz hrz => ?_⟩
      by_cases hnm : n = m
      · subst hnm
        exact absurd ⟨e1.mpr hdn, hs⟩ c
      · exact h4 n (by omega) hdn hs z hz hrz
theorem w_lo (hg : Gd D b g) (hD : ∀ a b, D a b ≤ 1000000) (hT : ∀ a b, a < 8 → b < 8 → T (8 * a + b) = nI (D a b)) : ∀ k a seen, a < 8 → ∃ x, x ≤ 1000000 ∧ K_w T b k a seen = nI x ∧ g a ≤ x
  | 0, a, seen, ha => by
    rw [K_w]
    by_cases h : a = b
    · rw [if_pos h]; exact ⟨0, by omega, rfl, by rw [h, hg.1]; omega⟩
    · rw [if_neg h]; exact ⟨1000000, Nat.le_refl _, n1000000, hg.2.1 a ha⟩
  | k + 1, a, seen, ha => by
    rw [K_w]
    by_cases h : a = b
    · rw [if_pos h]; exact ⟨0, by omega, rfl, by rw [h, hg.1]; omega⟩
    · rw [if_neg h]
      obtain ⟨x, h1, h2, h3, -⟩ := wl_lo hg hD hT ha (seen := seen) (rec_ := fun n s => K_w T b k n s) (fun n s hn => w_lo hg hD hT k n s hn) 8 (Nat.le_refl _)
      exact ⟨x, h1, h2, h3⟩
def bitI (n : Nat) : Int32 := 1 <<< (nI n &&& 31)
theorem bit_ne8 : ∀ m, m < 8 → ∀ n, n < 8 → m ≠ n → bitI m &&& bitI n = 0 := by decide +kernel
theorem bit_ne (m n : Nat) (hm : m < 8) (hn : n < 8) (h : m ≠ n) : bitI m &&& bitI n = 0 := bit_ne8 m hm n hn h
theorem or_bit {s x y : Int32} (h1 : s &&& y = 0) (h2 : x &&& y = 0) : (s ||| x) &&& y = 0 := by
  have e : (s ||| x) &&& y = (s &&& y) ||| (x &&& y) := by
    apply Int32.toBitVec_inj.mp
    simp only [Int32.toBitVec_and, Int32.toBitVec_or]
    ext i hi
    simp [Bool.and_or_distrib_right]
  rw [e, h1, h2]
  rfl
theorem w_hi (hg : Gd D b g) (hD : ∀ a b, D a b ≤ 1000000) (hD1 : ∀ a v, D a v < 1000000 → 1 ≤ D a v) (hT : ∀ a b, a < 8 → b < 8 → T (8 * a + b) = nI (D a b)) : ∀ k a seen, a < 8 → rn g a ≤ k → (∀ n, n < 8 → g n < g a → seen &&& bitI n = 0) → K_w T b k a seen = nI (g a)
  | 0, a, seen, ha, hk, hs => by
    obtain ⟨x, x1, x2, x3⟩ := w_lo hg hD hT 0 a seen ha
    rw [K_w] at x2 ⊢
    by_cases h : a = b
    · rw [if_pos h, h, hg.1]; rfl
    · rw [if_neg h] at x2 ⊢
      have := nI_inj (by omega) (by omega) (n1000000.symm.trans x2)
      rcases Nat.lt_or_ge (g a) 1000000 with q | q
      · obtain ⟨v, hv, h1⟩ := hg.2.2.2 a ha h q
        have h2 := hD1 a v (by omega)
        have := rn_lt (g := g) (a := a) hv (by omega)
        omega
      · rw [show g a = 1000000 by omega]; exact n1000000
  | k + 1, a, seen, ha, hk, hs => by
    rw [K_w]
    by_cases h : a = b
    · rw [if_pos h, h, hg.1]; rfl
    · rw [if_neg h]
      obtain ⟨x, x1, x2, x3, x4⟩ := wl_lo hg hD hT ha (seen := seen) (rec_ := fun n s => K_w T b k n s) (fun n s hn => w_lo hg hD hT k n s hn) 8 (Nat.le_refl _)
      rw [x2]
      rcases Nat.lt_or_ge (g a) 1000000 with q | q
      · obtain ⟨v, hv, h1⟩ := hg.2.2.2 a ha h q
        have h2 := hD1 a v (by omega)
        have h3 := rn_lt (g := g) (a := a) hv (by omega)
        have h4 := w_hi hg hD hD1 hT k v (seen ||| bitI v) hv (by omega) (fun n hn hlt => or_bit (hs n hn (by omega)) (bit_ne v n hv hn (by rintro rfl; omega)))
        have h5 := x4 v hv (by omega) (hs v hv (by omega)) (g v) (by omega) h4
        rw [show x = g a by omega]
      · rw [show x = g a by have := hg.2.1 a ha; omega]
end WY
/-! the next leg -/
section NX
variable {μ : Mu} {a b : Nat} {g : Nat → Nat}
def cnd (μ : Mu) (g : Nat → Nat) (a n : Nat) : Prop := μ.1 14 n = 0 ∧ (μ.1 11 n = nI a ∨ μ.1 12 n = nI a) ∧ ix (μ.1 13 n) + g (ix (M_across μ.1 n (nI a))) = g a
def Bst (μ : Mu) (g : Nat → Nat) (a lo hi m : Nat) : Prop := lo ≤ m ∧ m < hi ∧ cnd μ g a m ∧ ∀ l, lo ≤ l → l < hi → cnd μ g a l → ix (M_across μ.1 m (nI a)) < ix (M_across μ.1 l (nI a)) ∨ (ix (M_across μ.1 m (nI a)) = ix (M_across μ.1 l (nI a)) ∧ m ≤ l)
theorem Bst_uniq {lo hi m m' : Nat} (h : Bst μ g a lo hi m) (h' : Bst μ g a lo hi m') : m = m' := by
  have h1 := h.2.2.2 m' h'.1 h'.2.1 h'.2.2.1
  have h2 := h'.2.2.2 m h.1 h.2.1 h.2.2.1
  omega
theorem leads_at (hI : RI μ) {n : Nat} (hn : n < 20) : K_leads μ n (nI a) = if μ.1 14 n = 0 ∧ (μ.1 11 n = nI a ∨ μ.1 12 n = nI a) then M_across μ.1 n (nI a) else -1 := by
  unfold K_leads M_across
  rw [in_eq (hI.o1 hn) (by decide), in_eq (hI.o2 hn) (by decide)]
  by_cases h14 : μ.1 14 n = 0
  · rw [if_neg (fun z => z h14)]
    by_cases h1 : μ.1 11 n = nI a
    · rw [if_pos h1.symm, if_pos ⟨h14, Or.inl h1⟩, if_pos h1]
    · rw [if_neg (fun z => h1 z.symm)]
      by_cases h2 : μ.1 12 n = nI a
      · rw [if_pos h2.symm, if_pos ⟨h14, Or.inr h2⟩, if_neg h1]
      · rw [if_neg (fun z => h2 z.symm), if_neg (fun z => z.2.elim h1 h2)]
  · rw [if_pos h14, if_neg (fun z => h14 z.1)]
theorem acr_in (hI : RI μ) {n : Nat} (hn : n < 20) : ∃ e, e < 8 ∧ M_across μ.1 n (nI a) = nI e := by
  obtain ⟨j, h1, h2, -⟩ := in_of (across_in hI hn (nI a)) (by decide)
  exact ⟨j, h1, h2⟩
theorem fl_best (hI : RI μ) (hL : KL μ) {T : Tt} (ha : a < 8) (hb : b < 8) (hg : ∀ p, p < 8 → g p ≤ 1000000 ∧ T 1 (8 * p + b) = nI (g p)) : ∀ n, n ≤ nG μ → (K_fl1 μ T a b n = (-1, 8) ∧ ∀ l, l < n → ¬ cnd μ g a l) ∨ ∃ m, Bst μ g a 0 n m ∧ K_fl1 μ T a b n = (nI m, M_across μ.1 m (nI a))
  | 0, _ => Or.inl ⟨rfl, fun l h => absurd h (by omega)⟩
  | n + 1, hn => by
    have hG := nG20 hI
    have ih := fl_best hI hL ha hb hg n (by omega)
    obtain ⟨e, he, hee⟩ := acr_in (a := a) hI (n := n) (by omega)
    obtain ⟨-, -, s, s1, s2, s3⟩ := Lg_of hI hL n (by omega)
    have e13 : ix (μ.1 13 n) = s := by rw [s3, ix_nI (by omega)]
    have hxe : ix (M_across μ.1 n (nI a)) = e := by rw [hee, ix_nI (by omega)]
    have ec : ix (nI e * 8 + nI b) = 8 * e + b := by rw [cell_nI, ix_nI (by omega)]
    have hge := (hg e he).1
    have hga := (hg a ha).1
    -- what makes the leg a candidate
    have key : ∀ q2 : Int32, (¬ K_leads μ n (nI a) = -1 ∧ ¬ q2 ≤ K_leads μ n (nI a) ∧ μ.1 13 n + T 1 (ix (K_leads μ n (nI a) * 8 + nI b)) = T 1 (8 * a + b)) ↔ (cnd μ g a n ∧ nI e < q2) := by
      intro q2
      rw [leads_at hI (by omega)]
      unfold cnd
      rw [hxe, e13]
      by_cases c : μ.1 14 n = 0 ∧ (μ.1 11 n = nI a ∨ μ.1 12 n = nI a)
      · rw [if_pos c, hee, ec, s3, (hg e he).2, (hg a ha).2, nI_add]
        constructor
        · rintro ⟨-, z2, z3⟩
          exact ⟨⟨c.1, c.2, nI_inj (by omega) (by omega) z3⟩, Int32.not_le.mp z2⟩
        · rintro ⟨⟨-, -, z3⟩, z2⟩
          refine ⟨fun z => ?_, Int32.not_le.mpr z2, by rw [z3]⟩
          have : ¬ nI e < 0 := nI_pos (by omega)
          rw [z] at this
          exact this (by decide)
      · rw [if_neg c]
        exact ⟨fun z => absurd rfl z.1, fun z => absurd ⟨z.1.1, z.1.2.1⟩ c⟩
    rw [K_fl1]
    unfold K_fls
    rcases ih with ⟨h1, h2⟩ | ⟨m, h1, h2⟩
    · rw [h1]
      dsimp only
      by_cases c : cnd μ g a n
      · right
        refine ⟨n, ⟨by omega, by omega, c, fun l _ hl hc => ?_⟩, ?_⟩
        · by_cases hln : l = n
          · subst hln; exact Or.inr ⟨rfl, Nat.le_refl _⟩
          · exact absurd hc (h2 l (by omega))
        · rw [if_pos ((key 8).mpr ⟨c, by rw [n8]; exact (nI_ltI (by omega) (by omega)).mpr he⟩), leads_at hI (by omega), if_pos ⟨c.1, c.2.1⟩]
      · left
        refine ⟨by rw [if_neg (fun z => c ((key 8).mp z).1)], fun l hl => ?_⟩
        by_cases hln : l = n
        · subst hln; exact c
        · exact h2 l (by omega)
    · rw [h2]
      dsimp only
      obtain ⟨em, hem, heem⟩ := acr_in (a := a) hI (n := m) (by have := h1.2.1; omega)
      have hxm : ix (M_across μ.1 m (nI a)) = em := by rw [heem, ix_nI (by omega)]
      right
      by_cases c : cnd μ g a n ∧ e < em
      · refine ⟨n, ⟨by omega, by omega, c.1, fun l _ hl hc => ?_⟩, ?_⟩
        · by_cases hln : l = n
          · subst hln; exact Or.inr ⟨rfl, Nat.le_refl _⟩
          · have := h1.2.2.2 l (by omega) (by omega) hc
            rw [hxm] at this
            rw [hxe]
            omega
        · rw [if_pos ((key _).mpr ⟨c.1, by rw [heem]; exact (nI_ltI (by omega) (by omega)).mpr c.2⟩), leads_at hI (by omega), if_pos ⟨c.1.1, c.1.2.1⟩]
      · refine ⟨m, ⟨by omega, by have := h1.2.1; omega, h1.2.2.1, fun l _ hl hc => ?_⟩, ?_⟩
        · by_cases hln : l = n
          · subst hln
            have : ¬ e < em := fun z => c ⟨hc, z⟩
            have := h1.2.1
            rw [hxm, hxe]
            omega
          · exact h1.2.2.2 l (by omega) (by omega) hc
        · rw [if_neg (fun z => by
            have z2 := (key _).mp z
            rw [heem] at z2
            exact c ⟨z2.1, (nI_ltI (by omega) (by omega)).mp z2.2⟩)]
theorem nx_best (hI : RI μ) (hL : KL μ) {A : Nat → Nat → Int32} (hA : ∀ j, j = 11 ∨ j = 12 ∨ j = 13 ∨ j = 14 → A j = μ.1 j) (ha : a < 8) (hg : ∀ p, p < 8 → g p ≤ 1000000 ∧ A 15 p = nI (g p)) : ∀ n fd, n ≤ nG μ → ((fd = -1 ∧ ∀ l, n ≤ l → l < nG μ → ¬ cnd μ g a l) ∨ ∃ m, Bst μ g a n (nG μ) m ∧ fd = nI m) → (M_nx A (nI a) n fd = -1 ∧ ∀ l, l < nG μ → ¬ cnd μ g a l) ∨ ∃ m, Bst μ g a 0 (nG μ) m ∧ M_nx A (nI a) n fd = nI m
  | 0, fd, _, h => by
    rcases h with ⟨h1, h2⟩ | h
    · exact Or.inl ⟨h1, fun l hl => h2 l (Nat.zero_le _) hl⟩
    · exact Or.inr h
  | n + 1, fd, hn, h => by
    have hG := nG20 hI
    rw [M_nx]
    refine nx_best hI hL hA ha hg n _ (by omega) ?_
    obtain ⟨e, he, hee⟩ := acr_in (a := a) hI (n := n) (by omega)
    obtain ⟨-, -, s, s1, s2, s3⟩ := Lg_of hI hL n (by omega)
    have e13 : ix (μ.1 13 n) = s := by rw [s3, ix_nI (by omega)]
    have hxe : ix (M_across μ.1 n (nI a)) = e := by rw [hee, ix_nI (by omega)]
    have hac : ∀ k, M_across A k (nI a) = M_across μ.1 k (nI a) := fun k => by unfold M_across; rw [hA 11 (by omega), hA 12 (by omega)]
    have hge := (hg e he).1
    have hga := (hg a ha).1
    have hxa : ix (nI a) = a := ix_nI (by omega)
    have key : (μ.1 14 n = 0 ∧ (μ.1 11 n = nI a ∨ μ.1 12 n = nI a)) → ((μ.1 13 n + A 15 (ix (M_across A n (nI a))) = A 15 (ix (nI a))) ↔ cnd μ g a n) := by
      intro c
      unfold cnd
      rw [hac, hxe, hxa, e13, s3, (hg e he).2, (hg a ha).2, nI_add]
      exact ⟨fun z => ⟨c.1, c.2, nI_inj (by omega) (by omega) z⟩, fun z => by rw [z.2.2]⟩
    unfold M_nxs
    rw [hA 11 (by omega), hA 12 (by omega), hA 13 (by omega), hA 14 (by omega)]
    by_cases c : cnd μ g a n
    · have c0 : μ.1 14 n = 0 ∧ (μ.1 11 n = nI a ∨ μ.1 12 n = nI a) := ⟨c.1, c.2.1⟩
      rw [if_pos c0]
      have c1 := (key c0).mpr c
      rcases h with ⟨h1, h2⟩ | ⟨m, h1, h2⟩
      · right
        rw [if_pos ⟨c1, Or.inl h1⟩]
        refine ⟨n, ⟨Nat.le_refl _, by omega, c, fun l h3 h4 hc => ?_⟩, rfl⟩
        by_cases hln : l = n
        · subst hln; exact Or.inr ⟨rfl, Nat.le_refl _⟩
        · exact absurd hc (h2 l (by omega) h4)
      · obtain ⟨em, hem, heem⟩ := acr_in (a := a) hI (n := m) (by have := h1.2.1; omega)
        have hxm : ix (M_across μ.1 m (nI a)) = em := by rw [heem, ix_nI (by omega)]
        have hfd : ¬ fd = -1 := by
          rw [h2]; intro z
          have : ¬ nI m < 0 := nI_pos (by have := h1.2.1; omega)
          rw [z] at this
          exact this (by decide)
        have e2 : M_across A (ix fd) (nI a) = nI em := by rw [hac, h2, ix_nI (by have := h1.2.1; omega), heem]
        right
        by_cases d : em < e
        · rw [if_neg (fun z => z.2.elim hfd (fun y => y (by rw [e2, hac, hee]; exact (nI_ltI (by omega) (by omega)).mpr d)))]
          refine ⟨m, ⟨by have := h1.1; omega, h1.2.1, h1.2.2.1, fun l h3 h4 hc => ?_⟩, h2⟩
          by_cases hln : l = n
          · subst hln; left; rw [hxm, hxe]; exact d
          · exact h1.2.2.2 l (by omega) h4 hc
        · rw [if_pos ⟨c1, Or.inr (fun y => d (by rw [e2, hac, hee] at y; exact (nI_ltI (by omega) (by omega)).mp y))⟩]
          refine ⟨n, ⟨Nat.le_refl _, by omega, c, fun l h3 h4 hc => ?_⟩, rfl⟩
          by_cases hln : l = n
          · subst hln; exact Or.inr ⟨rfl, Nat.le_refl _⟩
          · have := h1.2.2.2 l (by omega) h4 hc
            rw [hxm] at this
            rw [hxe]
            omega
    · have e9 : (if μ.1 14 n = 0 ∧ (μ.1 11 n = nI a ∨ μ.1 12 n = nI a) then (if μ.1 13 n + A 15 (ix (M_across A n (nI a))) = A 15 (ix (nI a)) ∧ (fd = -1 ∨ ¬ M_across A (ix fd) (nI a) < M_across A n (nI a)) then nI n else fd) else fd) = fd := by
        split
        · next c0 => rw [if_neg (fun z => c ((key c0).mp z.1))]
        · rfl
      rw [e9]
      rcases h with ⟨h1, h2⟩ | ⟨m, h1, h2⟩
      · left
        refine ⟨h1, fun l h3 h4 => ?_⟩
        by_cases hln : l = n
        · subst hln; exact c
        · exact h2 l (by omega) h4
      · right
        refine ⟨m, ⟨by have := h1.1; omega, h1.2.1, h1.2.2.1, fun l h3 h4 hc => ?_⟩, h2⟩
        by_cases hln : l = n
        · subst hln; exact absurd hc c
        · exact h1.2.2.2 l (by omega) h4 hc
end NX
/-- the tables are right once they are reckoned -/
theorem TS_reckon {μ : Mu} (hI : RI μ) (hL : KL μ) (T : Tt) : TS μ (K_reckon μ T) := by
  intro a b ha hb
  have h8 := nP8 hI
  obtain ⟨a', ha', rfl, hxa⟩ := in_of (hI.P ha) (by decide)
  obtain ⟨b', hb', rfl, hxb⟩ := in_of (hI.P hb) (by decide)
  rw [hxa, hxb]
  obtain ⟨D, hD⟩ : ∃ D, D = Dn μ (nG μ) := ⟨_, rfl⟩
  have hDF : ∀ a b, D a b ≤ 1000000 := fun a b => by rw [hD]; exact Dn_F μ _ a b
  have hD1 : ∀ a v, D a v < 1000000 → 1 ≤ D a v ∧ D a v ≤ 100 := by
    intro a v h
    rw [hD] at h
    obtain ⟨l, l1, -, -, l4⟩ := Dn_att μ (nG μ) h
    obtain ⟨-, -, s, s1, s2, s3⟩ := Lg_of hI hL l l1
    rw [hD, l4, s3, ix_nI (by omega)]
    exact ⟨s1, s2⟩
  obtain ⟨g, hgg⟩ : ∃ g, g = fun a => Fw (L0 D) 8 a b' := ⟨_, rfl⟩
  have hg : Gd D b' g := by rw [hgg]; exact Gd_Fw hDF hb'
  have hr := fun p hp => reckon_at hI hL T (a := p) (b := b') hp hb'
  have hgT : ∀ p, p < 8 → g p ≤ 1000000 ∧ K_reckon μ T 1 (8 * p + b') = nI (g p) := fun p hp => ⟨hg.2.1 p hp, by rw [(hr p hp).2.1, hgg, hD]⟩
  have hme := meas_eq hI hL hb' (g := g) (by rw [← hD]; exact hg)
  have hF := hg.2.1 a' ha'
  have hT : K_far (nI (g a')) = (M_told μ (nI a') (nI b')).1 := by
    unfold M_told
    rw [if_pos ⟨ha, hb⟩, meas_th (nI b') 15 (by decide), hxa, hme a' ha']
    unfold K_far
    rw [n1000000]
    by_cases h : g a' < 1000000
    · rw [if_neg ((nI_nle_iff (by omega) (by omega)).mpr h), if_pos ((nI_ltI (by omega) (by omega)).mpr h)]
    · rw [if_pos ((nI_leI (by omega) (by omega)).mpr (by omega)), if_neg (fun z => h ((nI_ltI (by omega) (by omega)).mp z))]
  refine ⟨by rw [(hgT a' ha').2]; exact hT, ?_, ?_⟩
  · rw [(hr a' ha').2.2]
    have h1 := fl_best hI hL (T := K_reckon μ T) ha' hb' hgT (nG μ) (Nat.le_refl _)
    have hA : ∀ j, j = 11 ∨ j = 12 ∨ j = 13 ∨ j = 14 → (M_meas μ (nI b')).1 j = μ.1 j := fun j hj => M_meas_ne _ _ (by omega)
    have h2 := nx_best hI hL hA ha' (g := g) (fun p hp => ⟨hg.2.1 p hp, hme p hp⟩) (nG μ) (-1) (Nat.le_refl _) (Or.inl ⟨rfl, fun l q1 q2 => absurd q2 (by omega)⟩)
    have e1 : (K_fl1 μ (K_reckon μ T) a' b' (nG μ)).1 = M_nx (M_meas μ (nI b')).1 (nI a') (nG μ) (-1) := by
      rcases h1 with ⟨p1, p2⟩ | ⟨m, p1, p2⟩
      · rcases h2 with ⟨q1, q2⟩ | ⟨m', q1, q2⟩
        · rw [p1, q1]
        · exact absurd q1.2.2.1 (p2 m' q1.2.1)
      · rcases h2 with ⟨q1, q2⟩ | ⟨m', q1, q2⟩
        · exact absurd p1.2.2.1 (q2 m p1.2.1)
        · rw [p2, q2, Bst_uniq p1 q1]
    rw [e1]
    unfold M_nextOf
    dsimp only
    rw [hxa, hme a' ha', n1000000]
    by_cases c : ¬ nI a' = nI b' ∧ ¬ nI 1000000 ≤ nI (g a')
    · rw [if_pos c]
    · rw [if_neg c]
      rcases h2 with ⟨q1, -⟩ | ⟨m, q1, q2⟩
      · exact q1
      · exfalso
        obtain ⟨z1, z2, z3⟩ := q1.2.2.1
        have hm : m < nG μ := q1.2.1
        obtain ⟨e, he, hee⟩ := acr_in (a := a') hI (n := m) (by have := nG20 hI; omega)
        obtain ⟨-, -, s, s1, s2, s3⟩ := Lg_of hI hL m hm
        rw [hee, ix_nI (by omega), s3, ix_nI (by omega)] at z3
        apply c
        refine ⟨fun z => ?_, (nI_nle_iff (by omega) (by omega)).mpr ?_⟩
        · have := nI_inj (by omega) (by omega) z
          rw [this, hg.1] at z3
          omega
        · rcases Nat.lt_or_ge (g e) 1000000 with w | w
          · have := Gd_700 hg hD1 7 e he (rn7 he) w
            omega
          · have := hg.2.1 e he
            omega
  · have h3 := w_hi hg hDF (fun a v h => (hD1 a v h).1) (T := K_reckon μ T 0) (fun p q hp hq => by rw [(reckon_at hI hL T hp hq).1, hD]) 8 a' (bitI a') ha' (by have := rn7 (g := g) ha'; omega) (fun n hn hlt => bit_ne a' n ha' hn (by rintro rfl; omega))
    unfold bitI at h3
    rw [h3]
    exact hT
