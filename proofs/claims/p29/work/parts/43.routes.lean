/-! the class's tables and the reference's distances are the same: the least sums -/
/-- what fixes the least sums to b: 0 there; no step makes it less; each is taken by a step -/
def Gd (D : Nat → Nat → Nat) (b : Nat) (g : Nat → Nat) : Prop := g b = 0 ∧ (∀ a, a < 8 → g a ≤ 1000000) ∧ (∀ a v, a < 8 → v < 8 → g a ≤ D a v + g v) ∧ (∀ a, a < 8 → a ≠ b → g a < 1000000 → ∃ v, v < 8 ∧ D a v + g v ≤ g a)
def Fw (L0 : Nat → Nat → Nat) : Nat → Nat → Nat → Nat
  | 0, a, b => L0 a b
  | n + 1, a, b => min (Fw L0 n a b) (Fw L0 n a n + Fw L0 n n b)
def L0 (D : Nat → Nat → Nat) (a b : Nat) : Nat := if a = b then 0 else D a b
theorem Fw_d {D : Nat → Nat → Nat} : ∀ n a, Fw (L0 D) n a a = 0
  | 0, a => if_pos rfl
  | n + 1, a => by rw [Fw, Fw_d n a]; omega
theorem Fw_le {D : Nat → Nat → Nat} (n a b : Nat) : Fw (L0 D) (n + 1) a b ≤ Fw (L0 D) n a b := by rw [Fw]; omega
theorem Fw_0 {D : Nat → Nat → Nat} (a b : Nat) : ∀ n, Fw (L0 D) n a b ≤ L0 D a b
  | 0 => Nat.le_refl _
  | n + 1 => Nat.le_trans (Fw_le n a b) (Fw_0 a b n)
theorem Fw_tri {D : Nat → Nat → Nat} : ∀ n v, v < n → ∀ a b, Fw (L0 D) n a b ≤ Fw (L0 D) n a v + Fw (L0 D) n v b
  | 0, v, h, _, _ => absurd h (by omega)
  | n + 1, v, h, a, b => by
    rw [Fw, Fw, Fw]
    have dn := Fw_d (D := D) n n
    by_cases hv : v = n
    · subst hv
      omega
    · have i1 := Fw_tri (D := D) n v (by omega) a b
      have i2 := Fw_tri (D := D) n v (by omega) n b
      have i3 := Fw_tri (D := D) n v (by omega) a n
      have i4 := Fw_tri (D := D) n v (by omega) n n
      omega
theorem Fw_att {D : Nat → Nat → Nat} : ∀ n, n ≤ 8 → ∀ a b, a ≠ b → b < 8 → Fw (L0 D) n a b < 1000000 → ∃ v, v < 8 ∧ D a v + Fw (L0 D) n v b ≤ Fw (L0 D) n a b
  | 0, _, a, b, h, hb, _ => ⟨b, hb, by show D a b + L0 D b b ≤ L0 D a b; unfold L0; rw [if_pos rfl, if_neg h]; omega⟩
  | n + 1, hn, a, b, h, hb, hF => by
    have e : Fw (L0 D) (n + 1) a b = min (Fw (L0 D) n a b) (Fw (L0 D) n a n + Fw (L0 D) n n b) := rfl
    rcases Nat.lt_or_ge (Fw (L0 D) n a n + Fw (L0 D) n n b) (Fw (L0 D) n a b) with q | q
    · have han : a ≠ n := by rintro rfl; rw [Fw_d] at q; omega
      obtain ⟨v, hv, h1⟩ := Fw_att (D := D) n (by omega) a n han (by omega) (by omega)
      refine ⟨v, hv, ?_⟩
      have e2 : Fw (L0 D) (n + 1) v b = min (Fw (L0 D) n v b) (Fw (L0 D) n v n + Fw (L0 D) n n b) := rfl
      omega
    · obtain ⟨v, hv, h1⟩ := Fw_att (D := D) n (by omega) a b h hb (by omega)
      refine ⟨v, hv, ?_⟩
      have := Fw_le (D := D) n v b
      omega
theorem Fw_F {D : Nat → Nat → Nat} (hD : ∀ a b, D a b ≤ 1000000) (n a b : Nat) : Fw (L0 D) n a b ≤ 1000000 := by
  have h1 := Fw_0 (D := D) a b n
  have h2 := hD a b
  unfold L0 at h1
  unfold L0
  split at h1
  · omega
  · omega
theorem Gd_Fw {D : Nat → Nat → Nat} (hD : ∀ a b, D a b ≤ 1000000) {b : Nat} (hb : b < 8) : Gd D b (fun a => Fw (L0 D) 8 a b) := by
  refine ⟨Fw_d 8 b, fun a _ => Fw_F hD 8 a b, fun a v _ hv => ?_, fun a _ hab hF => Fw_att 8 (Nat.le_refl _) a b hab hb hF⟩
  have h1 := Fw_tri (D := D) 8 v hv a b
  have h2 := Fw_0 (D := D) a v 8
  have h3 : L0 D a v ≤ D a v := by unfold L0; split <;> omega
  show Fw (L0 D) 8 a b ≤ D a v + Fw (L0 D) 8 v b
  omega
/-- how many are nearer -/
def rn (g : Nat → Nat) (a : Nat) : Nat := cnt (fun p => decide (g p < g a)) 8
theorem rn_lt {g : Nat → Nat} {a v : Nat} (hv : v < 8) (h : g v < g a) : rn g v + 1 ≤ rn g a := by
  unfold rn
  refine cnt_lt (q := v) (by simp) (decide_eq_true h) 8 hv (fun p _ hp => ?_)
  have := of_decide_eq_true hp
  exact decide_eq_true (by omega)
theorem rn7 {g : Nat → Nat} {a : Nat} (ha : a < 8) : rn g a ≤ 7 := by
  have := cnt_miss (P := fun p => decide (g p < g a)) (q := a) (by simp) 8 ha
  unfold rn
  omega
theorem Gd_700 {D : Nat → Nat → Nat} {b : Nat} {g : Nat → Nat} (h : Gd D b g) (hD1 : ∀ a v, D a v < 1000000 → 1 ≤ D a v ∧ D a v ≤ 100) : ∀ k a, a < 8 → rn g a ≤ k → g a < 1000000 → g a ≤ 100 * k
  | 0, a, ha, hk, hF => by
    by_cases hab : a = b
    · rw [hab, h.1]; omega
    · obtain ⟨v, hv, h1⟩ := h.2.2.2 a ha hab hF
      have := hD1 a v (by omega)
      have := rn_lt (g := g) (a := a) hv (by omega)
      omega
  | k + 1, a, ha, hk, hF => by
    by_cases hab : a = b
    · rw [hab, h.1]; omega
    · obtain ⟨v, hv, h1⟩ := h.2.2.2 a ha hab hF
      have h2 := hD1 a v (by omega)
      have h3 := rn_lt (g := g) (a := a) hv (by omega)
      have h4 := Gd_700 h hD1 k v hv (by omega) (by omega)
      have h5 := h.2.2.1 a v ha hv
      omega
/-! the direct legs -/
abbrev opn (μ : Mu) (n : Nat) : Prop := μ.1 14 n = 0
def Dn (μ : Mu) : Nat → Nat → Nat → Nat
  | 0, _, _ => 1000000
  | n + 1, a, b => if opn μ n ∧ ((ix (μ.1 11 n) = a ∧ ix (μ.1 12 n) = b) ∨ (ix (μ.1 12 n) = a ∧ ix (μ.1 11 n) = b)) then min (Dn μ n a b) (ix (μ.1 13 n)) else Dn μ n a b
theorem Dn_F (μ : Mu) : ∀ n a b, Dn μ n a b ≤ 1000000
  | 0, _, _ => Nat.le_refl _
  | n + 1, a, b => by
    have := Dn_F μ n a b
    rw [Dn]
    split <;> omega
theorem Dn_leg (μ : Mu) {l : Nat} (ho : opn μ l) {a b : Nat} (he : (ix (μ.1 11 l) = a ∧ ix (μ.1 12 l) = b) ∨ (ix (μ.1 12 l) = a ∧ ix (μ.1 11 l) = b)) : ∀ n, l < n → Dn μ n a b ≤ ix (μ.1 13 l)
  | 0, h => absurd h (by omega)
  | n + 1, h => by
    rw [Dn]
    by_cases hl : l = n
    · subst hl
      rw [if_pos ⟨ho, he⟩]
      omega
    · have := Dn_leg μ ho he n (by omega)
      split <;> omega
theorem Dn_att (μ : Mu) {a b : Nat} : ∀ n, Dn μ n a b < 1000000 → ∃ l, l < n ∧ opn μ l ∧ ((ix (μ.1 11 l) = a ∧ ix (μ.1 12 l) = b) ∨ (ix (μ.1 12 l) = a ∧ ix (μ.1 11 l) = b)) ∧ Dn μ n a b = ix (μ.1 13 l)
  | 0, h => absurd h (Nat.lt_irrefl 1000000)
  | n + 1, h => by
    rw [Dn] at h ⊢
    split at h
    · next q =>
      rw [if_pos q]
      rcases Nat.lt_or_ge (ix (μ.1 13 n)) (Dn μ n a b) with z | z
      · exact ⟨n, by omega, q.1, q.2, by omega⟩
      · obtain ⟨l, h1, h2, h3, h4⟩ := Dn_att μ (a := a) (b := b) n (by omega)
        exact ⟨l, by omega, h2, h3, by omega⟩
    · next q =>
      rw [if_neg q]
      obtain ⟨l, h1, h2, h3, h4⟩ := Dn_att μ n h
      exact ⟨l, by omega, h2, h3, h4⟩
/-- the class's table of direct legs -/
theorem sh_at {T : Tt} {p q d a b : Nat} {f : Nat → Nat → Nat} (hT : ∀ a b, a < 8 → b < 8 → f a b ≤ 1000000 ∧ T 0 (8 * a + b) = nI (f a b)) (hp : p < 8) (hq : q < 8) (hd : d ≤ 100) (ha : a < 8) (hb : b < 8) : K_sh T p q (nI d) 0 (8 * a + b) = nI (if a = p ∧ b = q then min (f a b) d else f a b) := by
  unfold K_sh
  rw [up2_at]
  by_cases h : a = p ∧ b = q
  · obtain ⟨rfl, rfl⟩ := h
    rw [if_pos ⟨rfl, rfl⟩, if_pos ⟨rfl, rfl⟩, (hT a b ha hb).2, min_nI (by have := (hT a b ha hb).1; omega) (by omega)]
  · rw [if_neg (fun z => by omega), if_neg h, (hT a b ha hb).2]
theorem dir_at {μ : Mu} (hI : RI μ) (hL : KL μ) (T : Tt) : ∀ n, n ≤ nG μ → ∀ a b, a < 8 → b < 8 → K_d1 μ n (T_fill T 1000000) 0 (8 * a + b) = nI (Dn μ n a b)
  | 0, _, a, b, ha, hb => by
    show T_fill T 1000000 0 (8 * a + b) = nI 1000000
    unfold T_fill
    rw [if_pos ⟨rfl, by omega⟩]
    exact n1000000
  | n + 1, hn, a, b, ha, hb => by
    have ih := dir_at hI hL T n (by omega)
    obtain ⟨h1, h2, s, s1, s2, s3⟩ := Lg_of hI hL n (by omega)
    have e13 : ix (μ.1 13 n) = s := by rw [s3, ix_nI (by omega)]
    show K_ds μ n (K_d1 μ n (T_fill T 1000000)) 0 (8 * a + b) = _
    rw [Dn, e13]
    unfold K_ds
    by_cases ho : μ.1 14 n = 0
    · rw [if_pos ho, s3]
      have hT : ∀ a b, a < 8 → b < 8 → Dn μ n a b ≤ 1000000 ∧ K_d1 μ n (T_fill T 1000000) 0 (8 * a + b) = nI (Dn μ n a b) := fun a b ha hb => ⟨Dn_F μ n a b, ih a b ha hb⟩
      rw [sh_at (f := fun a b => if a = ix (μ.1 11 n) ∧ b = ix (μ.1 12 n) then min (Dn μ n a b) s else Dn μ n a b) (fun a b ha hb => ⟨by have := Dn_F μ n a b; split <;> omega, sh_at hT h1 h2 s2 ha hb⟩) h2 h1 s2 ha hb]
      congr 1
      by_cases c1 : a = ix (μ.1 11 n) ∧ b = ix (μ.1 12 n)
      · have hc : opn μ n ∧ ((ix (μ.1 11 n) = a ∧ ix (μ.1 12 n) = b) ∨ (ix (μ.1 12 n) = a ∧ ix (μ.1 11 n) = b)) := ⟨ho, Or.inl ⟨c1.1.symm, c1.2.symm⟩⟩
        rw [if_pos hc, if_pos c1]
        split <;> omega
      · by_cases c2 : a = ix (μ.1 12 n) ∧ b = ix (μ.1 11 n)
        · have hc : opn μ n ∧ ((ix (μ.1 11 n) = a ∧ ix (μ.1 12 n) = b) ∨ (ix (μ.1 12 n) = a ∧ ix (μ.1 11 n) = b)) := ⟨ho, Or.inr ⟨c2.1.symm, c2.2.symm⟩⟩
          rw [if_pos hc, if_pos c2, if_neg c1]
        · rw [if_neg c2, if_neg c1, if_neg (fun z => z.2.elim (fun y => c1 ⟨y.1.symm, y.2.symm⟩) (fun y => c2 ⟨y.1.symm, y.2.symm⟩))]
    · rw [if_neg ho, ih a b ha hb, if_neg (fun z => ho z.1)]
/-- the class's table of least sums -/
theorem l1_at {T : Tt} {f : Nat → Nat → Nat} (hT : ∀ a b, a < 8 → b < 8 → T 1 (8 * a + b) = nI (f a b)) : ∀ n, n ≤ 8 → ∀ a b, a < 8 → b < 8 → K_l1 n T 1 (8 * a + b) = nI (if a = b ∧ a < n then 0 else f a b)
  | 0, _, a, b, ha, hb => by rw [if_neg (by omega)]; exact hT a b ha hb
  | n + 1, hn, a, b, ha, hb => by
    rw [K_l1, up2_at]
    by_cases h : a = n ∧ b = n
    · rw [if_pos ⟨rfl, by omega⟩, if_pos (by omega)]; rfl
    · rw [if_neg (fun z => by omega), l1_at hT n (by omega) a b ha hb]
      congr 1
      by_cases h2 : a = b ∧ a < n
      · rw [if_pos h2, if_pos (by omega)]
      · rw [if_neg h2, if_neg (by omega)]
theorem l1_ne (T : Tt) {j : Nat} (hj : j ≠ 1) : ∀ n, K_l1 n T j = T j
  | 0 => rfl
  | n + 1 => by rw [K_l1, up2_ne _ _ _ _ _ hj, l1_ne T hj n]
theorem f1_ne (v a : Nat) (T : Tt) {j : Nat} (hj : j ≠ 1) : ∀ n, K_f1 v a n T j = T j
  | 0 => rfl
  | n + 1 => by rw [K_f1, up2_ne _ _ _ _ _ hj, f1_ne v a T hj n]
theorem f2_ne (v : Nat) (T : Tt) {j : Nat} (hj : j ≠ 1) : ∀ n, K_f2 v n T j = T j
  | 0 => rfl
  | n + 1 => by rw [K_f2, f1_ne v n _ hj 8, f2_ne v T hj n]
theorem f3_ne (T : Tt) {j : Nat} (hj : j ≠ 1) : ∀ n, K_f3 n T j = T j
  | 0 => rfl
  | n + 1 => by rw [K_f3, f2_ne n _ hj 8, f3_ne T hj n]
theorem f1_at {T : Tt} {f : Nat → Nat → Nat} {v r : Nat} (hv : v < 8) (hr : r < 8) (hF : ∀ a b, f a b ≤ 1000000) (hT : ∀ a b, a < 8 → b < 8 → T 1 (8 * a + b) = nI (f a b)) (h0 : f v v = 0) : ∀ n, n ≤ 8 → ∀ a b, a < 8 → b < 8 → K_f1 v r n T 1 (8 * a + b) = nI (if a = r ∧ b < n then min (f a b) (f a v + f v b) else f a b)
  | 0, _, a, b, ha, hb => by rw [if_neg (by omega)]; exact hT a b ha hb
  | n + 1, hn, a, b, ha, hb => by
    have ih := f1_at hv hr hF hT h0 n (by omega)
    rw [K_f1, up2_at]
    by_cases h : a = r ∧ b = n
    · obtain ⟨rfl, rfl⟩ := h
      rw [if_pos ⟨rfl, rfl⟩, if_pos ⟨rfl, by omega⟩, ih a b ha hb, ih a v ha hv, ih v b hv hb]
      rw [if_neg (show ¬ (a = a ∧ b < b) by omega), if_neg (show ¬ (v = a ∧ b < b) by omega)]
      have e1 : (if a = a ∧ v < b then min (f a v) (f a v + f v v) else f a v) = f a v := by rw [h0]; split <;> omega
      have := hF a b; have := hF a v; have := hF v b
      rw [e1, nI_add, min_nI (by omega) (by omega)]
    · rw [if_neg (fun z => by omega), ih a b ha hb]
      congr 1
      by_cases h2 : a = r ∧ b < n
      · rw [if_pos h2, if_pos (by omega)]
      · rw [if_neg h2, if_neg (by omega)]
theorem f2_at {T : Tt} {f : Nat → Nat → Nat} {v : Nat} (hv : v < 8) (hF : ∀ a b, f a b ≤ 1000000) (hT : ∀ a b, a < 8 → b < 8 → T 1 (8 * a + b) = nI (f a b)) (h0 : f v v = 0) : ∀ n, n ≤ 8 → ∀ a b, a < 8 → b < 8 → K_f2 v n T 1 (8 * a + b) = nI (if a < n then min (f a b) (f a v + f v b) else f a b)
  | 0, _, a, b, ha, hb => by rw [if_neg (by omega)]; exact hT a b ha hb
  | n + 1, hn, a, b, ha, hb => by
    have ih := f2_at hv hF hT h0 n (by omega)
    rw [K_f2]
    have key := f1_at (f := fun a b => if a < n then min (f a b) (f a v + f v b) else f a b) hv (show n < 8 by omega) (fun a b => by have := hF a b; split <;> omega) ih (by rw [h0]; split <;> omega) 8 (Nat.le_refl _) a b ha hb
    rw [key]
    congr 1
    by_cases h1 : a = n
    · subst h1
      have e1 : (if v < a then min (f v b) (f v v + f v b) else f v b) = f v b := by rw [h0]; split <;> omega
      rw [if_pos ⟨rfl, hb⟩, e1, if_neg (Nat.lt_irrefl a), if_neg (Nat.lt_irrefl a), if_pos (Nat.lt_succ_self a)]
    · rw [if_neg (fun z => h1 z.1)]
      by_cases h2 : a < n
      · rw [if_pos h2, if_pos (by omega)]
      · rw [if_neg h2, if_neg (by omega)]
theorem f3_at {T : Tt} {D : Nat → Nat → Nat} (hD : ∀ a b, D a b ≤ 1000000) (hT : ∀ a b, a < 8 → b < 8 → T 1 (8 * a + b) = nI (L0 D a b)) : ∀ n, n ≤ 8 → ∀ a b, a < 8 → b < 8 → K_f3 n T 1 (8 * a + b) = nI (Fw (L0 D) n a b)
  | 0, _, a, b, ha, hb => hT a b ha hb
  | n + 1, hn, a, b, ha, hb => by
    have ih := f3_at hD hT n (by omega)
    rw [K_f3, f2_at (f := Fw (L0 D) n) (show n < 8 by omega) (Fw_F hD n) ih (Fw_d n n) 8 (Nat.le_refl _) a b ha hb, if_pos ha]
    rfl
theorem least_at {T : Tt} {D : Nat → Nat → Nat} (hD : ∀ a b, D a b ≤ 1000000) (hT : ∀ a b, a < 8 → b < 8 → T 0 (8 * a + b) = nI (D a b)) {a b : Nat} (ha : a < 8) (hb : b < 8) : K_least T 1 (8 * a + b) = nI (Fw (L0 D) 8 a b) := by
  refine f3_at hD (fun a b ha hb => ?_) 8 (Nat.le_refl _) a b ha hb
  rw [l1_at (f := D) (fun a b ha hb => ?_) 8 (Nat.le_refl _) a b ha hb]
  · unfold L0
    by_cases h : a = b
    · rw [if_pos h, if_pos ⟨h, ha⟩]
    · rw [if_neg h, if_neg (fun z => h z.1)]
  · unfold T_copy
    rw [if_pos ⟨rfl, by omega⟩]
    exact hT a b ha hb
theorem least_0 (T : Tt) {j : Nat} (hj : j ≠ 1) : K_least T j = T j := by
  unfold K_least
  rw [f3_ne _ hj, l1_ne _ hj]
  funext i
  exact if_neg (fun z => hj z.1)
theorem o1_ne (μ : Mu) (a : Nat) (T : Tt) {j : Nat} (hj : j ≠ 2) : ∀ n, K_o1 μ a n T j = T j
  | 0 => rfl
  | n + 1 => by rw [K_o1, up2_ne _ _ _ _ _ hj, o1_ne μ a T hj n]
theorem o2_ne (μ : Mu) (T : Tt) {j : Nat} (hj : j ≠ 2) : ∀ n, K_o2 μ n T j = T j
  | 0 => rfl
  | n + 1 => by rw [K_o2, o1_ne μ n _ hj 8, o2_ne μ T hj n]
theorem fl1_congr (μ : Mu) {T T' : Tt} (h : T' 1 = T 1) (a b : Nat) : ∀ n, K_fl1 μ T' a b n = K_fl1 μ T a b n
  | 0 => rfl
  | n + 1 => by rw [K_fl1, K_fl1, fl1_congr μ h a b n]; unfold K_fls; rw [h]
theorem o1_at (μ : Mu) (r : Nat) (T : Tt) (hr : r < 8) : ∀ n, n ≤ 8 → ∀ a b, a < 8 → b < 8 → K_o1 μ r n T 2 (8 * a + b) = if a = r ∧ b < n then (K_fl1 μ T a b (nG μ)).1 else T 2 (8 * a + b)
  | 0, _, a, b, ha, hb => by rw [if_neg (by omega)]; rfl
  | n + 1, hn, a, b, ha, hb => by
    rw [K_o1, up2_at]
    by_cases h : a = r ∧ b = n
    · obtain ⟨rfl, rfl⟩ := h
      rw [if_pos ⟨rfl, rfl⟩, if_pos ⟨rfl, by omega⟩, fl1_congr μ (o1_ne μ a T (by decide) b)]
    · rw [if_neg (fun z => by omega), o1_at μ r T hr n (by omega) a b ha hb]
      by_cases h2 : a = r ∧ b < n
      · rw [if_pos h2, if_pos (by omega)]
      · rw [if_neg h2, if_neg (by omega)]
theorem o2_at (μ : Mu) (T : Tt) : ∀ n, n ≤ 8 → ∀ a b, a < 8 → b < 8 → K_o2 μ n T 2 (8 * a + b) = if a < n then (K_fl1 μ T a b (nG μ)).1 else T 2 (8 * a + b)
  | 0, _, a, b, ha, hb => by rw [if_neg (by omega)]; rfl
  | n + 1, hn, a, b, ha, hb => by
    rw [K_o2, o1_at μ n _ (by omega) 8 (Nat.le_refl _) a b ha hb]
    by_cases h : a = n
    · subst h
      rw [if_pos ⟨rfl, hb⟩, if_pos (by omega), fl1_congr μ (o2_ne μ T (by decide) a)]
    · rw [if_neg (fun z => h z.1), o2_at μ T n (by omega) a b ha hb]
      by_cases h2 : a < n
      · rw [if_pos h2, if_pos (by omega)]
      · rw [if_neg h2, if_neg (by omega)]
/-- what the tables hold -/
theorem reckon_at {μ : Mu} (hI : RI μ) (hL : KL μ) (T : Tt) {a b : Nat} (ha : a < 8) (hb : b < 8) : K_reckon μ T 0 (8 * a + b) = nI (Dn μ (nG μ) a b) ∧ K_reckon μ T 1 (8 * a + b) = nI (Fw (L0 (Dn μ (nG μ))) 8 a b) ∧ K_reckon μ T 2 (8 * a + b) = (K_fl1 μ (K_reckon μ T) a b (nG μ)).1 := by
  have hd : ∀ a b, a < 8 → b < 8 → K_dir μ T 0 (8 * a + b) = nI (Dn μ (nG μ) a b) := fun a b ha hb => dir_at hI hL T (nG μ) (Nat.le_refl _) a b ha hb
  have e1 : K_reckon μ T 1 = K_least (K_dir μ T) 1 := o2_ne μ _ (by decide) 8
  refine ⟨?_, ?_, ?_⟩
  · unfold K_reckon
    rw [o2_ne μ _ (by decide) 8, least_0 _ (by decide)]
    exact hd a b ha hb
  · rw [e1]
    exact least_at (Dn_F μ _) hd ha hb
  · rw [fl1_congr μ e1]
    unfold K_reckon
    rw [o2_at μ _ 8 (Nat.le_refl _) a b ha hb, if_pos ha]
