/-! what a day's steps do, thing by thing; sums -/
theorem i64_1 (x f g : Int64) : x + g = x + f + (g - f) := by grind
theorem i64_2 (x f g d : Int64) : x + d + f = x + f + d := by grind
theorem i64_3 (x c d : Int64) : x + (d - c - d) + c = x := by grind
theorem sm_upd {f g : Nat → Int64} {a : Nat} (h : ∀ i, i ≠ a → g i = f i) : ∀ n, sm g n = sm f n + (if a < n then g a - f a else 0)
  | 0 => by rw [if_neg (Nat.not_lt_zero a)]; show (0 : Int64) = 0 + 0; decide
  | n + 1 => by
    rw [sm, sm, sm_upd h n]
    by_cases h1 : a < n
    · rw [if_pos h1, if_pos (by omega), h n (by omega)]
      grind
    · by_cases h2 : a = n
      · subst h2
        rw [if_neg h1, if_pos (by omega)]
        grind
      · rw [if_neg h1, if_neg (by omega), h n (by omega)]
        grind
theorem sm_same {f g : Nat → Int64} {n : Nat} (h : ∀ i, i < n → g i = f i) : sm g n = sm f n := by
  induction n with
  | zero => rfl
  | succ n ih => rw [sm, sm, ih (fun i hi => h i (by omega)), h n (by omega)]
theorem sm_pays {μ : Mu} {a b n : Nat} (ha : a < n) (hb : b < n) (c : Int64) : sm ((M_pays μ a b c).2 7) n = sm (μ.2 7) n := by
  have e1 := sm_upd (f := μ.2 7) (g := up2 μ.2 7 a (μ.2 7 a - c) 7) (a := a) (fun i hi => by rw [up2_at, if_neg (fun z => hi z.2)]) n
  have e2 := sm_upd (f := up2 μ.2 7 a (μ.2 7 a - c) 7) (g := (M_pays μ a b c).2 7) (a := b) (fun i hi => by
    show up2 (up2 μ.2 7 a (μ.2 7 a - c)) 7 b _ 7 i = _
    rw [up2_at, if_neg (fun z => hi z.2)]) n
  have e3 : (M_pays μ a b c).2 7 b = up2 μ.2 7 a (μ.2 7 a - c) 7 b + c := by
    show up2 (up2 μ.2 7 a (μ.2 7 a - c)) 7 b _ 7 b = _
    rw [up2_at, if_pos ⟨rfl, rfl⟩]
  have e4 : up2 μ.2 7 a (μ.2 7 a - c) 7 a = μ.2 7 a - c := by rw [up2_at, if_pos ⟨rfl, rfl⟩]
  rw [if_pos hb, e1, if_pos ha, e3, e4] at e2
  rw [e2]
  grind
theorem pays_8 {μ : Mu} {a b : Nat} {c : Int64} {j : Nat} (h : j ≠ 7) : (M_pays μ a b c).2 j = μ.2 j := by
  show up2 (up2 μ.2 7 a (μ.2 7 a - c)) 7 b _ j = _
  rw [up2_ne _ _ _ _ _ h, up2_ne _ _ _ _ _ h]
theorem rate_n {μ : Mu} (hK : KI μ) (j i : Nat) (hj : j = 1 ∨ j = 2) : ∃ a, a ≤ 10000 ∧ μ.1 j i = nI a := by
  rcases hj with rfl | rfl
  · exact inR_k (by decide) (hK.2.2.1.2 i).1
  · exact inR_k (by decide) (hK.2.2.1.2 i).2
theorem tax_lN {μ : Mu} (hK : KI μ) {t q : Nat} (hq : q ≤ 1000050) (e22 : μ.1 22 t = nI q) : ∃ y, y ≤ 20001000000 ∧ M_taxOf μ t = lN y ∧ (0 < y → 0 < q) := by
  obtain ⟨a, ha, ea⟩ := rate_n hK 1 (ix (3 * μ.1 18 t)) (Or.inl rfl)
  obtain ⟨b, hb, eb⟩ := rate_n hK 1 (ix (3 * μ.1 19 t)) (Or.inl rfl)
  unfold M_taxOf
  rw [ea, eb, e22, nI_l (by omega), nI_l (by omega), nI_l (by omega), show (2 : Int64) = lN 2 from rfl, lN_mul, lN_mul]
  by_cases h0 : nI a = 0
  · rw [if_pos h0]
    exact ⟨2 * q, by omega, rfl, fun h => by omega⟩
  · rw [if_neg h0]
    have h1 : 0 < a := by
      rcases Nat.eq_zero_or_pos a with z | z
      · exact absurd (by rw [z]; rfl) h0
      · exact z
    have hm : 2 * q * b ≤ 20001000000 := by
      have := Nat.mul_le_mul (show 2 * q ≤ 2000100 by omega) hb
      omega
    have hd : 2 * q * b / a ≤ 2 * q * b := Nat.div_le_self _ _
    rw [pk_lDiv (by omega) h1 (by omega)]
    refine ⟨2 * q * b / a, by omega, rfl, fun h => ?_⟩
    rcases Nat.eq_zero_or_pos q with z | z
    · rw [z] at h; simp at h
    · exact z
theorem i32_pos {x : Int32} (h : ¬ x ≤ 0) (h2 : x - 1 ≤ 0) : x - 1 = 0 := by
  obtain ⟨j, hj, e⟩ := nI_of (x := x) (fun z => h (Int32.le_of_lt z))
  subst e
  have h0 : j ≠ 0 := fun z => h (by rw [z]; decide)
  obtain ⟨i, rfl⟩ : ∃ i, j = i + 1 := ⟨j - 1, by omega⟩
  rw [nI_pred] at h2 ⊢
  rcases Nat.eq_zero_or_pos i with z | z
  · rw [z]; rfl
  · exact absurd h2 (nI_nle z (by omega))
/-- what a delivery pays -/
def Mon (μ μ' : Mu) (t : Nat) : Prop := ∃ y, y ≤ 20001000000 ∧ (∀ p, μ'.2 8 p = if p = ix (μ.1 19 t) then μ.2 8 p + lN y else μ.2 8 p) ∧ ∀ n, ix (μ.1 18 t) < n → ix (μ.1 19 t) < n → sm (μ'.2 7) n = sm (μ.2 7) n
theorem comes_view {μ : Mu} (hI : RI μ) (hK : KI μ) {t q : Nat} (ht : t < nT μ) (hq : q ≤ 1000050) (e22 : μ.1 22 t = nI q) : ((M_comes μ t).1 = 0 ∧ (M_comes μ t).2.1 = up2 (up2 μ.1 27 t 1) 19 t (μ.1 18 t) ∧ ¬ μ.1 19 t = μ.1 18 t ∧ (M_comes μ t).2.2 = μ.2) ∨ ((M_comes μ t).1 = 1 ∧ (M_comes μ t).2.1 = up2 μ.1 23 t 2 ∧ Mon μ (M_comes μ t).2 t) := by
  unfold M_comes
  split
  · next h => exact Or.inl ⟨rfl, rfl, h.2.2.2, rfl⟩
  · right
    split
    · next h27 =>
      obtain ⟨y, hy, ey, -⟩ := tax_lN hK hq e22
      dsimp only
      have e8 : ∀ p, up2 μ.2 8 (ix (μ.1 19 t)) (μ.2 8 (ix (μ.1 19 t)) + M_taxOf μ t) 8 p = if p = ix (μ.1 19 t) then μ.2 8 p + lN y else μ.2 8 p := by
        intro p
        rw [up2_at, ey]
        by_cases hp : p = ix (μ.1 19 t)
        · rw [if_pos ⟨rfl, hp⟩, if_pos hp, hp]
        · rw [if_neg (fun z => hp z.2), if_neg hp]
      have e7 : up2 μ.2 8 (ix (μ.1 19 t)) (μ.2 8 (ix (μ.1 19 t)) + M_taxOf μ t) 7 = μ.2 7 := up2_ne _ _ _ _ _ (by decide)
      refine ⟨rfl, ?_, y, hy, ?_, ?_⟩
      · split
        · rfl
        · split <;> rfl
      · intro p
        split
        · rw [pays_8 (by decide)]; exact e8 p
        · split
          · have h9 : ∀ (f : Nat → Nat → Int64) (i : Nat) (v : Int64), up2 f 9 i v 8 = f 8 := fun f i v => up2_ne _ _ _ _ _ (by decide)
            simp only [h9]
            exact e8 p
          · exact e8 p
      · intro n h1 h2
        split
        · rw [sm_pays h1 h2]
          exact congrArg (fun z => sm z n) e7
        · split
          · have h9 : ∀ (f : Nat → Nat → Int64) (i : Nat) (v : Int64), up2 f 9 i v 7 = f 7 := fun f i v => up2_ne _ _ _ _ _ (by decide)
            simp only [h9]
            exact congrArg (fun z => sm z n) e7
          · exact congrArg (fun z => sm z n) e7
    · refine ⟨rfl, rfl, 0, by decide, fun p => ?_, fun n _ _ => rfl⟩
      split
      · show μ.2 8 p = μ.2 8 p + lN 0
        rw [show lN 0 = 0 from rfl, Int64.add_zero]
      · rfl
/-- a thing that is signed -/
def Sgd (μ μ' : Mu) (tb tb' : Tb) (t : Nat) : Prop := (μ.1 21 t = 0 ∧ μ'.1 35 t = μ.1 35 t ∧ tb' = tb) ∨ (¬ μ.1 21 t = 0 ∧ ∃ n, n ≤ 1800 ∧ μ.1 35 t = nI n ∧ μ'.1 35 t = nI (n + 1) ∧ tb'.2.1 t n = μ.1 24 t ∧ tb'.2.2 t ≤ tb.2.2 t + (if n < tb.2.2 t then 0 else n))
/-- other things stay -/
def Oth (μ μ' : Mu) (tb tb' : Tb) (t : Nat) : Prop := (∀ a, a ≠ t → (∀ j, j = 19 ∨ j = 23 ∨ j = 24 ∨ j = 26 ∨ j = 27 ∨ j = 35 → μ'.1 j a = μ.1 j a) ∧ tb'.2.1 a = tb.2.1 a ∧ tb'.2.2 a = tb.2.2 a) ∧ ∀ j, kep j = true → μ'.1 j = μ.1 j
theorem trav_view {μ : Mu} {tb : Tb} {M : Nat} (hG : GI μ tb M) (hM : M ≤ 3600) {t q : Nat} (ht : t < nT μ) (hq : q ≤ 1000050) (e22 : μ.1 22 t = nI q) : Oth μ (M_travels μ t).2 tb (KT_trav μ tb t) t ∧
    ((¬ μ.1 26 t - 1 ≤ 0 ∧ (M_travels μ t).1 = 0 ∧ (M_travels μ t).2.1 = up2 μ.1 26 t (μ.1 26 t - 1) ∧ (M_travels μ t).2.2 = μ.2 ∧ KT_trav μ tb t = tb) ∨
     (μ.1 26 t - 1 ≤ 0 ∧ (M_travels μ t).2.1 26 t = μ.1 26 t - 1 ∧ (M_travels μ t).2.1 24 t = μ.1 24 t ∧ Sgd μ (M_travels μ t).2 tb (KT_trav μ tb t) t ∧
      (((M_travels μ t).1 = 0 ∧ (M_travels μ t).2.1 23 t = 0 ∧ (M_travels μ t).2.1 19 t = μ.1 19 t ∧ ¬ μ.1 24 t = μ.1 19 t ∧ (M_travels μ t).2.2 = μ.2) ∨
       ((M_travels μ t).1 = 0 ∧ (M_travels μ t).2.1 23 t = 0 ∧ μ.1 24 t = μ.1 19 t ∧ (M_travels μ t).2.1 19 t = μ.1 18 t ∧ ¬ μ.1 19 t = μ.1 18 t ∧ (M_travels μ t).2.2 = μ.2) ∨
       ((M_travels μ t).1 = 1 ∧ (M_travels μ t).2.1 23 t = 2 ∧ (M_travels μ t).2.1 19 t = μ.1 19 t ∧ μ.1 24 t = μ.1 19 t ∧ Mon μ (M_travels μ t).2 t)))) := by
  obtain ⟨hI, hK, ⟨cl, hH⟩, hTS, hB⟩ := hG
  have h40 : t < 40 := by have := nT40 hI; omega
  have hkep : ∀ j, kep j = true → (M_travels μ t).2.1 j = μ.1 j := fun j hj => kep_travels μ t hj
  by_cases hl : ¬ μ.1 26 t - 1 ≤ 0
  · have e := trav_0 hl
    have ek := KT_trav_0 (tb := tb) hl
    refine ⟨⟨fun a ha => ⟨fun j hj => ?_, by rw [ek], by rw [ek]⟩, hkep⟩, Or.inl ⟨hl, by rw [e], by rw [e], by rw [e], ek⟩⟩
    rw [e]
    show up2 μ.1 26 t _ j a = _
    rw [up2_at, if_neg (fun z => ha z.2)]
  · have hl' : μ.1 26 t - 1 ≤ 0 := Classical.not_not.mp hl
    obtain ⟨ν, hν⟩ : ∃ ν, ν = M_signs (Ar μ t) t (μ.1 24 t) := ⟨_, rfl⟩
    have e := trav_1 hl' hν
    have ek := KT_trav_2 (tb := tb) hl'
    obtain ⟨n, e35, n1, n2, n3, n4, n5, n6⟩ := hH.len ht
    have hn1 : n ≤ 1800 := by rw [← n6]; exact hB.h hM ht
    have hS : ¬ (80000 : Int32) ≤ (Ar μ t).1 30 0 := by rw [Ar_ne (by decide)]; exact hB.S hI hM
    have f : ∀ j, j ≠ 26 ∧ j ≠ 23 ∧ j ≠ 25 → j ≠ 30 ∧ j ≠ 31 ∧ j ≠ 32 ∧ j ≠ 33 ∧ j ≠ 34 ∧ j ≠ 35 → ν.1 j = μ.1 j := fun j h1 h2 => by rw [hν, sg_ne _ _ _ h2, Ar_ne h1]
    have fA : ∀ j, j ≠ 30 ∧ j ≠ 31 ∧ j ≠ 32 ∧ j ≠ 33 ∧ j ≠ 34 ∧ j ≠ 35 → ν.1 j = (Ar μ t).1 j := fun j h2 => by rw [hν, sg_ne _ _ _ h2]
    have f23 : ∀ a, ν.1 23 a = if a = t then 0 else μ.1 23 a := by
      intro a
      rw [fA 23 (by decide)]
      show up2 (up2 (up2 μ.1 26 t (μ.1 26 t - 1)) 23 t 0) 25 t (-1) 23 a = _
      rw [up2_ne _ _ _ _ _ (by decide), up2_at]
      by_cases ha : a = t
      · rw [if_pos ⟨rfl, ha⟩, if_pos ha]
      · rw [if_neg (fun z => ha z.2), if_neg ha, up2_ne _ _ _ _ _ (by decide)]
    have f26 : ∀ a, ν.1 26 a = if a = t then μ.1 26 t - 1 else μ.1 26 a := by
      intro a
      rw [fA 26 (by decide)]
      show up2 (up2 (up2 μ.1 26 t (μ.1 26 t - 1)) 23 t 0) 25 t (-1) 26 a = _
      rw [up2_ne _ _ _ _ _ (by decide), up2_ne _ _ _ _ _ (by decide), up2_at]
      by_cases ha : a = t
      · rw [if_pos ⟨rfl, ha⟩, if_pos ha]
      · rw [if_neg (fun z => ha z.2), if_neg ha]
    have hsc := signs_com (μ := Ar μ t) (t := t) (v := μ.1 24 t) hS
    have f35 : ν.1 35 = (KM_sign (Ar μ t) t).1 35 := by rw [hν]; exact hsc.1 35 rfl
    have ν2 : ν.2 = μ.2 := by
      rw [hν, hsc.2]
      unfold KM_sign
      split <;> rfl
    have f35o : ∀ a, a ≠ t → ν.1 35 a = μ.1 35 a := by
      intro a ha
      rw [f35]
      unfold KM_sign
      split
      · rw [Ar_ne (by decide)]
      · show up2 (Ar μ t).1 35 t _ 35 a = _
        rw [up2_at, if_neg (fun z => ha z.2), Ar_ne (by decide)]
    have f35t : (μ.1 21 t = 0 → ν.1 35 t = μ.1 35 t) ∧ (¬ μ.1 21 t = 0 → ν.1 35 t = nI (n + 1)) := by
      rw [f35]
      unfold KM_sign
      rw [show (Ar μ t).1 21 t = μ.1 21 t from by rw [Ar_ne (by decide)]]
      refine ⟨fun h => ?_, fun h => ?_⟩
      · rw [if_pos h, Ar_ne (by decide)]
      · rw [if_neg h]
        show up2 (Ar μ t).1 35 t _ 35 t = _
        rw [up2_at, if_pos ⟨rfl, rfl⟩, Ar_ne (by decide), e35, nI_1]
    have hcom : (M_travels μ t).2.2 = μ.2 ∨ True := Or.inr trivial
    -- the tables' rows
    have hkt : (∀ a, a ≠ t → (KT_trav μ tb t).2.1 a = tb.2.1 a ∧ (KT_trav μ tb t).2.2 a = tb.2.2 a) ∧ (μ.1 21 t = 0 → KT_trav μ tb t = tb) ∧ (¬ μ.1 21 t = 0 → (KT_trav μ tb t).2.1 t n = μ.1 24 t ∧ (KT_trav μ tb t).2.2 t ≤ tb.2.2 t + (if n < tb.2.2 t then 0 else n)) := by
      rw [ek]
      unfold KT_sign
      rw [n6]
      by_cases h21 : μ.1 21 t = 0
      · rw [if_pos h21]
        exact ⟨fun _ _ => ⟨rfl, rfl⟩, fun _ => rfl, fun h => absurd h21 h⟩
      · rw [if_neg h21]
        by_cases hc : n < tb.2.2 t
        · rw [if_pos hc]
          refine ⟨fun a ha => ⟨?_, rfl⟩, fun h => absurd h h21, fun _ => ⟨?_, ?_⟩⟩
          · funext b
            show up2 tb.2.1 t n _ a b = _
            rw [up2_at, if_neg (fun z => ha z.1)]
          · show up2 tb.2.1 t n _ t n = _
            rw [up2_at, if_pos ⟨rfl, rfl⟩]
          · show tb.2.2 t ≤ _
            omega
        · rw [if_neg hc]
          unfold KT_grow
          refine ⟨fun a ha => ⟨?_, ?_⟩, fun h => absurd h h21, fun _ => ⟨?_, ?_⟩⟩
          · funext b
            show up2 (fun a b => if a = t ∧ ¬ b < tb.2.2 t then 0 else tb.2.1 a b) t n _ a b = _
            rw [up2_at, if_neg (fun z => ha z.1), if_neg (fun z => ha z.1)]
          · show (if a = t then _ else _) = _
            rw [if_neg ha]
          · show up2 (fun a b => if a = t ∧ ¬ b < tb.2.2 t then 0 else tb.2.1 a b) t n _ t n = _
            rw [up2_at, if_pos ⟨rfl, rfl⟩]
          · show (if t = t then 2 * tb.2.2 t else tb.2.2 t) ≤ _
            rw [if_pos rfl, if_neg hc]
            omega
    have hsg : ∀ μ' : Mu, μ'.1 35 t = ν.1 35 t → Sgd μ μ' tb (KT_trav μ tb t) t := by
      intro μ' h
      by_cases h21 : μ.1 21 t = 0
      · exact Or.inl ⟨h21, h.trans (f35t.1 h21), hkt.2.1 h21⟩
      · exact Or.inr ⟨h21, n, hn1, e35, h.trans (f35t.2 h21), (hkt.2.2 h21).1, (hkt.2.2 h21).2⟩
    have hIν : RI ν := by rw [hν]; exact RI_signs (Ar_RI hI t) t _
    have e24 : ν.1 24 = μ.1 24 := f 24 (by decide) (by decide)
    have e19 : ν.1 19 = μ.1 19 := f 19 (by decide) (by decide)
    have e18 : ν.1 18 = μ.1 18 := f 18 (by decide) (by decide)
    have e27 : ν.1 27 = μ.1 27 := f 27 (by decide) (by decide)
    by_cases hat : ν.1 24 t = ν.1 19 t
    · rw [if_pos hat] at e
      have hat' : μ.1 24 t = μ.1 19 t := by rw [← e24, ← e19]; exact hat
      have hKν : KI ν := by
        rw [hν]
        refine KI_signs ?_ (show t < nT (Ar μ t) by unfold nT; rw [Ar_ne (by decide)]; exact ht) _
        exact KI_up (KI_up (KI_up (A := μ.1) (J := μ.2) hK (okKt (Or.inl rfl) ht _)) (okKF rfl _ _)) (okK25 (Or.inl rfl) _)
      rcases comes_view hIν hKν (t := t) (q := q) (by unfold nT; rw [f 16 (by decide) (by decide)]; exact ht) hq (by rw [f 22 (by decide) (by decide)]; exact e22) with ⟨g0, g1, g2, g3⟩ | ⟨g0, g1, g2⟩
      · refine ⟨⟨fun a ha => ⟨fun j hj => ?_, hkt.1 a ha⟩, hkep⟩, Or.inr ⟨hl', ?_, ?_, ?_, Or.inr (Or.inl ⟨by rw [e]; exact g0, ?_, hat', ?_, ?_, ?_⟩)⟩⟩
        · rw [e, g1, up2_at, if_neg (fun z => ha z.2), up2_at, if_neg (fun z => ha z.2)]
          rcases hj with rfl | rfl | rfl | rfl | rfl | rfl
          · rw [e19]
          · rw [f23, if_neg ha]
          · rw [e24]
          · rw [f26, if_neg ha]
          · rw [e27]
          · exact f35o a ha
        · rw [e, g1, up2_ne _ _ _ _ _ (by decide), up2_ne _ _ _ _ _ (by decide), f26, if_pos rfl]
        · rw [e, g1, up2_ne _ _ _ _ _ (by decide), up2_ne _ _ _ _ _ (by decide), e24]
        · exact hsg _ (by rw [e, g1, up2_ne _ _ _ _ _ (by decide), up2_ne _ _ _ _ _ (by decide)])
        · rw [e, g1, up2_ne _ _ _ _ _ (by decide), up2_ne _ _ _ _ _ (by decide), f23, if_pos rfl]
        · rw [e, g1, up2_at, if_pos ⟨rfl, rfl⟩, e18]
        · rw [← e19, ← e18]; exact g2
        · rw [e, g3, ν2]
      · refine ⟨⟨fun a ha => ⟨fun j hj => ?_, hkt.1 a ha⟩, hkep⟩, Or.inr ⟨hl', ?_, ?_, ?_, Or.inr (Or.inr ⟨by rw [e]; exact g0, ?_, ?_, hat', ?_⟩)⟩⟩
        · rw [e, g1, up2_at, if_neg (fun z => ha z.2)]
          rcases hj with rfl | rfl | rfl | rfl | rfl | rfl
          · rw [e19]
          · rw [f23, if_neg ha]
          · rw [e24]
          · rw [f26, if_neg ha]
          · rw [e27]
          · exact f35o a ha
        · rw [e, g1, up2_ne _ _ _ _ _ (by decide), f26, if_pos rfl]
        · rw [e, g1, up2_ne _ _ _ _ _ (by decide), e24]
        · exact hsg _ (by rw [e, g1, up2_ne _ _ _ _ _ (by decide)])
        · rw [e, g1, up2_at, if_pos ⟨rfl, rfl⟩]
        · rw [e, g1, up2_ne _ _ _ _ _ (by decide), e19]
        · rw [e]
          obtain ⟨y, y1, y2, y3⟩ := g2
          rw [e19] at y2 y3
          rw [e18] at y3
          rw [ν2] at y2 y3
          exact ⟨y, y1, y2, y3⟩
    · rw [if_neg hat] at e
      refine ⟨⟨fun a ha => ⟨fun j hj => ?_, hkt.1 a ha⟩, hkep⟩, Or.inr ⟨hl', ?_, ?_, ?_, Or.inl ⟨by rw [e], ?_, ?_, ?_, ?_⟩⟩⟩
      · rw [e]
        rcases hj with rfl | rfl | rfl | rfl | rfl | rfl
        · rw [e19]
        · rw [f23, if_neg ha]
        · rw [e24]
        · rw [f26, if_neg ha]
        · rw [e27]
        · exact f35o a ha
      · rw [e, f26, if_pos rfl]
      · rw [e, e24]
      · exact hsg _ (by rw [e])
      · rw [e, f23, if_pos rfl]
      · rw [e, e19]
      · rw [← e24, ← e19]; exact hat
      · rw [e, ν2]
theorem leav_view {μ : Mu} {tb : Tb} {M : Nat} (hG : GI μ tb M) {t : Nat} (ht : t < nT μ) : Oth μ (M_leaves μ t) tb tb t ∧ (M_leaves μ t).1 35 t = μ.1 35 t ∧ (M_leaves μ t).1 19 t = μ.1 19 t ∧ (M_leaves μ t).2 8 = μ.2 8 ∧ sm ((M_leaves μ t).2 7) (nP μ) = sm (μ.2 7) (nP μ) ∧ (((M_leaves μ t).1 23 t = μ.1 23 t ∧ (M_leaves μ t).1 24 t = μ.1 24 t ∧ (M_leaves μ t).1 26 t = μ.1 26 t) ∨ ((M_leaves μ t).1 23 t = 1 ∧ ¬ (M_leaves μ t).1 26 t ≤ 0)) := by
  obtain ⟨hI, hK, -, -, -⟩ := hG
  have h40 : t < 40 := by have := nT40 hI; omega
  have hkep : ∀ j, kep j = true → (M_leaves μ t).1 j = μ.1 j := fun j hj => kep_leaves μ t hj
  have em : ∀ j, j ≠ 15 → (M_meas μ (μ.1 19 t)).1 j = μ.1 j := fun j hj => M_meas_ne μ (μ.1 19 t) hj
  have hin := M_nextOf_in hI (μ.1 24 t) (μ.1 19 t)
  obtain ⟨L, hL⟩ : ∃ L, L = M_leaves μ t := ⟨_, rfl⟩
  rw [← hL] at hkep ⊢
  unfold M_leaves at hL
  by_cases h6 : ¬ μ.1 6 (ix (μ.1 24 t)) = 0
  · rw [if_pos h6] at hL
    subst hL
    exact ⟨⟨fun a ha => ⟨fun _ _ => rfl, rfl, rfl⟩, hkep⟩, rfl, rfl, rfl, rfl, Or.inl ⟨rfl, rfl, rfl⟩⟩
  · rw [if_neg h6] at hL
    dsimp only at hL
    rw [show (M_nextOf μ (μ.1 24 t) (μ.1 19 t)).2 = M_meas μ (μ.1 19 t) from rfl] at hL
    by_cases hg : (M_nextOf μ (μ.1 24 t) (μ.1 19 t)).1 = -1
    · rw [if_pos hg] at hL
      subst hL
      have e := em
      refine ⟨⟨fun a ha => ⟨fun j hj => by rw [e j (by omega)], rfl, rfl⟩, hkep⟩, by rw [e 35 (by decide)], by rw [e 19 (by decide)], rfl, rfl, Or.inl ⟨by rw [e 23 (by decide)], by rw [e 24 (by decide)], by rw [e 26 (by decide)]⟩⟩
    · rw [if_neg hg] at hL
      have hq := hin.resolve_left hg
      obtain ⟨g, hgg⟩ : ∃ g, g = (M_nextOf μ (μ.1 24 t) (μ.1 19 t)).1 := ⟨_, rfl⟩
      rw [← hgg] at hL hq hg
      have hpos : ¬ μ.1 13 (ix g) ≤ 0 := by
        have h1 := (hK.1 (ix g) hq.2).2.2.1
        intro z
        exact absurd (Int32.le_trans h1 z) (by decide)
      have base : L.1 = up2 (up2 (up2 (up2 (M_meas μ (μ.1 19 t)).1 23 t 1) 25 t g) 26 t ((M_meas μ (μ.1 19 t)).1 13 (ix g))) 24 t (M_across (M_meas μ (μ.1 19 t)).1 (ix g) (μ.1 24 t)) := by
        rw [hL]
        split <;> rfl
      have b2 : L.2 8 = μ.2 8 ∧ sm (L.2 7) (nP μ) = sm (μ.2 7) (nP μ) := by
        rw [hL]
        split
        · exact ⟨rfl, rfl⟩
        · refine ⟨by rw [pays_8 (by decide)]; rfl, ?_⟩
          rw [em 18 (by decide), sm_pays (hK.or ht) (hK.at ht)]
          rfl
      refine ⟨⟨fun a ha => ⟨fun j hj => ?_, rfl, rfl⟩, hkep⟩, ?_, ?_, b2.1, b2.2, Or.inr ⟨?_, ?_⟩⟩
      · rw [base, up2_at, if_neg (fun z => ha z.2), up2_at, if_neg (fun z => ha z.2), up2_at, if_neg (fun z => ha z.2), up2_at, if_neg (fun z => ha z.2), em j (by omega)]
      · rw [base, up2_ne _ _ _ _ _ (by decide), up2_ne _ _ _ _ _ (by decide), up2_ne _ _ _ _ _ (by decide), up2_ne _ _ _ _ _ (by decide), em 35 (by decide)]
      · rw [base, up2_ne _ _ _ _ _ (by decide), up2_ne _ _ _ _ _ (by decide), up2_ne _ _ _ _ _ (by decide), up2_ne _ _ _ _ _ (by decide), em 19 (by decide)]
      · rw [base, up2_ne _ _ _ _ _ (by decide), up2_ne _ _ _ _ _ (by decide), up2_ne _ _ _ _ _ (by decide), up2_at, if_pos ⟨rfl, rfl⟩]
      · rw [base, up2_ne _ _ _ _ _ (by decide), up2_at, if_pos ⟨rfl, rfl⟩, em 13 (by decide)]
        exact hpos
/-- what a day's steps keep -/
theorem days_ind {M : Nat} (hM : M ≤ 3600) (Q : Int32 → Mu → Tb → Prop) (hT : ∀ x μ tb t, GI μ tb M → Q x μ tb → t < nT μ → μ.1 23 t = 1 → Q (x + (M_travels μ t).1) (M_travels μ t).2 (KT_trav μ tb t)) (hL : ∀ x μ tb t, GI μ tb M → Q x μ tb → t < nT μ → μ.1 23 t = 0 → Q x (M_leaves μ t) tb) : ∀ n (q : Int32 × Mu) tb, GI q.2 tb M → Q q.1 q.2 tb → Q (M_days n q).1 (M_days n q).2 (KT_days n q tb) := by
  have h1 : ∀ (q : Int32 × Mu) tb, GI q.2 tb M → Q q.1 q.2 tb → ∀ n, n ≤ nT q.2 → Q (M_g1 (nT q.2) n q).1 (M_g1 (nT q.2) n q).2 (KT_g1 (nT q.2) n q tb) := by
    intro q tb hG hQ n
    induction n with
    | zero => intro _; exact hQ
    | succ n ih =>
      intro hn
      have hg := GI_g1 hG hM (nT q.2) n (by omega)
      have hq := ih (by omega)
      rw [M_g1_S, KT_g1_S]
      by_cases hc : (M_g1 (nT q.2) n q).2.1 23 n = 1
      · rw [if_pos hc, if_pos hc]
        exact hT _ _ _ _ hg hq (by rw [g1_T]; omega) hc
      · rw [if_neg hc, if_neg hc]
        dsimp only
        rw [Int32.add_zero]
        exact hq
  have h2 : ∀ (x : Int32) (μ : Mu) tb, GI μ tb M → Q x μ tb → ∀ n, n ≤ nT μ → Q x (M_g2 n μ) tb := by
    intro x μ tb hG hQ n
    induction n with
    | zero => intro _; exact hQ
    | succ n ih =>
      intro hn
      have hg := GI_g2 hG n (by omega)
      have hq := ih (by omega)
      rw [M_g2_S]
      by_cases hc : (M_g2 n μ).1 23 n = 0
      · rw [if_pos hc]
        exact hL _ _ _ _ hg hq (by rw [g2_T]; omega) hc
      · rw [if_neg hc]
        exact hq
  intro n
  induction n with
  | zero => intro q tb hG hQ; exact hQ
  | succ n ih =>
    intro q tb hG hQ
    have hg := GI_days hG hM n
    have hq := ih q tb hG hQ
    have hg1 := GI_g1 hg hM (nT (M_days n q).2) (nT (M_days n q).2) (Nat.le_refl _)
    have hq1 := h1 _ _ hg hq (nT (M_days n q).2) (Nat.le_refl _)
    exact h2 _ _ _ hg1 hq1 (nT (M_days n q).2) (Nat.le_of_eq (g1_T _ _ _).symm)
