/-! what holds of things and tills between calls; what days do to them -/
theorem bm64 {x : Int} (h1 : -9223372036854775808 ≤ x) (h2 : x < 9223372036854775808) : x.bmod (2 ^ 64) = x := by
  unfold Int.bmod
  have e1 : ((2 ^ 64 : Nat) : Int) = 18446744073709551616 := by decide
  rw [e1]
  dsimp only
  split <;> omega
theorem i64_add {a b : Int64} (h1 : -9223372036854775808 ≤ a.toInt + b.toInt) (h2 : a.toInt + b.toInt < 9223372036854775808) : (a + b).toInt = a.toInt + b.toInt := by
  rw [Int64.toInt_add, bm64 h1 h2]
theorem i64_sub {a b : Int64} (h1 : -9223372036854775808 ≤ a.toInt - b.toInt) (h2 : a.toInt - b.toInt < 9223372036854775808) : (a - b).toInt = a.toInt - b.toInt := by
  rw [Int64.toInt_sub, bm64 h1 h2]
theorem cnt_set {P P' : Nat → Bool} {t : Nat} (h : ∀ a, a ≠ t → P' a = P a) (h0 : P t = false) : ∀ n, cnt P' n = cnt P n + (if t < n ∧ P' t = true then 1 else 0)
  | 0 => by rw [if_neg (fun z => Nat.not_lt_zero _ z.1)]; rfl
  | n + 1 => by
    rw [cnt, cnt, cnt_set h h0 n]
    by_cases h1 : n = t
    · subst h1
      rw [if_neg (show ¬ (n < n ∧ P' n = true) from fun z => Nat.lt_irrefl _ z.1), h0, if_neg Bool.false_ne_true]
      by_cases h2 : P' n = true
      · rw [if_pos h2, if_pos (show n < n + 1 ∧ P' n = true from ⟨by omega, h2⟩)]
      · rw [if_neg h2, if_neg (show ¬ (n < n + 1 ∧ P' n = true) from fun z => h2 z.2)]
    · rw [h n h1]
      by_cases h2 : t < n ∧ P' t = true
      · rw [if_pos h2, if_pos (show t < n + 1 ∧ P' t = true from ⟨by omega, h2.2⟩)]; omega
      · rw [if_neg h2, if_neg (show ¬ (t < n + 1 ∧ P' t = true) from fun z => h2 ⟨by omega, z.2⟩)]; omega
/-- what holds of a thing between calls -/
def TP (μ : Mu) (tb : Tb) (t : Nat) : Prop :=
  (μ.1 23 t = 0 ∨ μ.1 23 t = 1 ∨ μ.1 23 t = 2 ∨ μ.1 23 t = 3) ∧ (μ.1 23 t = 1 → ¬ μ.1 26 t ≤ 0) ∧ (¬ μ.1 23 t = 1 → μ.1 26 t = 0) ∧ (μ.1 23 t = 0 → ¬ μ.1 24 t = μ.1 19 t) ∧ (μ.1 23 t = 2 → μ.1 24 t = μ.1 19 t) ∧
  (∃ n, n ≤ 8192 ∧ μ.1 35 t = nI n ∧ tb.2.2 t ≤ 8 + 2 * n ∧ (μ.1 21 t = 0 → n = 0) ∧ (¬ μ.1 21 t = 0 → 1 ≤ n ∧ (μ.1 23 t = 0 ∨ μ.1 23 t = 2 → tb.2.1 t (n - 1) = μ.1 24 t) ∧ vp_in (tb.2.1 t (n - 1)) 8)) ∧ ∃ q, q ≤ 1000050 ∧ μ.1 22 t = nI q
theorem TP_oth {μ μ' : Mu} {tb tb' : Tb} {t a : Nat} (h : TP μ tb a) (hO : Oth μ μ' tb tb' t) (ha : a ≠ t) : TP μ' tb' a := by
  obtain ⟨h1, h2, h3⟩ := hO.1 a ha
  have k21 : μ'.1 21 = μ.1 21 := hO.2 21 rfl
  have k22 : μ'.1 22 = μ.1 22 := hO.2 22 rfl
  unfold TP at h ⊢
  rw [h1 23 (by omega), h1 26 (by omega), h1 24 (by omega), h1 19 (by omega), h1 35 (by omega), k21, k22, h2, h3]
  exact h
theorem TP_same {μ μ' : Mu} {tb tb' : Tb} {t : Nat} (h : TP μ tb t) (e : ∀ j, j = 19 ∨ j = 21 ∨ j = 22 ∨ j = 23 ∨ j = 24 ∨ j = 26 ∨ j = 35 → μ'.1 j t = μ.1 j t) (e1 : tb'.2.1 t = tb.2.1 t) (e2 : tb'.2.2 t = tb.2.2 t) : TP μ' tb' t := by
  unfold TP at h ⊢
  rw [e 23 (by omega), e 26 (by omega), e 24 (by omega), e 19 (by omega), e 35 (by omega), e 21 (by omega), e 22 (by omega), e1, e2]
  exact h
theorem n01 : ¬ (1 : Int32) = 0 ∧ ¬ (1 : Int32) = 2 ∧ ¬ (0 : Int32) = 1 ∧ ¬ (0 : Int32) = 2 ∧ ¬ (2 : Int32) = 1 ∧ ¬ (2 : Int32) = 0 ∧ ¬ (3 : Int32) = 1 ∧ ¬ (2 : Int32) = 3 ∧ ¬ (3 : Int32) = 2 ∧ ¬ (3 : Int32) = 0 ∧ ¬ (0 : Int32) = 3 ∧ ¬ (1 : Int32) = 3 := by decide
theorem TP_sgd {μ μ' : Mu} {tb tb' : Tb} {t n : Nat} (hs : Sgd μ μ' tb tb' t) (h21 : μ'.1 21 t = μ.1 21 t) (h24 : μ'.1 24 t = μ.1 24 t) (e35 : μ.1 35 t = nI n) (hc : tb.2.2 t ≤ 8 + 2 * n) (hz : μ.1 21 t = 0 → n = 0) (hn8 : n ≤ 8192) (h8 : vp_in (μ.1 24 t) 8) : ∃ n, n ≤ 8192 ∧ μ'.1 35 t = nI n ∧ tb'.2.2 t ≤ 8 + 2 * n ∧ (μ'.1 21 t = 0 → n = 0) ∧ (¬ μ'.1 21 t = 0 → 1 ≤ n ∧ (μ'.1 23 t = 0 ∨ μ'.1 23 t = 2 → tb'.2.1 t (n - 1) = μ'.1 24 t) ∧ vp_in (tb'.2.1 t (n - 1)) 8) := by
  rcases hs with ⟨g1, g2, g3⟩ | ⟨g1, m, hm, g2, g3, g4, g5⟩
  · subst g3
    exact ⟨n, hn8, g2.trans e35, hc, fun _ => hz g1, fun z => absurd (h21.trans g1) z⟩
  · have hmn : m = n := nI_inj (by omega) (by omega) (g2.symm.trans e35)
    subst hmn
    refine ⟨m + 1, by omega, g3, ?_, fun z => absurd (h21.symm.trans z) g1, fun _ => ⟨by omega, fun _ => ?_, ?_⟩⟩
    · split at g5 <;> omega
    · rw [Nat.add_sub_cancel, g4, h24]
    · rw [Nat.add_sub_cancel, g4]; exact h8
/-- how a state of a go is to that at its start -/
def GP (μ0 : Mu) (x : Int32) (μ : Mu) (tb : Tb) : Prop :=
  (∀ t, t < nT μ0 → TP μ tb t) ∧ (∀ j, kep j = true → μ.1 j = μ0.1 j) ∧
  (∀ t, t < nT μ0 → ix (μ0.1 35 t) ≤ ix (μ.1 35 t) ∧ (μ0.1 23 t = 2 ∨ μ0.1 23 t = 3 → μ.1 23 t = μ0.1 23 t ∧ μ.1 35 t = μ0.1 35 t) ∧ (μ0.1 23 t = 0 ∨ μ0.1 23 t = 1 → ¬ μ.1 23 t = 3)) ∧
  sm (μ.2 7) (nP μ0) = sm (μ0.2 7) (nP μ0) ∧
  ∃ c, x = nI c ∧ c = cnt (fun t => decide (μ.1 23 t = 2 ∧ ¬ μ0.1 23 t = 2)) (nT μ0) ∧ ∀ p, (μ0.2 8 p).toInt ≤ (μ.2 8 p).toInt ∧ (μ.2 8 p).toInt ≤ (μ0.2 8 p).toInt + (c : Int) * 20001000000
theorem GP_0 {μ : Mu} {tb : Tb} (h : ∀ t, t < nT μ → TP μ tb t) : GP μ 0 μ tb := by
  refine ⟨h, fun _ _ => rfl, fun t ht => ⟨Nat.le_refl _, fun _ => ⟨rfl, rfl⟩, fun z => ?_⟩, rfl, 0, rfl, ?_, fun p => ⟨Int.le_refl _, by omega⟩⟩
  · rcases z with z | z <;> rw [z] <;> decide
  · have : ∀ n, cnt (fun t => decide (μ.1 23 t = 2 ∧ ¬ μ.1 23 t = 2)) n = 0 := by
      intro n
      induction n with
      | zero => rfl
      | succ n ih =>
        rw [cnt, ih, if_neg]
        simp
    exact (this _).symm
theorem GP_step {μ0 : Mu} (hT0 : nT μ0 ≤ 40) (hJ : ∀ p, -1000000000000000 ≤ (μ0.2 8 p).toInt ∧ (μ0.2 8 p).toInt ≤ 1000000000000000) {x x' : Int32} {μ μ' : Mu} {tb tb' : Tb} {t d : Nat} (h : GP μ0 x μ tb) (ht : t < nT μ0) (hO : Oth μ μ' tb tb' t) (hTP : TP μ' tb' t) (hs : ¬ μ.1 23 t = 2 ∧ ¬ μ.1 23 t = 3) (hs' : ¬ μ'.1 23 t = 3) (h35 : ix (μ.1 35 t) ≤ ix (μ'.1 35 t)) (h7 : sm (μ'.2 7) (nP μ0) = sm (μ.2 7) (nP μ0)) (hx : x' = x + nI d) (hd : d = if μ'.1 23 t = 2 then 1 else 0) (h8 : ∃ y a, y ≤ d * 20001000000 ∧ ∀ p, μ'.2 8 p = if p = a then μ.2 8 p + lN y else μ.2 8 p) : GP μ0 x' μ' tb' := by
  obtain ⟨g1, g2, g3, g4, c, g5, g6, g7⟩ := h
  have hw : ¬ μ0.1 23 t = 2 ∧ ¬ μ0.1 23 t = 3 := by
    refine ⟨fun z => hs.1 ?_, fun z => hs.2 ?_⟩
    · rw [((g3 t ht).2.1 (Or.inl z)).1]; exact z
    · rw [((g3 t ht).2.1 (Or.inr z)).1]; exact z
  have hc40 : c ≤ 40 := by
    rw [g6]
    exact Nat.le_trans (cnt_le _ _) hT0
  refine ⟨fun a ha => ?_, fun j hj => (hO.2 j hj).trans (g2 j hj), fun a ha => ?_, h7.trans g4, c + d, ?_, ?_, fun p => ?_⟩
  · by_cases e : a = t
    · rw [e]; exact hTP
    · exact TP_oth (g1 a ha) hO e
  · by_cases e : a = t
    · subst e
      exact ⟨Nat.le_trans (g3 a ha).1 h35, fun z => z.elim (fun z => absurd z hw.1) (fun z => absurd z hw.2), fun _ => hs'⟩
    · rw [(hO.1 a e).1 35 (by omega), (hO.1 a e).1 23 (by omega)]
      exact g3 a ha
  · rw [hx, g5, nI_add]
  · rw [cnt_set (P := fun t => decide (μ.1 23 t = 2 ∧ ¬ μ0.1 23 t = 2)) (t := t) (fun a ha => by
      rw [(hO.1 a ha).1 23 (by omega)]) (decide_eq_false (fun z => hs.1 z.1)), ← g6, hd]
    by_cases h2 : μ'.1 23 t = 2
    · rw [if_pos h2, if_pos ⟨ht, decide_eq_true ⟨h2, hw.1⟩⟩]
    · rw [if_neg h2, if_neg (fun z => h2 (of_decide_eq_true z.2).1)]
  · obtain ⟨y, a, hy, h8⟩ := h8
    have hd1 : d ≤ 1 := by rw [hd]; split <;> omega
    obtain ⟨q1, q2⟩ := g7 p
    obtain ⟨q3, q4⟩ := hJ p
    have hy2 : y ≤ 20001000000 := Nat.le_trans hy (by omega)
    rw [h8 p]
    have ey : (lN y).toInt = (y : Int) := pk_lT (by omega)
    by_cases hp : p = a
    · rw [if_pos hp, i64_add (by rw [ey]; omega) (by rw [ey]; omega), ey]
      refine ⟨by omega, ?_⟩
      have : ((c + d : Nat) : Int) * 20001000000 = (c : Int) * 20001000000 + ((d * 20001000000 : Nat) : Int) := by
        rw [Int.natCast_add, Int.add_mul, Int.natCast_mul]; rfl
      omega
    · rw [if_neg hp]
      refine ⟨q1, Int.le_trans q2 ?_⟩
      have : (c : Int) * 20001000000 ≤ ((c + d : Nat) : Int) * 20001000000 := by omega
      omega
theorem GP_trav {μ0 : Mu} {M : Nat} (hM : M ≤ 3600) (hT0 : nT μ0 ≤ 40) (hJ : ∀ p, -1000000000000000 ≤ (μ0.2 8 p).toInt ∧ (μ0.2 8 p).toInt ≤ 1000000000000000) {x : Int32} {μ : Mu} {tb : Tb} {t : Nat} (hG : GI μ tb M) (h : GP μ0 x μ tb) (ht : t < nT μ) (h23 : μ.1 23 t = 1) : GP μ0 (x + (M_travels μ t).1) (M_travels μ t).2 (KT_trav μ tb t) := by
  have hk := h.2.1
  have e16 : nT μ = nT μ0 := by unfold nT; rw [hk 16 rfl]
  have e0 : nP μ = nP μ0 := by unfold nP; rw [hk 0 rfl]
  have ht0 : t < nT μ0 := by omega
  have hTPt := h.1 t ht0
  obtain ⟨p1, p2, p3, p4, p5, ⟨n, n1, n2, n3, n4, n5⟩, q, q1, q2⟩ := hTPt
  obtain ⟨hO, hv⟩ := trav_view hG hM ht q1 q2
  have hor := hG.2.1.or ht
  have hta := hG.2.1.ta ht
  obtain ⟨k1, k2, k3, k4, k5, k6, k7, k8, k9, k10, k11, k12⟩ := n01
  have hs : ¬ μ.1 23 t = 2 ∧ ¬ μ.1 23 t = 3 := by rw [h23]; exact ⟨k2, k12⟩
  have e21 : (M_travels μ t).2.1 21 = μ.1 21 := hO.2 21 rfl
  have e22 : (M_travels μ t).2.1 22 = μ.1 22 := hO.2 22 rfl
  rcases hv with ⟨hl, v1, v2, v3, v4⟩ | ⟨hl, v26, v24, vs, hv⟩
  · have f23 : (M_travels μ t).2.1 23 t = 1 := by rw [v2, up2_ne _ _ _ _ _ (by decide)]; exact h23
    refine GP_step hT0 hJ (d := 0) h ht0 hO ?_ hs (by rw [f23]; exact k12) (by rw [v2, up2_ne _ _ _ _ _ (by decide)]; exact Nat.le_refl _) (by rw [v3]) (by rw [v1]; rfl) (by rw [f23, if_neg k2]) ⟨0, 0, by omega, fun p => ?_⟩
    · unfold TP
      rw [v4, e21, e22, v2, up2_ne _ _ _ _ _ (show (23 : Nat) ≠ 26 by decide), up2_ne _ _ _ _ _ (show (24 : Nat) ≠ 26 by decide), up2_ne _ _ _ _ _ (show (19 : Nat) ≠ 26 by decide), up2_ne _ _ _ _ _ (show (35 : Nat) ≠ 26 by decide), up2_at, if_pos ⟨rfl, rfl⟩]
      exact ⟨p1, fun _ => hl, fun z => absurd h23 z, p4, p5, ⟨n, n1, n2, n3, n4, n5⟩, q, q1, q2⟩
    · rw [v3]
      split
      · rw [show lN 0 = 0 from rfl, Int64.add_zero]
      · rfl
  · have h26 : (M_travels μ t).2.1 26 t = 0 := by rw [v26]; exact i32_pos (p2 h23) hl
    have hsg := TP_sgd vs (congrFun e21 t) v24 n2 n3 n4 n1 (hG.1.at (by have := nT40 hG.1; omega))
    have h35 : ix (μ.1 35 t) ≤ ix ((M_travels μ t).2.1 35 t) := by
      rcases vs with ⟨-, g2, -⟩ | ⟨-, m, hm, g2, g3, -⟩
      · rw [g2]; exact Nat.le_refl _
      · rw [g2, g3, ix_nI (by omega), ix_nI (by omega)]; omega
    have h0 : ∀ p, (M_travels μ t).2.2 = μ.2 → (M_travels μ t).2.2 8 p = if p = 0 then μ.2 8 p + lN 0 else μ.2 8 p := fun p e => by
      rw [e]
      split
      · rw [show lN 0 = 0 from rfl, Int64.add_zero]
      · rfl
    rcases hv with ⟨b1, b2, b3, b4, b5⟩ | ⟨b1, b2, b3, b4, b5, b6⟩ | ⟨b1, b2, b3, b4, b5⟩
    · refine GP_step hT0 hJ (d := 0) h ht0 hO ⟨Or.inl b2, fun z => absurd (b2.symm.trans z) k3, fun _ => h26, fun _ => ?_, fun z => absurd (b2.symm.trans z) k4, hsg, q, q1, by rw [e22]; exact q2⟩ hs (by rw [b2]; exact k11) h35 (by rw [b5]) (by rw [b1]; rfl) (by rw [b2, if_neg k4]) ⟨0, 0, by omega, fun p => h0 p b5⟩
      rw [v24, b3]; exact b4
    · refine GP_step hT0 hJ (d := 0) h ht0 hO ⟨Or.inl b2, fun z => absurd (b2.symm.trans z) k3, fun _ => h26, fun _ => ?_, fun z => absurd (b2.symm.trans z) k4, hsg, q, q1, by rw [e22]; exact q2⟩ hs (by rw [b2]; exact k11) h35 (by rw [b6]) (by rw [b1]; rfl) (by rw [b2, if_neg k4]) ⟨0, 0, by omega, fun p => h0 p b6⟩
      rw [v24, b4, b3]; exact b5
    · obtain ⟨y, y1, y2, y3⟩ := b5
      refine GP_step hT0 hJ (d := 1) h ht0 hO ⟨Or.inr (Or.inr (Or.inl b2)), fun z => absurd (b2.symm.trans z) k5, fun _ => h26, fun z => absurd (b2.symm.trans z) k6, fun _ => ?_, hsg, q, q1, by rw [e22]; exact q2⟩ hs (by rw [b2]; exact k8) h35 (y3 _ (by omega) (by omega)) (by rw [b1]; rfl) (by rw [b2, if_pos rfl]) ⟨y, _, by omega, y2⟩
      rw [v24, b3]; exact b4
theorem GP_leav {μ0 : Mu} {M : Nat} (hT0 : nT μ0 ≤ 40) (hJ : ∀ p, -1000000000000000 ≤ (μ0.2 8 p).toInt ∧ (μ0.2 8 p).toInt ≤ 1000000000000000) {x : Int32} {μ : Mu} {tb : Tb} {t : Nat} (hG : GI μ tb M) (h : GP μ0 x μ tb) (ht : t < nT μ) (h23 : μ.1 23 t = 0) : GP μ0 x (M_leaves μ t) tb := by
  have hk := h.2.1
  have e16 : nT μ = nT μ0 := by unfold nT; rw [hk 16 rfl]
  have e0 : nP μ = nP μ0 := by unfold nP; rw [hk 0 rfl]
  have ht0 : t < nT μ0 := by omega
  obtain ⟨p1, p2, p3, p4, p5, ⟨n, n1, n2, n3, n4, n5⟩, q, q1, q2⟩ := h.1 t ht0
  obtain ⟨hO, v35, v19, v8, v7, hv⟩ := leav_view hG ht
  obtain ⟨k1, k2, k3, k4, k5, k6, k7, k8, k9, k10, k11, k12⟩ := n01
  have hs : ¬ μ.1 23 t = 2 ∧ ¬ μ.1 23 t = 3 := by rw [h23]; exact ⟨k4, k11⟩
  have e21 : (M_leaves μ t).1 21 = μ.1 21 := hO.2 21 rfl
  have e22 : (M_leaves μ t).1 22 = μ.1 22 := hO.2 22 rfl
  have h0 : ∀ p, (M_leaves μ t).2 8 p = if p = 0 then μ.2 8 p + lN 0 else μ.2 8 p := fun p => by
    rw [v8]
    split
    · rw [show lN 0 = 0 from rfl, Int64.add_zero]
    · rfl
  rcases hv with ⟨b1, b2, b3⟩ | ⟨b1, b2⟩
  · refine GP_step hT0 hJ (d := 0) h ht0 hO (TP_same (h.1 t ht0) (fun j hj => ?_) rfl rfl) hs (by rw [b1, h23]; exact k11) (by rw [v35]; exact Nat.le_refl _) (by rw [← e0]; exact v7) (Int32.add_zero x).symm (by rw [b1, h23, if_neg k4]) ⟨0, 0, by omega, h0⟩
    rcases hj with rfl | rfl | rfl | rfl | rfl | rfl | rfl
    · exact v19
    · rw [e21]
    · rw [e22]
    · exact b1
    · exact b2
    · exact b3
    · exact v35
  · refine GP_step hT0 hJ (d := 0) h ht0 hO ⟨Or.inr (Or.inl b1), fun _ => b2, fun z => absurd b1 z, fun z => absurd (b1.symm.trans z) k1, fun z => absurd (b1.symm.trans z) k2, ⟨n, n1, by rw [v35]; exact n2, n3, by rw [e21]; exact n4, fun z => ?_⟩, q, q1, by rw [e22]; exact q2⟩ hs (by rw [b1]; exact k12) (by rw [v35]; exact Nat.le_refl _) (by rw [← e0]; exact v7) (Int32.add_zero x).symm (by rw [b1, if_neg k2]) ⟨0, 0, by omega, h0⟩
    rw [e21] at z
    refine ⟨(n5 z).1, fun y => ?_, (n5 z).2.2⟩
    rw [b1] at y
    exact y.elim (fun y => absurd y k1) (fun y => absurd y k2)
theorem GP_days {μ : Mu} {tb : Tb} {M : Nat} (hG0 : GI μ tb M) (hM : M ≤ 3600) (hJ : ∀ p, -1000000000000000 ≤ (μ.2 8 p).toInt ∧ (μ.2 8 p).toInt ≤ 1000000000000000) (h : ∀ t, t < nT μ → TP μ tb t) (n : Nat) : GP μ (M_days n (0, μ)).1 (M_days n (0, μ)).2 (KT_days n (0, μ) tb) :=
  days_ind hM (GP μ) (fun _ _ _ _ hG h ht h23 => GP_trav hM (nT40 hG0.1) hJ hG h ht h23) (fun _ _ _ _ hG h ht h23 => GP_leav (nT40 hG0.1) hJ hG h ht h23) n (0, μ) tb hG0 (GP_0 h)
