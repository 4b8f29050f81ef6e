/-! the class's invariants stay: a number written, a day's steps -/
def okK (A : Nat → Nat → Int32) (j i : Nat) (v : Int32) : Prop := (j ≠ 0 ∧ j ≠ 10 ∧ j ≠ 16 ∧ j ≠ 11 ∧ j ≠ 12 ∧ j ≠ 13) ∧ (j = 18 ∨ j = 19 ∨ j = 24 → ix v < ix (A 0 0)) ∧ (j = 25 → v = -1 ∨ ix v < ix (A 10 0)) ∧ (j = 20 → ∃ k, arG k v) ∧ (j = 5 → ¬ v < 0) ∧ (j = 1 ∨ j = 2 → inR v 0 10000) ∧ (j = 4 ∨ j = 5 ∨ j = 6 → i < ix (A 0 0)) ∧ (j = 1 ∨ j = 2 ∨ j = 3 → i < 3 * ix (A 0 0)) ∧ (j = 14 → i < ix (A 10 0)) ∧ (j = 26 ∨ j = 27 ∨ j = 28 ∨ j = 29 ∨ j = 35 → i < ix (A 16 0))
theorem up2_Q {A : Nat → Nat → Int32} {j i : Nat} {v : Int32} {a b : Nat} {P : Int32 → Prop} (h1 : a = j → b = i → P v) (h2 : P (A a b)) : P (up2 A j i v a b) := by
  rw [up2_at]
  split
  · next q => exact h1 q.1 q.2
  · exact h2
theorem KI_up {A : Nat → Nat → Int32} {J : Nat → Nat → Int64} (h : KI (A, J)) {j i : Nat} {v : Int32} (hk : okK A j i v) : KI (up2 A j i v, J) := by
  obtain ⟨hL, hT, hM, hC, hZ⟩ := h
  obtain ⟨⟨h0, h10, h16, h11, h12, h13⟩, kp, k25, k20, k5, k12, z1, z2, z3, z4⟩ := hk
  have e0 : up2 A j i v 0 = A 0 := up2_ne _ _ _ _ _ (Ne.symm h0)
  have e10 : up2 A j i v 10 = A 10 := up2_ne _ _ _ _ _ (Ne.symm h10)
  have e16 : up2 A j i v 16 = A 16 := up2_ne _ _ _ _ _ (Ne.symm h16)
  have e11 : up2 A j i v 11 = A 11 := up2_ne _ _ _ _ _ (Ne.symm h11)
  have e12 : up2 A j i v 12 = A 12 := up2_ne _ _ _ _ _ (Ne.symm h12)
  have e13 : up2 A j i v 13 = A 13 := up2_ne _ _ _ _ _ (Ne.symm h13)
  unfold KL KT KM KC KZ nP nG nT at *
  unfold KI KL KT KM KC KZ nP nG nT
  simp only [e0, e10, e16, e11, e12, e13] at *
  refine ⟨hL, fun t ht => ?_, ⟨fun b => ?_, fun b => ?_⟩, hC, fun b hb => ?_, fun g hg => ?_, fun t ht => ?_⟩
  · obtain ⟨⟨a1, a2, a3⟩, a4, a5⟩ := hT t ht
    exact ⟨⟨up2_P (P := fun x => ix x < ix (A 0 0)) (fun q => kp (Or.inl q.symm)) a1, up2_P (P := fun x => ix x < ix (A 0 0)) (fun q => kp (Or.inr (Or.inl q.symm))) a2, up2_P (P := fun x => ix x < ix (A 0 0)) (fun q => kp (Or.inr (Or.inr q.symm))) a3⟩, up2_P (P := fun x => x = -1 ∨ ix x < ix (A 10 0)) (fun q => k25 q.symm) a4, up2_P (P := fun x => ∃ k, arG k x) (fun q => k20 q.symm) a5⟩
  · exact up2_P (P := fun x => ¬ x < 0) (fun q => k5 q.symm) (hM.1 b)
  · exact ⟨up2_P (P := fun x => inR x 0 10000) (fun q => k12 (Or.inl q.symm)) (hM.2 b).1, up2_P (P := fun x => inR x 0 10000) (fun q => k12 (Or.inr q.symm)) (hM.2 b).2⟩
  · obtain ⟨⟨a1, a2, a3⟩, a4, a5⟩ := hZ.1 b hb
    refine ⟨⟨up2_Q (P := fun x => x = 0) (fun q w => absurd (z1 (Or.inl q.symm)) (by omega)) a1, up2_Q (P := fun x => x = 0) (fun q w => absurd (z1 (Or.inr (Or.inl q.symm))) (by omega)) a2, up2_Q (P := fun x => x = 0) (fun q w => absurd (z1 (Or.inr (Or.inr q.symm))) (by omega)) a3⟩, a4, fun k hk => ?_⟩
    obtain ⟨b1, b2, b3⟩ := a5 k hk
    exact ⟨up2_Q (P := fun x => x = 0) (fun q w => absurd (z2 (Or.inl q.symm)) (by omega)) b1, up2_Q (P := fun x => x = 0) (fun q w => absurd (z2 (Or.inr (Or.inl q.symm))) (by omega)) b2, up2_Q (P := fun x => x = 0) (fun q w => absurd (z2 (Or.inr (Or.inr q.symm))) (by omega)) b3⟩
  · exact up2_Q (P := fun x => x = 0) (fun q w => absurd (z3 q.symm) (by omega)) (hZ.2.1 g hg)
  · obtain ⟨a1, a2, a3, a4, a5⟩ := hZ.2.2 t ht
    exact ⟨up2_Q (P := fun x => x = 0) (fun q w => absurd (z4 (Or.inl q.symm)) (by omega)) a1, up2_Q (P := fun x => x = 0) (fun q w => absurd (z4 (Or.inr (Or.inl q.symm))) (by omega)) a2, up2_Q (P := fun x => x = 0) (fun q w => absurd (z4 (Or.inr (Or.inr (Or.inl q.symm)))) (by omega)) a3, up2_Q (P := fun x => x = 0) (fun q w => absurd (z4 (Or.inr (Or.inr (Or.inr (Or.inl q.symm))))) (by omega)) a4, up2_Q (P := fun x => x = 0) (fun q w => absurd (z4 (Or.inr (Or.inr (Or.inr (Or.inr q.symm))))) (by omega)) a5⟩
theorem KI_J {A : Nat → Nat → Int32} {J J' : Nat → Nat → Int64} (h : KI (A, J)) (h7 : ∀ i, ix (A 0 0) ≤ i → J' 7 i = J 7 i ∧ J' 8 i = J 8 i) (h9 : ∀ a b, a < 8 → b < 8 → ix (A 0 0) ≤ a ∨ ix (A 0 0) ≤ b → J' 9 (8 * a + b) = J 9 (8 * a + b)) : KI (A, J') := by
  obtain ⟨hL, hT, hM, hC, hZ⟩ := h
  refine ⟨hL, hT, hM, fun a b ha hb hab => (h9 a b ha hb hab).trans (hC a b ha hb hab), fun i hi => ?_, hZ.2⟩
  obtain ⟨a1, a2, a3⟩ := hZ.1 i hi
  exact ⟨a1, ⟨(h7 i hi).1.trans a2.1, (h7 i hi).2.trans a2.2⟩, a3⟩
theorem KI_J78 {A : Nat → Nat → Int32} {J : Nat → Nat → Int64} (h : KI (A, J)) {j i : Nat} (hj : j = 7 ∨ j = 8) (hi : i < ix (A 0 0)) (v : Int64) : KI (A, up2 J j i v) := by
  refine KI_J h (fun b hb => ⟨?_, ?_⟩) (fun a b _ _ _ => ?_)
  · rw [up2_at, if_neg (fun z => by omega)]
  · rw [up2_at, if_neg (fun z => by omega)]
  · rw [up2_at, if_neg (fun z => by omega)]
theorem KI_J9 {A : Nat → Nat → Int32} {J : Nat → Nat → Int64} (h : KI (A, J)) {a b : Nat} (ha : a < ix (A 0 0)) (hb : b < ix (A 0 0)) (hb8 : b < 8) (v : Int64) : KI (A, up2 J 9 (8 * a + b) v) := by
  refine KI_J h (fun i hi => ⟨?_, ?_⟩) (fun a' b' h1 h2 h3 => ?_)
  · rw [up2_at, if_neg (fun z => by omega)]
  · rw [up2_at, if_neg (fun z => by omega)]
  · rw [up2_at, if_neg (fun z => by omega)]
theorem KI_pays {μ : Mu} (h : KI μ) {a b : Nat} (ha : a < nP μ) (hb : b < nP μ) (q : Int64) : KI (M_pays μ a b q) := KI_J78 (A := μ.1) (KI_J78 (A := μ.1) (J := μ.2) h (Or.inl rfl) ha _) (Or.inl rfl) hb _
def frK (j : Nat) : Bool := !(j == 0 || j == 10 || j == 16 || j == 11 || j == 12 || j == 13 || j == 18 || j == 19 || j == 24 || j == 25 || j == 20 || j == 5 || j == 1 || j == 2 || j == 4 || j == 6 || j == 3 || j == 14 || j == 26 || j == 27 || j == 28 || j == 29 || j == 35)
theorem okKF {A : Nat → Nat → Int32} {j : Nat} (hj : frK j = true) (i : Nat) (v : Int32) : okK A j i v := by
  simp only [frK, Bool.not_eq_true', Bool.or_eq_false_iff, beq_eq_false_iff_ne] at hj
  unfold okK
  refine ⟨⟨?_, ?_, ?_, ?_, ?_, ?_⟩, fun z => ?_, fun z => ?_, fun z => ?_, fun z => ?_, fun z => ?_, fun z => ?_, fun z => ?_, fun z => ?_, fun z => ?_⟩ <;> omega
theorem KI_F {A : Nat → Nat → Int32} {J : Nat → Nat → Int64} (h : KI (A, J)) {j : Nat} (hj : frK j = true) (i : Nat) (v : Int32) : KI (up2 A j i v, J) := KI_up h (okKF hj i v)
theorem okKt {A : Nat → Nat → Int32} {j i : Nat} (hj : j = 26 ∨ j = 27 ∨ j = 28 ∨ j = 29 ∨ j = 35) (hi : i < ix (A 16 0)) (v : Int32) : okK A j i v := by
  unfold okK
  refine ⟨⟨?_, ?_, ?_, ?_, ?_, ?_⟩, fun z => ?_, fun z => ?_, fun z => ?_, fun z => ?_, fun z => ?_, fun z => ?_, fun z => ?_, fun z => ?_, fun _ => hi⟩ <;> omega
theorem okKp {A : Nat → Nat → Int32} {j : Nat} (hj : j = 18 ∨ j = 19 ∨ j = 24) {v : Int32} (hv : ix v < ix (A 0 0)) (i : Nat) : okK A j i v := by
  unfold okK
  refine ⟨⟨?_, ?_, ?_, ?_, ?_, ?_⟩, fun _ => hv, fun z => ?_, fun z => ?_, fun z => ?_, fun z => ?_, fun z => ?_, fun z => ?_, fun z => ?_, fun z => ?_⟩ <;> omega
theorem okK25 {A : Nat → Nat → Int32} {v : Int32} (hv : v = -1 ∨ ix v < ix (A 10 0)) (i : Nat) : okK A 25 i v := by
  unfold okK
  refine ⟨⟨?_, ?_, ?_, ?_, ?_, ?_⟩, fun z => ?_, fun _ => hv, fun z => ?_, fun z => ?_, fun z => ?_, fun z => ?_, fun z => ?_, fun z => ?_, fun z => ?_⟩ <;> omega
/-- invariants speak of the numbers that frK doesn't free -/
theorem KI_same {μ μ' : Mu} (h : KI μ) (e : ∀ j, frK j = false → μ'.1 j = μ.1 j) (e2 : μ'.2 = μ.2) : KI μ' := by
  unfold KI KL KT KM KC KZ nP nG nT at *
  rw [e2, e 0 rfl, e 10 rfl, e 16 rfl, e 11 rfl, e 12 rfl, e 13 rfl, e 18 rfl, e 19 rfl, e 24 rfl, e 25 rfl, e 20 rfl, e 5 rfl, e 1 rfl, e 2 rfl, e 4 rfl, e 6 rfl, e 3 rfl, e 14 rfl, e 26 rfl, e 27 rfl, e 28 rfl, e 29 rfl, e 35 rfl]
  exact h
theorem KI_th {μ : Mu} (h : KI μ) (k : Int32) : KI (th μ k) := KI_F (A := μ.1) (J := μ.2) h rfl 0 k
theorem KI_meas {μ : Mu} (h : KI μ) (b : Int32) : KI (M_meas μ b) := KI_same h (fun j hj => M_meas_ne μ b (by rintro rfl; cases hj)) rfl
theorem KI_signs {μ : Mu} (h : KI μ) {t : Nat} (ht : t < nT μ) (v : Int32) : KI (M_signs μ t v) := by
  unfold M_signs
  split
  · exact h
  · dsimp only
    refine KI_F (KI_up (KI_F ?_ (j := 34) rfl _ _) (okKt (by omega) ?_ _)) (j := 30) rfl _ _
    · split
      · exact KI_F (KI_F (KI_F (A := μ.1) (J := μ.2) h (j := 31) rfl _ _) (j := 32) rfl _ _) (j := 33) rfl _ _
      · exact KI_F (KI_F (KI_F (A := μ.1) (J := μ.2) h (j := 31) rfl _ _) (j := 32) rfl _ _) (j := 32) rfl _ _
    · split <;> exact ht
theorem nP_le8 {μ : Mu} (hI : RI μ) {p : Int32} (h : ix p < nP μ) : ix p < 8 := by have := nP8 hI; omega
theorem KI_comes {μ : Mu} (h : KI μ) (hI : RI μ) {t : Nat} (ht : t < nT μ) : KI (M_comes μ t).2 := by
  have h40 : t < 40 := by have := nT40 hI; omega
  have e8 := (in_8k (hI.or h40) (hI.ta h40)).2
  unfold M_comes
  split
  · exact KI_up (KI_up (A := μ.1) (J := μ.2) h (j := 27) (okKt (by omega) ht _)) (okKp (by omega) (h.or ht) _)
  · have h1 : ∀ J, KI (μ.1, J) → KI (up2 μ.1 23 t 2, J) := fun J hJ => KI_F hJ rfl _ _
    split
    · dsimp only
      have h2 : KI (μ.1, up2 μ.2 8 (ix (μ.1 19 t)) (μ.2 8 (ix (μ.1 19 t)) + M_taxOf μ t)) := KI_J78 (A := μ.1) (J := μ.2) h (Or.inr rfl) (h.ta ht) _
      split
      · exact KI_pays (h1 _ h2) (h.or ht) (h.ta ht) _
      · split
        · rw [e8]
          exact h1 _ (KI_J9 h2 (h.or ht) (h.ta ht) (nP_le8 hI (h.ta ht)) _)
        · exact h1 _ h2
    · exact h1 _ h
theorem KI_travels {μ : Mu} (h : KI μ) (hI : RI μ) {t : Nat} (ht : t < nT μ) : KI (M_travels μ t).2 := by
  have h40 : t < 40 := by have := nT40 hI; omega
  unfold M_travels
  split
  · exact KI_up (A := μ.1) (J := μ.2) h (okKt (by omega) ht _)
  · dsimp only
    have h1 : KI (up2 (up2 (up2 μ.1 26 t (μ.1 26 t - 1)) 23 t 0) 25 t (-1), μ.2) := KI_up (KI_F (KI_up (A := μ.1) (J := μ.2) h (j := 26) (okKt (by omega) ht _)) (j := 23) rfl _ _) (okK25 (Or.inl rfl) _)
    have r1 : RI (up2 (up2 (up2 μ.1 26 t (μ.1 26 t - 1)) 23 t 0) 25 t (-1), μ.2) := RI_up (RI_F (RI_F (A := μ.1) (J := μ.2) hI (j := 26) rfl _ _) (j := 23) rfl _ _) (ok25 (Or.inl rfl))
    have h2 := KI_signs h1 (t := t) ht (μ.1 24 t)
    split
    · refine KI_comes h2 (RI_signs r1 t _) ?_
      unfold nT
      rw [kep_signs _ _ _ rfl]
      exact ht
    · exact h2
theorem KI_leaves {μ : Mu} (h : KI μ) (hI : RI μ) {t : Nat} (ht : t < nT μ) : KI (M_leaves μ t) := by
  have hin := M_nextOf_in hI (μ.1 24 t) (μ.1 19 t)
  have hm := KI_meas h (μ.1 19 t)
  have em : ∀ j, j ≠ 15 → (M_meas μ (μ.1 19 t)).1 j = μ.1 j := fun j hj => M_meas_ne μ (μ.1 19 t) hj
  unfold M_leaves
  split
  · exact h
  · dsimp only
    have e2 : (M_nextOf μ (μ.1 24 t) (μ.1 19 t)).2 = M_meas μ (μ.1 19 t) := rfl
    rw [e2]
    split
    · exact hm
    · next hq =>
      have hg := (hin.resolve_left hq).2
      obtain ⟨q, hqq⟩ : ∃ q, q = (M_nextOf μ (μ.1 24 t) (μ.1 19 t)).1 := ⟨_, rfl⟩
      rw [← hqq] at hg ⊢
      obtain ⟨ν, hν⟩ : ∃ ν, ν = M_meas μ (μ.1 19 t) := ⟨_, rfl⟩
      rw [← hν] at hm em ⊢
      have hg' : ix q < nG ν := by unfold nG; rw [em 10 (by decide)]; exact hg
      have ht' : t < nT ν := by unfold nT; rw [em 16 (by decide)]; exact ht
      have hac : ix (M_across ν.1 (ix q) (μ.1 24 t)) < ix (ν.1 0 0) := by
        unfold M_across
        split
        · exact hm.g2 hg'
        · exact hm.g1 hg'
      have h2 : KI (up2 (up2 (up2 (up2 ν.1 23 t 1) 25 t q) 26 t (ν.1 13 (ix q))) 24 t (M_across ν.1 (ix q) (μ.1 24 t)), ν.2) := KI_up (KI_up (KI_up (KI_F (A := ν.1) (J := ν.2) hm (j := 23) rfl _ _) (okK25 (Or.inr hg') _)) (okKt (j := 26) (by omega) ht' _)) (okKp (by omega) hac _)
      split
      · exact h2
      · refine KI_pays h2 ?_ ?_ _
        · show ix (ν.1 18 t) < ix (ν.1 0 0)
          exact hm.or ht'
        · show ix (μ.1 24 t) < ix (ν.1 0 0)
          have := h.at ht
          unfold nP at this
          rw [em 0 (by decide)]
          exact this
