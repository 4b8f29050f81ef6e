/-! what the days' steps leave as it was -/
def kep (j : Nat) : Bool := !(j == 15 || j == 19 || j == 23 || j == 24 || j == 25 || j == 26 || j == 27 || j == 30 || j == 31 || j == 32 || j == 33 || j == 34 || j == 35)
theorem up2_k {A : Nat → Nat → Int32} {j i : Nat} {v : Int32} {a : Nat} (ha : kep a = true) (hj : kep j = false) : up2 A j i v a = A a := up2_ne _ _ _ _ _ (fun q => by rw [q, hj] at ha; cases ha)
theorem kep_signs (μ : Mu) (t : Nat) (a : Int32) {j : Nat} (h : kep j = true) : (M_signs μ t a).1 j = μ.1 j := by
  unfold M_signs
  split
  · rfl
  · dsimp only
    rw [up2_k h rfl, up2_k h rfl, up2_k h rfl]
    split
    · rw [up2_k h rfl, up2_k h rfl, up2_k h rfl]
    · rw [up2_k h rfl, up2_k h rfl, up2_k h rfl]
theorem kep_comes (μ : Mu) (t : Nat) {j : Nat} (h : kep j = true) : (M_comes μ t).2.1 j = μ.1 j := by
  unfold M_comes M_pays
  split
  · dsimp only; rw [up2_k h rfl, up2_k h rfl]
  · split
    · dsimp only
      split
      · exact up2_k h rfl
      · split
        · exact up2_k h rfl
        · exact up2_k h rfl
    · dsimp only; rw [up2_k h rfl]
theorem kep_travels (μ : Mu) (t : Nat) {j : Nat} (h : kep j = true) : (M_travels μ t).2.1 j = μ.1 j := by
  unfold M_travels
  split
  · dsimp only; rw [up2_k h rfl]
  · dsimp only
    split
    · rw [kep_comes _ _ h, kep_signs _ _ _ h]
      dsimp only
      rw [up2_k h rfl, up2_k h rfl, up2_k h rfl]
    · dsimp only
      rw [kep_signs _ _ _ h]
      dsimp only
      rw [up2_k h rfl, up2_k h rfl, up2_k h rfl]
theorem kep_leaves (μ : Mu) (t : Nat) {j : Nat} (h : kep j = true) : (M_leaves μ t).1 j = μ.1 j := by
  have h15 : j ≠ 15 := by rintro rfl; cases h
  have e : ∀ a b, (M_nextOf μ a b).2.1 j = μ.1 j := fun a b => M_meas_ne μ b h15
  unfold M_leaves M_pays
  split
  · rfl
  · dsimp only
    split
    · exact e _ _
    · split
      · dsimp only
        rw [up2_k h rfl, up2_k h rfl, up2_k h rfl, up2_k h rfl]; exact e _ _
      · dsimp only
        rw [up2_k h rfl, up2_k h rfl, up2_k h rfl, up2_k h rfl]; exact e _ _
theorem RI_comes {μ : Mu} (h : RI μ) {t : Nat} (ht : t < 40) : RI (M_comes μ t).2 := by
  unfold M_comes M_pays
  split
  · exact RI_up (RI_up (A := μ.1) (J := μ.2) h (okb (by simp) (Or.inr rfl))) (ok8 (by simp) (h.or ht))
  · have h1 : ∀ J, RI (up2 μ.1 23 t 2, J) := fun J => RI_F (A := μ.1) (J := J) h rfl _ _
    split
    · dsimp only
      split
      · exact h1 _
      · split
        · exact h1 _
        · exact h1 _
    · exact h1 _
theorem RI_travels {μ : Mu} (h : RI μ) {t : Nat} (ht : t < 40) : RI (M_travels μ t).2 := by
  unfold M_travels
  split
  · exact RI_F (A := μ.1) (J := μ.2) h rfl _ _
  · dsimp only
    have h1 : RI (M_signs (up2 (up2 (up2 μ.1 26 t (μ.1 26 t - 1)) 23 t 0) 25 t (-1), μ.2) t (μ.1 24 t)) := RI_signs (RI_up (RI_F (RI_F (A := μ.1) (J := μ.2) h (j := 26) rfl _ _) (j := 23) rfl _ _) (ok25 (Or.inl rfl))) t _
    split
    · exact RI_comes h1 ht
    · exact h1
theorem M_nx_in (A : Nat → Nat → Int32) (fr : Int32) : ∀ (n : Nat) (fd : Int32), M_nx A fr n fd = fd ∨ ∃ g, g < n ∧ M_nx A fr n fd = nI g
  | 0, fd => Or.inl rfl
  | n + 1, fd => by
    rw [M_nx]
    rcases M_nx_in A fr n (M_nxs A fr n fd) with h | ⟨g, hg, h⟩
    · rw [h]
      unfold M_nxs
      split
      · split
        · exact Or.inr ⟨n, by omega, rfl⟩
        · exact Or.inl rfl
      · exact Or.inl rfl
    · exact Or.inr ⟨g, by omega, h⟩
theorem M_nextOf_in {μ : Mu} (h : RI μ) (a b : Int32) : (M_nextOf μ a b).1 = -1 ∨ (vp_in (M_nextOf μ a b).1 20 ∧ ix (M_nextOf μ a b).1 < ix (μ.1 10 0)) := by
  unfold M_nextOf
  obtain ⟨n, hn, e⟩ := h.2.1
  have hx : ix (μ.1 10 0) = n := by rw [e, ix_nI (by omega)]
  dsimp only
  split
  · rcases M_nx_in (M_meas μ b).1 a (ix (μ.1 10 0)) (-1) with q | ⟨g, hg, q⟩
    · exact Or.inl q
    · right
      rw [q, hx] at *
      exact ⟨vp_in_nI (by omega) (by decide), by rw [ix_nI (by omega)]; exact hg⟩
  · exact Or.inl rfl
theorem across_in {μ : Mu} (h : RI μ) {g : Nat} (hg : g < 20) (f : Int32) : vp_in (M_across μ.1 g f) 8 := by
  unfold M_across
  split
  · exact h.o2 hg
  · exact h.o1 hg
theorem RI_leaves {μ : Mu} (h : RI μ) {t : Nat} (ht : t < 40) : RI (M_leaves μ t) := by
  unfold M_leaves M_pays
  split
  · exact h
  · dsimp only
    have h1 : RI (M_nextOf μ (μ.1 24 t) (μ.1 19 t)).2 := RI_meas h _
    split
    · exact h1
    · next q =>
      rcases M_nextOf_in h (μ.1 24 t) (μ.1 19 t) with z | ⟨z, -⟩
      · exact absurd z q
      · have h2 : ∀ J, RI (up2 (up2 (up2 (up2 (M_nextOf μ (μ.1 24 t) (μ.1 19 t)).2.1 23 t 1) 25 t (M_nextOf μ (μ.1 24 t) (μ.1 19 t)).1) 26 t ((M_nextOf μ (μ.1 24 t) (μ.1 19 t)).2.1 13 (ix (M_nextOf μ (μ.1 24 t) (μ.1 19 t)).1))) 24 t (M_across (M_nextOf μ (μ.1 24 t) (μ.1 19 t)).2.1 (ix (M_nextOf μ (μ.1 24 t) (μ.1 19 t)).1) (μ.1 24 t)), J) := fun J => RI_up (RI_F (RI_up (RI_F (A := (M_nextOf μ (μ.1 24 t) (μ.1 19 t)).2.1) (J := J) h1 rfl _ _) (ok25 (Or.inr z))) rfl _ _) (ok8 (by simp) (across_in h1 (in_ix z) _))
        split
        · exact h2 _
        · exact h2 _
theorem RI_g1 {q : Int32 × Mu} (h : RI q.2) (tn : Nat) : ∀ (n : Nat), n ≤ 40 → RI (M_g1 tn n q).2
  | 0, _ => h
  | n + 1, hn => by
    rw [M_g1]
    split
    · exact RI_travels (RI_g1 h tn n (by omega)) (by omega)
    · exact RI_g1 h tn n (by omega)
theorem RI_g2 {μ : Mu} (h : RI μ) : ∀ (n : Nat), n ≤ 40 → RI (M_g2 n μ)
  | 0, _ => h
  | n + 1, hn => by
    rw [M_g2]
    split
    · exact RI_leaves (RI_g2 h n (by omega)) (by omega)
    · exact RI_g2 h n (by omega)
theorem kep_g1 (q : Int32 × Mu) (tn : Nat) {j : Nat} (h : kep j = true) : ∀ (n : Nat), (M_g1 tn n q).2.1 j = q.2.1 j
  | 0 => rfl
  | n + 1 => by
    rw [M_g1]
    split
    · dsimp only; rw [kep_travels _ _ h, kep_g1 q tn h n]
    · dsimp only; rw [kep_g1 q tn h n]
theorem kep_g2 (μ : Mu) {j : Nat} (h : kep j = true) : ∀ (n : Nat), (M_g2 n μ).1 j = μ.1 j
  | 0 => rfl
  | n + 1 => by
    rw [M_g2]
    split
    · rw [kep_leaves _ _ h, kep_g2 μ h n]
    · rw [kep_g2 μ h n]
theorem RI_day {q : Int32 × Mu} (h : RI q.2) : RI (M_day q).2 := by
  obtain ⟨n, hn, e⟩ := h.2.2.1
  have hx : ix (q.2.1 16 0) = n := by rw [e, ix_nI (by omega)]
  unfold M_day
  rw [hx]
  exact RI_g2 (RI_g1 h n n hn) n hn
theorem kep_day (q : Int32 × Mu) {j : Nat} (h : kep j = true) : (M_day q).2.1 j = q.2.1 j := by
  unfold M_day
  show (M_g2 _ _).1 j = _
  rw [kep_g2 _ h, kep_g1 _ _ h]
theorem RI_days {q : Int32 × Mu} (h : RI q.2) : ∀ (n : Nat), RI (M_days n q).2
  | 0 => h
  | n + 1 => RI_day (RI_days h n)
theorem kep_days (q : Int32 × Mu) {j : Nat} (h : kep j = true) : ∀ (n : Nat), (M_days n q).2.1 j = q.2.1 j
  | 0 => rfl
  | n + 1 => by rw [M_days, kep_day _ h, kep_days q h n]
section XG
variable {p : Program} {l : Launch} {e : Env} {R : Room} {s : State} {m : MethodId} {args : Array Value} {below : List Frame} {meth : Method} {c : Code} {Q : State → Prop} {Z : xZ} {B0 nL : Nat} {lay : xK → Nat} {cells slots : Nat}
end XG
theorem M_paysFor_1 (μ : Mu) (t : Nat) (a k : Int32) : (M_paysFor μ t a k).2.1 = μ.1 := by
  unfold M_paysFor M_pays
  split <;> rfl
theorem inR_ix {d : Int32} {M : Nat} (hM : M < 2 ^ 31) (h1 : inR d 1 (nI M)) : d = nI (ix d) ∧ 1 ≤ ix d ∧ ix d ≤ M := by
  have h0 : (0 : Int32) ≤ d := Int32.le_trans (by decide) h1.1
  obtain ⟨j, hj, rfl⟩ := inR_k hM ⟨h0, h1.2⟩
  rw [ix_nI (by omega)]
  refine ⟨rfl, ?_, hj⟩
  have := h1.1
  rw [show (1 : Int32) = nI 1 by decide] at this
  exact (nI_leI (by decide) (by omega)).mp this
theorem M_gs_ne (a b : Nat) (A : Nat → Nat → Int32) {j : Nat} (h : j ≠ 37) : M_gs a b A j = A j := by
  unfold M_gs
  split
  · rw [up2_ne _ _ _ _ _ h, up2_ne _ _ _ _ _ h, up2_ne _ _ _ _ _ h]
  · rfl
theorem M_g3_ne (a n : Nat) (A : Nat → Nat → Int32) {j : Nat} (h : j ≠ 37) : M_g3 a n A j = A j := by
  induction n with
  | zero => rfl
  | succ n ih => rw [M_g3, M_gs_ne _ _ _ h, ih]
theorem M_g4_ne (k n : Nat) (A : Nat → Nat → Int32) {j : Nat} (h : j ≠ 37) : M_g4 k n A j = A j := by
  induction n with
  | zero => rfl
  | succ n ih => rw [M_g4, M_g3_ne _ _ _ h, ih]
