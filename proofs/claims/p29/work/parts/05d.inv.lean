/-! the reference's counts and places stay; the loop rule -/
def okUp (j : Nat) (v : Int32) : Prop := (j = 0 → ∃ n, n ≤ 8 ∧ v = nI n) ∧ (j = 10 → ∃ n, n ≤ 20 ∧ v = nI n) ∧ (j = 16 → ∃ n, n ≤ 40 ∧ v = nI n) ∧ (j = 30 → ∃ n, n ≤ 80000 ∧ v = nI n) ∧ (j = 11 ∨ j = 12 → vp_in v 8) ∧ (j = 17 → vp_in v 3) ∧ (j = 18 ∨ j = 19 ∨ j = 24 → vp_in v 8) ∧ (j = 25 → v = -1 ∨ vp_in v 20) ∧ (j = 33 ∨ j = 34 → vp_in v 80000) ∧ (mTy j = 2 ∨ j = 36 → v = 0 ∨ v = 1)
theorem up2_at {α : Type} (f : Nat → Nat → α) (j i : Nat) (v : α) (a b : Nat) : up2 f j i v a b = if a = j ∧ b = i then v else f a b := rfl
theorem up2_P {A : Nat → Nat → Int32} {j i : Nat} {v : Int32} {a b : Nat} {P : Int32 → Prop} (h1 : a = j → P v) (h2 : P (A a b)) : P (up2 A j i v a b) := by
  rw [up2_at]
  split
  · next q => exact h1 q.1
  · exact h2
theorem RI_up {A : Nat → Nat → Int32} {J : Nat → Nat → Int64} (h : RI (A, J)) {j i : Nat} {v : Int32} (hv : okUp j v) : RI (up2 A j i v, J) := by
  obtain ⟨h0, h10, h16, h30, hg, ht, hb⟩ := h
  obtain ⟨v0, v10, v16, v30, vg, v17, v18, v25, v33, vb⟩ := hv
  refine ⟨up2_P (P := fun x => ∃ n, n ≤ 8 ∧ x = nI n) (fun q => v0 q.symm) h0, up2_P (P := fun x => ∃ n, n ≤ 20 ∧ x = nI n) (fun q => v10 q.symm) h10, up2_P (P := fun x => ∃ n, n ≤ 40 ∧ x = nI n) (fun q => v16 q.symm) h16, up2_P (P := fun x => ∃ n, n ≤ 80000 ∧ x = nI n) (fun q => v30 q.symm) h30, fun g hg9 => ⟨up2_P (P := fun x => vp_in x 8) (fun q => vg (Or.inl q.symm)) (hg g hg9).1, up2_P (P := fun x => vp_in x 8) (fun q => vg (Or.inr q.symm)) (hg g hg9).2⟩, fun t ht9 => ?_, fun a b hab => up2_P (P := fun x => x = 0 ∨ x = 1) (fun q => vb (q ▸ hab)) (hb a b hab)⟩
  obtain ⟨a1, a2, a3, a4, a5, a6, a7⟩ := ht t ht9
  exact ⟨up2_P (P := fun x => vp_in x 3) (fun q => v17 q.symm) a1, up2_P (P := fun x => vp_in x 8) (fun q => v18 (Or.inl q.symm)) a2, up2_P (P := fun x => vp_in x 8) (fun q => v18 (Or.inr (Or.inl q.symm))) a3, up2_P (P := fun x => vp_in x 8) (fun q => v18 (Or.inr (Or.inr q.symm))) a4, up2_P (P := fun x => x = -1 ∨ vp_in x 20) (fun q => v25 q.symm) a5, up2_P (P := fun x => vp_in x 80000) (fun q => v33 (Or.inl q.symm)) a6, up2_P (P := fun x => vp_in x 80000) (fun q => v33 (Or.inr q.symm)) a7⟩
theorem RI_J {A : Nat → Nat → Int32} {J J' : Nat → Nat → Int64} (h : RI (A, J)) : RI (A, J') := h
def frj (j : Nat) : Bool := !(j == 0 || j == 10 || j == 16 || j == 30 || j == 11 || j == 12 || j == 17 || j == 18 || j == 19 || j == 24 || j == 25 || j == 33 || j == 34 || j == 36 || mTy j == 2)
theorem okF {j : Nat} (hj : frj j = true) (v : Int32) : okUp j v := by
  simp only [frj, Bool.not_eq_true', Bool.or_eq_false_iff, beq_eq_false_iff_ne] at hj
  obtain ⟨⟨⟨⟨⟨⟨⟨⟨⟨⟨⟨⟨⟨⟨h0, h10⟩, h16⟩, h30⟩, h11⟩, h12⟩, h17⟩, h18⟩, h19⟩, h24⟩, h25⟩, h33⟩, h34⟩, h36⟩, hb⟩ := hj
  exact ⟨fun q => absurd q h0, fun q => absurd q h10, fun q => absurd q h16, fun q => absurd q h30, fun q => q.elim (fun z => absurd z h11) (fun z => absurd z h12), fun q => absurd q h17, fun q => q.elim (fun z => absurd z h18) (fun z => z.elim (fun y => absurd y h19) (fun y => absurd y h24)), fun q => absurd q h25, fun q => q.elim (fun z => absurd z h33) (fun z => absurd z h34), fun q => q.elim (fun z => absurd z hb) (fun z => absurd z h36)⟩
theorem RI_F {A : Nat → Nat → Int32} {J : Nat → Nat → Int64} (h : RI (A, J)) {j : Nat} (hj : frj j = true) (i : Nat) (v : Int32) : RI (up2 A j i v, J) := RI_up h (okF hj v)
theorem RI_th {μ : Mu} (h : RI μ) (k : Int32) : RI (th μ k) := RI_F (A := μ.1) (J := μ.2) h rfl 0 k
theorem ok8 {j : Nat} (hj : j = 18 ∨ j = 19 ∨ j = 24 ∨ j = 11 ∨ j = 12) {v : Int32} (h : vp_in v 8) : okUp j v := by
  rcases hj with rfl | rfl | rfl | rfl | rfl <;> simp [okUp, mTy, h]
theorem okb {j : Nat} (hj : j = 6 ∨ j = 14 ∨ j = 21 ∨ j = 27 ∨ j = 28 ∨ j = 29 ∨ j = 36) {v : Int32} (h : v = 0 ∨ v = 1) : okUp j v := by
  rcases hj with rfl | rfl | rfl | rfl | rfl | rfl | rfl <;> simp [okUp, mTy, h]
theorem ok25 {v : Int32} (h : v = -1 ∨ vp_in v 20) : okUp 25 v := by simp [okUp, mTy, h]
theorem ok17 {v : Int32} (h : vp_in v 3) : okUp 17 v := by simp [okUp, mTy, h]
theorem ok80 {j : Nat} (hj : j = 33 ∨ j = 34) {v : Int32} (h : vp_in v 80000) : okUp j v := by
  rcases hj with rfl | rfl <;> simp [okUp, mTy, h]
theorem okC {j M : Nat} (hj : (j = 0 ∧ M = 8) ∨ (j = 10 ∧ M = 20) ∨ (j = 16 ∧ M = 40) ∨ (j = 30 ∧ M = 80000)) {n : Nat} (h : n ≤ M) : okUp j (nI n) := by
  rcases hj with ⟨rfl, rfl⟩ | ⟨rfl, rfl⟩ | ⟨rfl, rfl⟩ | ⟨rfl, rfl⟩ <;> simp [okUp, mTy] <;> exact ⟨n, h, rfl⟩
theorem RI_signs {μ : Mu} (h : RI μ) (t : Nat) (a : Int32) : RI (M_signs μ t a) := by
  unfold M_signs
  by_cases q : μ.1 21 t = 0 ∨ 80000 ≤ μ.1 30 0
  · rw [if_pos q]; exact h
  · rw [if_neg q]
    have hs := h.sg (fun z => q (Or.inr z))
    obtain ⟨n, hn, hsn, -⟩ := in_of hs (by decide)
    have e : μ.1 30 0 + 1 = nI (n + 1) := by rw [hsn, nI_1]
    have h1 : RI (up2 (up2 μ.1 31 (ix (μ.1 30 0)) a) 32 (ix (μ.1 30 0)) (-1), μ.2) := RI_F (RI_F (A := μ.1) (J := μ.2) h rfl _ _) rfl _ _
    dsimp only
    rw [e]
    refine RI_up (RI_F (RI_up ?_ (ok80 (Or.inr rfl) hs)) rfl _ _) (okC (M := 80000) (Or.inr (Or.inr (Or.inr ⟨rfl, rfl⟩))) (by omega))
    split
    · exact RI_up h1 (ok80 (Or.inl rfl) hs)
    · exact RI_F h1 rfl _ _
section XF
variable {p : Program} {l : Launch} {e : Env} {R : Room} {s : State} {m : MethodId} {args : Array Value} {below : List Frame} {meth : Method} {c : Code} {Q : State → Prop} {Z : xZ} {B0 nL : Nat} {lay : xK → Nat} {cells slots : Nat} {rest : List Value}
/-- a counted loop: n turns from the head on, then what is behind it -/
theorem v_for (n : Nat) (Cf : Nat → xK → Option xE) (lvf : Nat → List (Option Value)) (head : Nat) (st : List Value) (step : ∀ i, i < n → V p l e R s m args below meth c Q Z B0 nL lay (Cf (i + 1)) cells slots head (lvf (i + 1)) st → V p l e R s m args below meth c Q Z B0 nL lay (Cf i) cells slots head (lvf i) st) (ex : V p l e R s m args below meth c Q Z B0 nL lay (Cf n) cells slots head (lvf n) st) : V p l e R s m args below meth c Q Z B0 nL lay (Cf 0) cells slots head (lvf 0) st := by
  have key : ∀ d i, i + d = n → V p l e R s m args below meth c Q Z B0 nL lay (Cf i) cells slots head (lvf i) st := by
    intro d
    induction d with
    | zero => intro i hi; rw [show i = n by omega]; exact ex
    | succ d ih => intro i hi; exact step i (by omega) (ih (i + 1) (by omega))
  exact key n 0 (by omega)
end XF
theorem M_m1_ne (to : Int32) (n : Nat) (A : Nat → Nat → Int32) {j : Nat} (h : j ≠ 15) : M_m1 to n A j = A j := by
  induction n with
  | zero => rfl
  | succ n ih => rw [M_m1, up2_ne _ _ _ _ _ h, ih]
theorem M_m2_ne (A : Nat → Nat → Int32) (g : Nat) {j : Nat} (h : j ≠ 15) : M_m2 A g j = A j := by
  rw [M_m2, up2_ne _ _ _ _ _ h, M_m2a, up2_ne _ _ _ _ _ h]
theorem M_m3_ne (n : Nat) (A : Nat → Nat → Int32) {j : Nat} (h : j ≠ 15) : M_m3 n A j = A j := by
  induction n with
  | zero => rfl
  | succ n ih => rw [M_m3, M_m2_ne _ _ h, ih]
theorem M_m4_ne (g n : Nat) (A : Nat → Nat → Int32) {j : Nat} (h : j ≠ 15) : M_m4 g n A j = A j := by
  induction n with
  | zero => rfl
  | succ n ih => rw [M_m4, M_m3_ne _ _ h, ih]
theorem M_meas_ne (μ : Mu) (to : Int32) {j : Nat} (h : j ≠ 15) : (M_meas μ to).1 j = μ.1 j := by
  show M_m4 (ix (μ.1 10 0)) 8 (M_m1 to 8 μ.1) j = μ.1 j
  rw [M_m4_ne _ _ _ h, M_m1_ne _ _ _ h]
theorem M_meas_2 (μ : Mu) (to : Int32) : (M_meas μ to).2 = μ.2 := rfl
theorem RI_same {μ μ' : Mu} (h : RI μ) (e : ∀ j, j ≠ 15 → μ'.1 j = μ.1 j) : RI μ' := by
  unfold RI at h ⊢
  rw [e 0 (by decide), e 10 (by decide), e 16 (by decide), e 30 (by decide), e 11 (by decide), e 12 (by decide), e 17 (by decide), e 18 (by decide), e 19 (by decide), e 24 (by decide), e 25 (by decide), e 33 (by decide), e 34 (by decide)]
  refine ⟨h.1, h.2.1, h.2.2.1, h.2.2.2.1, h.2.2.2.2.1, h.2.2.2.2.2.1, fun j i q => ?_⟩
  rw [e j (by rintro rfl; revert q; decide)]
  exact h.2.2.2.2.2.2 j i q
theorem RI_meas {μ : Mu} (h : RI μ) (to : Int32) : RI (M_meas μ to) := RI_same h fun _ q => M_meas_ne μ to q
