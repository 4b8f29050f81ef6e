/-! what the cases of the law need -/
theorem cW_o {Z : xZ} {lay : xK → Nat} {μ ν : Mu} {tb : Tb} {o : Nat → Int64} : cM Z lay μ (cX Z lay ν tb (oW Z o)) (300, 0) = some (.inl (Z.2 1, 1, .inr (.inl o))) := rfl
theorem cW_x {Z : xZ} {lay : xK → Nat} {μ ν : Mu} {tb : Tb} {o : Nat → Int64} : cM Z lay μ (cX Z lay ν tb (oW Z o)) (0, 0) = some (.inr (4, fX lay ν)) := rfl
/-- what a case is to come to -/
def LK (p : Program) (l : Launch) (e : Env) (s : State) (m : MethodId) (below : List Frame) (meth : Method) (c : Code) (Z : xZ) (b k : Nat) : Prop := ∀ (lay : xK → Nat) (μ : Mu) (tb : Tb) (o : Nat → Int64) (cells slots : Nat) (v5 v6 v7 : Option Value), LI μ tb (k + 1) → RM cells slots (k + 1) tb → V p l e room_1 s m #[Value.ref b] below meth c (lw_Z below #[Value.ref b] s) Z s.heap.size 8 lay (cM Z lay μ (cX Z lay μ tb (oW Z o))) cells slots 1991 [some (.ref b), some (.ref (lay (0, 0))), some (.ref (lay (100, 0))), some (.ref (lay (300, 0))), some (.int (nI (7 * k))), v5, v6, v7] []
theorem hand_ch {μ : Mu} {tb : Tb} {k : Nat} (h : LI μ tb k) (t : Int32) : ∀ j : Nat, (j : Int) < (μ.1 35 (ix t)).toInt → vp_in (M_hd μ.1 (μ.1 33 (ix t)) j) 80000 := by
  intro j hj
  obtain ⟨hI, hK, ⟨cl, hH⟩, -⟩ := h.1
  by_cases ht : ix t < nT μ
  · obtain ⟨n, hn, -, hn2, -, -, hc⟩ := hH.get ht
    rw [hn, nI_toInt (by omega)] at hj
    rw [hH.hd hI ht hn hn2 j (by omega)]
    obtain ⟨S, hS, eS⟩ := hI.2.2.2.1
    have := (hc j (by omega)).1
    rw [eS, ix_nI (by omega)] at this
    exact vp_in_nI (by omega) (by decide)
  · have h0 := (hK.2.2.2.2.2.2 (ix t) (by omega)).2.2.2.2
    rw [h0] at hj
    exact absurd hj (by simp)
theorem go_RM {μ : Mu} {tb : Tb} {cells slots k : Nat} (hL : LI μ tb k) (hk : k < 512) (hRM : RM cells slots k tb) (D : Int32) : ∃ ce sl, (1 ≤ ce ∧ 6 ≤ sl) ∧ (inR D 1 200 → 1 + Pp (KT_days (ix D) (0, th μ 0) tb) ≤ ce + Pp tb ∧ 6 + 2 * Pp (KT_days (ix D) (0, th μ 0) tb) ≤ sl + 2 * Pp tb) ∧ (cells + ce ≤ room_1.cells ∧ slots + sl ≤ room_1.slots) ∧ ∀ tb9, ((tb9 = tb ∧ ¬ (M_go μ D).2.1 38 0 = 0) ∨ (tb9 = KT_days (ix D) (0, th μ 0) tb ∧ (M_go μ D).2.1 38 0 = 0)) → RM (cells + ce) (slots + sl) (k + 1) tb9 := by
  have hP := Pp_daysle (q := (0, th μ 0)) (tb := tb) (RI_th hL.1.1 0) (n := 0) (m := ix D) (Nat.zero_le _)
  rw [show KT_days 0 (0, th μ 0) tb = tb from rfl] at hP
  have hM := Pp_max (LI_go hL hk (ix D)).1
  have hM0 := Pp_max hL.1
  obtain ⟨r1, r2⟩ := hRM
  by_cases h : inR D 1 200
  · refine ⟨1 + (Pp (KT_days (ix D) (0, th μ 0) tb) - Pp tb), 6 + 2 * (Pp (KT_days (ix D) (0, th μ 0) tb) - Pp tb), ⟨by omega, by omega⟩, fun _ => ⟨by omega, by omega⟩, ⟨Nat.le_trans (m := 601024) (by omega) (Nat.le_of_ble_eq_true rfl), Nat.le_trans (m := 7293034) (by omega) (Nat.le_of_ble_eq_true rfl)⟩, ?_⟩
    rintro tb9 (⟨-, q⟩ | ⟨rfl, -⟩)
    · exact absurd (go_38 hL.1.1 h) q
    · exact ⟨by omega, by omega⟩
  · refine ⟨1, 6, ⟨by omega, by omega⟩, fun q => absurd q h, ⟨Nat.le_trans (m := 601024) (by omega) (Nat.le_of_ble_eq_true rfl), Nat.le_trans (m := 7293034) (by omega) (Nat.le_of_ble_eq_true rfl)⟩, ?_⟩
    rintro tb9 (⟨rfl, -⟩ | ⟨rfl, -⟩)
    · exact ⟨by omega, by omega⟩
    · exact ⟨by omega, by omega⟩
theorem go_LI {μ : Mu} {tb : Tb} {k : Nat} (hL : LI μ tb k) (hk : k < 512) (D : Int32) : (∃ z, ¬ z = 0 ∧ (M_go μ D).2 = th μ z) ∨ ((M_go μ D).2.1 38 0 = 0 ∧ LI (M_go μ D).2 (KT_days (ix D) (0, th μ 0) tb) (k + 1)) := by
  rcases cs_go (μ := μ) D with h | ⟨h, e⟩
  · exact Or.inl h
  · exact Or.inr ⟨go_38 hL.1.1 h, by rw [e]; exact LI_go hL hk (ix D)⟩
theorem told_38 (μ : Mu) (b : Int32) : (M_meas (th μ 0) b).1 38 0 = 0 := by
  rw [M_meas_ne _ _ (by decide)]
  exact th_38 μ 0
theorem gain_38 (μ : Mu) (k n : Nat) : (M_g4 k n (up2 (up2 μ.1 38 0 0) 37 0 0)) 38 0 = 0 := by
  rw [M_g4_ne _ _ _ (by decide)]
  exact (congrFun (up2_ne (up2 μ.1 38 0 0) 37 0 0 38 (by decide)) 0).trans (if_pos ⟨rfl, rfl⟩)
theorem settle_38 (μ : Mu) (f : Int32) : (M_st1 f 64 (0, th μ 0)).2.1 38 0 = 0 := by
  rw [st1_1]
  exact th_38 μ 0
theorem cX_smp {Z : xZ} {lay : xK → Nat} {μ : Mu} {tb : Tb} {r : xK → Option xE} {q : Int32} : cX Z lay (up2 μ.1 36 0 q, μ.2) tb r = cX Z lay (M_sample μ q).2 tb r := by
  refine (cX_eq (μ := (up2 μ.1 36 0 q, μ.2)) (μ' := (M_sample μ q).2) (fun j hj => ?_) rfl).symm
  show up2 (up2 μ.1 38 0 0) 36 0 q j = up2 μ.1 36 0 q j
  funext y
  rw [up2_at, up2_at, up2_at, if_neg (fun z : j = 38 ∧ y = 0 => (com38 hj).1 z.1)]
theorem inR_nn {q h : Int32} (c : inR q 0 h) : ¬ q < 0 := Int32.not_lt.mpr c.1
