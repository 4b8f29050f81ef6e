set_option maxRecDepth 100000 in
set_option maxHeartbeats 4000000 in
theorem kyX4_begunParts (l : Launch) (Z : xZ) (B0 : Nat) (lay : xK → Nat) (C : xK → Option xE) (g p : Int32) : YM l yX4_begunParts cX4_begunParts 2 ((some FieldType.int)) 0 0 0 0 Z B0 [.int g, .int p] lay C (fun v lay' C' => lay = lay' ∧ v = some (.int (K_bp g p)) ∧ C' = C) := by
  refine YM_of myX4_begunParts.2 RX4 rfl [some (.int g), some (.int p)] rfl (Nat.le_of_ble_eq_true rfl) ?_
  intro P1 P2 P3 P4 P5 P6 P7 P8 X hr hnm
  refine v_iload_n X (xdec_at tX4_begunParts_0 0 rfl) rfl rfl ?_
  refine v_if_le (tgt := 18) X (xdec_at tX4_begunParts_0 1 rfl) (by decide) (fun c_1 => ?_) (fun c_1 => ?_)
  · refine v_iconst (v := 0) X (xdec_at tX4_begunParts_0 12 rfl) (by decide) ?_
    have e9 : K_bp g p = 0 := by simp [K_bp, c_1]
    exact v_iret X hr (xdec_at tX4_begunParts_0 13 rfl) (Nat.le_of_ble_eq_true rfl) (Nat.le_of_ble_eq_true rfl) ⟨rfl, by rw [e9], rfl⟩
  · refine v_iload_n X (xdec_at tX4_begunParts_0 2 rfl) rfl rfl ?_
    refine v_if_le (tgt := 18) X (xdec_at tX4_begunParts_0 3 rfl) (by decide) (fun c_5 => ?_) (fun c_5 => ?_)
    · refine v_iconst (v := 0) X (xdec_at tX4_begunParts_0 12 rfl) (by decide) ?_
      have e9 : K_bp g p = 0 := by simp [K_bp, c_1, c_5]
      exact v_iret X hr (xdec_at tX4_begunParts_0 13 rfl) (Nat.le_of_ble_eq_true rfl) (Nat.le_of_ble_eq_true rfl) ⟨rfl, by rw [e9], rfl⟩
    · refine v_iload_n X (xdec_at tX4_begunParts_0 4 rfl) rfl rfl ?_
      refine v_iconst (v := 1) X (xdec_at tX4_begunParts_0 5 rfl) (by decide) ?_
      refine v_isub X (xdec_at tX4_begunParts_0 6 rfl) ?_
      refine v_iload_n X (xdec_at tX4_begunParts_0 7 rfl) rfl rfl ?_
      refine v_idiv X (xdec_at tX4_begunParts_0 8 rfl) (fun q => c_1 (by rw [q]; decide)) ?_
      refine v_iconst (v := 1) X (xdec_at tX4_begunParts_0 9 rfl) (by decide) ?_
      refine v_iadd X (xdec_at tX4_begunParts_0 10 rfl) ?_
      refine v_goto (tgt := 19) X (xdec_at tX4_begunParts_0 11 rfl) (by decide) ?_
      have e9 : K_bp g p = (((g - 1) / p) + 1) := by simp [K_bp, c_1, c_5]
      exact v_iret X hr (xdec_at tX4_begunParts_0 13 rfl) (Nat.le_of_ble_eq_true rfl) (Nat.le_of_ble_eq_true rfl) ⟨rfl, by rw [e9], rfl⟩
set_option maxRecDepth 100000 in
set_option maxHeartbeats 4000000 in
theorem kyX2_cell (l : Launch) (Z : xZ) (B0 : Nat) (lay : xK → Nat) (C : xK → Option xE) (a b : Int32) : YM l yX2_cell cX2_cell 2 ((some FieldType.int)) 0 0 0 0 Z B0 [.int a, .int b] lay C (fun v lay' C' => lay = lay' ∧ v = some (.int (a * 8 + b)) ∧ C' = C) := by
  refine YM_of myX2_cell.2 RX2 rfl [some (.int a), some (.int b)] rfl (Nat.le_of_ble_eq_true rfl) ?_
  intro P1 P2 P3 P4 P5 P6 P7 P8 X hr hnm
  refine v_iload_n X (xdec_at tX2_cell_0 0 rfl) rfl rfl ?_
  refine v_bipush (v := 8) X (xdec_at tX2_cell_0 1 rfl) (by decide) ?_
  refine v_imul X (xdec_at tX2_cell_0 2 rfl) ?_
  refine v_iload_n X (xdec_at tX2_cell_0 3 rfl) rfl rfl ?_
  refine v_iadd X (xdec_at tX2_cell_0 4 rfl) ?_
  have e9 : a * 8 + b = ((a * 8) + b) := by rfl
  exact v_iret X hr (xdec_at tX2_cell_0 5 rfl) (Nat.le_of_ble_eq_true rfl) (Nat.le_of_ble_eq_true rfl) ⟨rfl, by rw [e9], rfl⟩
set_option maxRecDepth 100000 in
set_option maxHeartbeats 4000000 in
theorem kyX2_noneIfFar (l : Launch) (Z : xZ) (B0 : Nat) (lay : xK → Nat) (C : xK → Option xE) (a : Int32) : YM l yX2_noneIfFar cX2_noneIfFar 1 ((some FieldType.int)) 0 0 0 0 Z B0 [.int a] lay C (fun v lay' C' => lay = lay' ∧ v = some (.int (K_far a)) ∧ C' = C) := by
  refine YM_of myX2_noneIfFar.2 RX2 rfl [some (.int a)] rfl (Nat.le_of_ble_eq_true rfl) ?_
  intro P1 P2 P3 P4 P5 P6 P7 P8 X hr hnm
  refine v_iload_n X (xdec_at tX2_noneIfFar_0 0 rfl) rfl rfl ?_
  refine v_ldc (v := 1000000) X (xw_at tW_1 13 rfl) (xdec_at tX2_noneIfFar_0 1 rfl) ?_
  refine v_icmp_ge (tgt := 10) X (xdec_at tX2_noneIfFar_0 2 rfl) (by decide) (fun c_3 => ?_) (fun c_3 => ?_)
  · refine v_iconst (v := (-1)) X (xdec_at tX2_noneIfFar_0 5 rfl) (by decide) ?_
    have e9 : K_far a = (-1) := by simp [K_far, c_3]
    exact v_iret X hr (xdec_at tX2_noneIfFar_0 6 rfl) (Nat.le_of_ble_eq_true rfl) (Nat.le_of_ble_eq_true rfl) ⟨rfl, by rw [e9], rfl⟩
  · refine v_iload_n X (xdec_at tX2_noneIfFar_0 3 rfl) rfl rfl ?_
    refine v_goto (tgt := 11) X (xdec_at tX2_noneIfFar_0 4 rfl) (by decide) ?_
    have e9 : K_far a = a := by simp [K_far, c_3]
    exact v_iret X hr (xdec_at tX2_noneIfFar_0 6 rfl) (Nat.le_of_ble_eq_true rfl) (Nat.le_of_ble_eq_true rfl) ⟨rfl, by rw [e9], rfl⟩
set_option maxRecDepth 100000 in
set_option maxHeartbeats 4000000 in
theorem kyX1_rateOf (l : Launch) (Z : xZ) (B0 : Nat) (lay : xK → Nat) (μ : Mu) (tb : Tb) (r : xK → Option xE) (i : Nat) (hi : i < nP μ) (k g b : Int32) (hk : vp_in k 3) : YM l yX1_rateOf cX1_rateOf 5 ((some FieldType.int)) 1 21 0 0 Z B0 [.ref (lay (10, i)), .int k, .int g, .int b] lay (cX Z lay μ tb r) (fun v lay' C' => lay = lay' ∧ v = some (.int (K_rateOf μ i k g b)) ∧ C' = cX Z lay μ tb r) := by
  refine YM_of myX1_rateOf.2.2 RX1 rfl [some (.ref (lay (10, i))), some (.int k), some (.int g), some (.int b), none] rfl (Nat.le_of_ble_eq_true rfl) ?_
  intro P1 P2 P3 P4 P5 P6 P7 P8 X hr hnm
  refine v_aload_n X (xdec_at tX1_rateOf_0 0 rfl) rfl rfl ?_
  refine x_get (v := .ref (lay (12, i))) X hinX1 (10, i) (cX_P (μ := μ) hi) rfl 2 (by decide) (xw_at tW_7 10 rfl) rfl rfl rfl (xdec_at tX1_rateOf_0 1 rfl) ?_
  refine v_iload_n X (xdec_at tX1_rateOf_0 2 rfl) rfl rfl ?_
  refine x_iald (v := (row3 μ.1 2 i (ix k))) X (12, i) (cX_r2 (μ := μ) hi) hk rfl rfl (xdec_at tX1_rateOf_0 3 rfl) ?_
  refine v_iload_n X (xdec_at tX1_rateOf_0 4 rfl) rfl rfl ?_
  refine v_bipush (v := 20) X (xdec_at tX1_rateOf_0 5 rfl) (by decide) ?_
  refine v_isub X (xdec_at tX1_rateOf_0 6 rfl) ?_
  refine v_bipush (v := 20) X (xdec_at tX1_rateOf_0 7 rfl) (by decide) ?_
  refine v_callSN X myX4_begunParts [.int (g - 20), .int 20] [.int (row3 μ.1 2 i (ix k))] (kyX4_begunParts l Z B0 lay (cX Z lay μ tb r) (g - 20) 20) rfl rfl (by rfl) (Nat.le_of_ble_eq_true rfl) (xdec_at tX1_rateOf_0 8 rfl) ⟨(Nat.le_of_ble_eq_true rfl), (Nat.le_of_ble_eq_true rfl)⟩ ⟨(Nat.le_of_ble_eq_true rfl), (Nat.le_of_ble_eq_true rfl)⟩ ?_
  rintro v9 lay9 C9 ⟨rfl, rfl, rfl⟩
  refine v_imul X (xdec_at tX1_rateOf_0 9 rfl) ?_
  refine v_istore (lv' := [some (.ref (lay (10, i))), some (.int k), some (.int g), some (.int b), some (.int ((row3 μ.1 2 i (ix k)) * (K_bp (g - 20) 20)))]) X (xdec_at tX1_rateOf_0 10 rfl) (by decide) rfl ?_
  refine v_aload_n X (xdec_at tX1_rateOf_0 11 rfl) rfl rfl ?_
  refine x_get (v := .ref (lay (11, i))) X hinX1 (10, i) (cX_P (μ := μ) hi) rfl 1 (by decide) (xw_at tW_7 7 rfl) rfl rfl rfl (xdec_at tX1_rateOf_0 12 rfl) ?_
  refine v_iload_n X (xdec_at tX1_rateOf_0 13 rfl) rfl rfl ?_
  refine x_iald (v := (row3 μ.1 1 i (ix k))) X (11, i) (cX_r1 (μ := μ) hi) hk rfl rfl (xdec_at tX1_rateOf_0 14 rfl) ?_
  refine v_iload X (xdec_at tX1_rateOf_0 15 rfl) rfl ?_
  refine v_iadd X (xdec_at tX1_rateOf_0 16 rfl) ?_
  refine v_iload_n X (xdec_at tX1_rateOf_0 17 rfl) rfl rfl ?_
  refine v_if_eq (tgt := 36) X (xdec_at tX1_rateOf_0 18 rfl) (by decide) (fun c_28 => ?_) (fun c_28 => ?_)
  · refine v_iconst (v := 0) X (xdec_at tX1_rateOf_0 21 rfl) (by decide) ?_
    refine v_iadd X (xdec_at tX1_rateOf_0 22 rfl) ?_
    have e9 : K_rateOf μ i k g b = (((row3 μ.1 1 i (ix k)) + ((row3 μ.1 2 i (ix k)) * (K_bp (g - 20) 20))) + 0) := by simp [K_rateOf, (eq_true c_28)]
    exact v_iret X hr (xdec_at tX1_rateOf_0 23 rfl) (Nat.le_of_ble_eq_true rfl) (Nat.le_of_ble_eq_true rfl) ⟨rfl, by rw [e9], rfl⟩
  · refine v_bipush (v := 50) X (xdec_at tX1_rateOf_0 19 rfl) (by decide) ?_
    refine v_goto (tgt := 37) X (xdec_at tX1_rateOf_0 20 rfl) (by decide) ?_
    refine v_iadd X (xdec_at tX1_rateOf_0 22 rfl) ?_
    have e9 : K_rateOf μ i k g b = (((row3 μ.1 1 i (ix k)) + ((row3 μ.1 2 i (ix k)) * (K_bp (g - 20) 20))) + 50) := by simp [K_rateOf, c_28]
    exact v_iret X hr (xdec_at tX1_rateOf_0 23 rfl) (Nat.le_of_ble_eq_true rfl) (Nat.le_of_ble_eq_true rfl) ⟨rfl, by rw [e9], rfl⟩
set_option maxRecDepth 100000 in
set_option maxHeartbeats 4000000 in
theorem kyX1_chargeFor (l : Launch) (Z : xZ) (B0 : Nat) (lay : xK → Nat) (μ : Mu) (tb : Tb) (r : xK → Option xE) (i : Nat) (hi : i < nP μ) (g : Int32) : YM l yX1_chargeFor cX1_chargeFor 2 ((some FieldType.long)) 1 21 0 0 Z B0 [.ref (lay (10, i)), .int g] lay (cX Z lay μ tb r) (fun v lay' C' => lay = lay' ∧ v = some (.long ((μ.1 4 i).toInt64 * (K_bp g 10).toInt64)) ∧ C' = cX Z lay μ tb r) := by
  refine YM_of myX1_chargeFor.2.2 RX1 rfl [some (.ref (lay (10, i))), some (.int g)] rfl (Nat.le_of_ble_eq_true rfl) ?_
  intro P1 P2 P3 P4 P5 P6 P7 P8 X hr hnm
  refine v_aload_n X (xdec_at tX1_chargeFor_0 0 rfl) rfl rfl ?_
  refine x_get (v := .int (μ.1 4 i)) X hinX1 (10, i) (cX_P (μ := μ) hi) rfl 5 (by decide) (xw_at tW_7 16 rfl) rfl rfl rfl (xdec_at tX1_chargeFor_0 1 rfl) ?_
  refine v_i2l X (xdec_at tX1_chargeFor_0 2 rfl) rfl ?_
  refine v_iload_n X (xdec_at tX1_chargeFor_0 3 rfl) rfl rfl ?_
  refine v_bipush (v := 10) X (xdec_at tX1_chargeFor_0 4 rfl) (by decide) ?_
  refine v_callSN X myX4_begunParts [.int g, .int 10] [.long ((μ.1 4 i)).toInt64] (kyX4_begunParts l Z B0 lay (cX Z lay μ tb r) g 10) rfl rfl (by rfl) (Nat.le_of_ble_eq_true rfl) (xdec_at tX1_chargeFor_0 5 rfl) ⟨(Nat.le_of_ble_eq_true rfl), (Nat.le_of_ble_eq_true rfl)⟩ ⟨(Nat.le_of_ble_eq_true rfl), (Nat.le_of_ble_eq_true rfl)⟩ ?_
  rintro v9 lay9 C9 ⟨rfl, rfl, rfl⟩
  refine v_i2l X (xdec_at tX1_chargeFor_0 6 rfl) rfl ?_
  refine v_lmul X (xdec_at tX1_chargeFor_0 7 rfl) ?_
  have e9 : (μ.1 4 i).toInt64 * (K_bp g 10).toInt64 = (((μ.1 4 i)).toInt64 * ((K_bp g 10)).toInt64) := by rfl
  exact v_lret X hr (xdec_at tX1_chargeFor_0 8 rfl) (Nat.le_of_ble_eq_true rfl) (Nat.le_of_ble_eq_true rfl) ⟨rfl, by rw [e9], rfl⟩
set_option maxRecDepth 100000 in
set_option maxHeartbeats 4000000 in
theorem kyX4_pay (l : Launch) (Z : xZ) (B0 : Nat) (lay : xK → Nat) (μ : Mu) (tb : Tb) (r : xK → Option xE) (i j : Nat) (hi : i < nP μ) (hj : j < nP μ) (q : Int64) : YM l yX4_pay cX4_pay 4 ((none : Option FieldType)) 0 0 0 0 Z B0 [.ref (lay (10, i)), .ref (lay (10, j)), .long q] lay (cX Z lay μ tb r) (fun v lay' C' => lay = lay' ∧ v = none ∧ C' = cX Z lay (M_pays μ i j q) tb r) := by
  refine YM_of myX4_pay.2 RX4 rfl [some (.ref (lay (10, i))), some (.ref (lay (10, j))), some (.long q), none] rfl (Nat.le_of_ble_eq_true rfl) ?_
  intro P1 P2 P3 P4 P5 P6 P7 P8 X hr hnm
  refine v_aload_n X (xdec_at tX4_pay_0 0 rfl) rfl rfl ?_
  refine v_dup X (xdec_at tX4_pay_0 1 rfl) rfl ?_
  refine x_get (v := .long (μ.2 7 i)) X hinX1 (10, i) (cX_P (μ := μ) hi) rfl 8 (by decide) (xw_at tW_7 23 rfl) rfl rfl rfl (xdec_at tX4_pay_0 2 rfl) ?_
  refine v_lload_n X (xdec_at tX4_pay_0 3 rfl) rfl rfl ?_
  refine v_lsub X (xdec_at tX4_pay_0 4 rfl) ?_
  refine x_put (C' := (cX Z lay (μ.1, (up2 μ.2 7 i ((μ.2 7 i) - q))) tb r)) X hinX1 tyX1 tyX1_ok nmX1 (10, i) (cX_P (μ := μ) hi) rfl 8 (by decide) (xw_at tW_7 23 rfl) rfl rfl rfl rfl rfl (cw_P8 (μ := μ) (h := hi)) (xdec_at tX4_pay_0 5 rfl) ?_
  refine v_aload_n X (xdec_at tX4_pay_0 6 rfl) rfl rfl ?_
  refine v_dup X (xdec_at tX4_pay_0 7 rfl) rfl ?_
  refine x_get (v := .long ((up2 μ.2 7 i ((μ.2 7 i) - q)) 7 j)) X hinX1 (10, j) (cX_P (μ := (μ.1, (up2 μ.2 7 i ((μ.2 7 i) - q)))) hj) rfl 8 (by decide) (xw_at tW_7 23 rfl) rfl rfl rfl (xdec_at tX4_pay_0 8 rfl) ?_
  refine v_lload_n X (xdec_at tX4_pay_0 9 rfl) rfl rfl ?_
  refine v_ladd X (xdec_at tX4_pay_0 10 rfl) ?_
  refine x_put (C' := (cX Z lay (μ.1, (up2 (up2 μ.2 7 i ((μ.2 7 i) - q)) 7 j (((up2 μ.2 7 i ((μ.2 7 i) - q)) 7 j) + q))) tb r)) X hinX1 tyX1 tyX1_ok nmX1 (10, j) (cX_P (μ := (μ.1, (up2 μ.2 7 i ((μ.2 7 i) - q)))) hj) rfl 8 (by decide) (xw_at tW_7 23 rfl) rfl rfl rfl rfl rfl (cw_P8 (μ := (μ.1, (up2 μ.2 7 i ((μ.2 7 i) - q)))) (h := hj)) (xdec_at tX4_pay_0 11 rfl) ?_
  exact v_vret X hr (xdec_at tX4_pay_0 12 rfl) (Nat.le_of_ble_eq_true rfl) (Nat.le_of_ble_eq_true rfl) ⟨rfl, rfl, rfl⟩
set_option maxRecDepth 100000 in
set_option maxHeartbeats 4000000 in
theorem kyX4_gainOf (l : Launch) (Z : xZ) (B0 : Nat) (lay : xK → Nat) (μ : Mu) (tb : Tb) (r : xK → Option xE) (i j : Nat) (hi : i < nP μ) (hj : j < nP μ) (hlay : lay (10, i) = lay (10, j) → i = j) : YM l yX4_gainOf cX4_gainOf 2 ((some FieldType.int)) 0 0 0 0 Z B0 [.ref (lay (10, i)), .ref (lay (10, j))] lay (cX Z lay μ tb r) (fun v lay' C' => lay = lay' ∧ v = some (.int (K_gainOf μ i j)) ∧ C' = cX Z lay μ tb r) := by
  refine YM_of myX4_gainOf.2 RX4 rfl [some (.ref (lay (10, i))), some (.ref (lay (10, j)))] rfl (Nat.le_of_ble_eq_true rfl) ?_
  intro P1 P2 P3 P4 P5 P6 P7 P8 X hr hnm
  refine v_aload_n X (xdec_at tX4_gainOf_0 0 rfl) rfl rfl ?_
  refine v_aload_n X (xdec_at tX4_gainOf_0 1 rfl) rfl rfl ?_
  refine v_acmpR_eq (tgt := 12) X (xdec_at tX4_gainOf_0 2 rfl) (by decide) (fun c_2 => ?_) (fun c_2 => ?_)
  · have hij : i = j := hlay (c_2)
    refine v_iconst (v := 0) X (xdec_at tX4_gainOf_0 6 rfl) (by decide) ?_
    have e9 : K_gainOf μ i j = 0 := by simp [K_gainOf, hij]
    exact v_iret X hr (xdec_at tX4_gainOf_0 7 rfl) (Nat.le_of_ble_eq_true rfl) (Nat.le_of_ble_eq_true rfl) ⟨rfl, by rw [e9], rfl⟩
  · have hij : ¬ i = j := fun z => c_2 (by rw [z])
    refine v_aload_n X (xdec_at tX4_gainOf_0 3 rfl) rfl rfl ?_
    refine x_get (v := .int (μ.1 5 i)) X hinX1 (10, i) (cX_P (μ := μ) hi) rfl 6 (by decide) (xw_at tW_7 19 rfl) rfl rfl rfl (xdec_at tX4_gainOf_0 4 rfl) ?_
    refine v_if_ne (tgt := 14) X (xdec_at tX4_gainOf_0 5 rfl) (by decide) (fun c_9 => ?_) (fun c_9 => ?_)
    · refine v_aload_n X (xdec_at tX4_gainOf_0 8 rfl) rfl rfl ?_
      refine x_get (v := .ref (lay (11, j))) X hinX1 (10, j) (cX_P (μ := μ) hj) rfl 1 (by decide) (xw_at tW_7 9 rfl) rfl rfl rfl (xdec_at tX4_gainOf_0 9 rfl) ?_
      refine v_iconst (v := 0) X (xdec_at tX4_gainOf_0 10 rfl) (by decide) ?_
      refine x_iald (v := (row3 μ.1 1 j (ix 0))) X (11, j) (cX_r1 (μ := μ) hj) (vp_in_nI (n := 0) (N := 3) (by decide) (by decide)) rfl rfl (xdec_at tX4_gainOf_0 11 rfl) ?_
      refine v_aload_n X (xdec_at tX4_gainOf_0 12 rfl) rfl rfl ?_
      refine x_get (v := .int (μ.1 5 i)) X hinX1 (10, i) (cX_P (μ := μ) hi) rfl 6 (by decide) (xw_at tW_7 19 rfl) rfl rfl rfl (xdec_at tX4_gainOf_0 13 rfl) ?_
      refine v_isub X (xdec_at tX4_gainOf_0 14 rfl) ?_
      have e9 : K_gainOf μ i j = ((row3 μ.1 1 j (ix 0)) - (μ.1 5 i)) := by simp [K_gainOf, hij, c_9]
      exact v_iret X hr (xdec_at tX4_gainOf_0 15 rfl) (Nat.le_of_ble_eq_true rfl) (Nat.le_of_ble_eq_true rfl) ⟨rfl, by rw [e9], rfl⟩
    · refine v_iconst (v := 0) X (xdec_at tX4_gainOf_0 6 rfl) (by decide) ?_
      have e9 : K_gainOf μ i j = 0 := by simp [K_gainOf, hij, (eq_true c_9)]
      exact v_iret X hr (xdec_at tX4_gainOf_0 7 rfl) (Nat.le_of_ble_eq_true rfl) (Nat.le_of_ble_eq_true rfl) ⟨rfl, by rw [e9], rfl⟩
set_option maxRecDepth 100000 in
set_option maxHeartbeats 4000000 in
theorem kyX3_isUnderWay (l : Launch) (Z : xZ) (B0 : Nat) (lay : xK → Nat) (μ : Mu) (tb : Tb) (r : xK → Option xE) (t : Nat) (ht : t < nT μ) : YM l yX3_isUnderWay cX3_isUnderWay 1 ((some FieldType.boolean)) 0 0 0 0 Z B0 [.ref (lay (30, t))] lay (cX Z lay μ tb r) (fun v lay' C' => lay = lay' ∧ C' = cX Z lay μ tb r ∧ ((v = some (.int 1) ∧ undW μ t) ∨ (v = some (.int 0) ∧ ¬ undW μ t))) := by
  refine YM_of myX3_isUnderWay.2.2 RX3 rfl [some (.ref (lay (30, t)))] rfl (Nat.le_of_ble_eq_true rfl) ?_
  intro P1 P2 P3 P4 P5 P6 P7 P8 X hr hnm
  refine v_aload_n X (xdec_at tX3_isUnderWay_0 0 rfl) rfl rfl ?_
  refine x_get (v := .int (μ.1 23 t)) X hinX3 (30, t) (cX_T (μ := μ) ht) rfl 8 (by decide) (xw_at tW_12 37 rfl) rfl rfl rfl (xdec_at tX3_isUnderWay_0 1 rfl) ?_
  refine v_if_eq (tgt := 15) X (xdec_at tX3_isUnderWay_0 2 rfl) (by decide) (fun c_4 => ?_) (fun c_4 => ?_)
  · refine v_iconst (v := 1) X (xdec_at tX3_isUnderWay_0 7 rfl) (by decide) ?_
    refine v_goto (tgt := 20) X (xdec_at tX3_isUnderWay_0 8 rfl) (by decide) ?_
    exact v_zret X hr (xdec_at tX3_isUnderWay_0 10 rfl) (Nat.le_of_ble_eq_true rfl) (Nat.le_of_ble_eq_true rfl) (by rfl) ⟨rfl, rfl, Or.inl ⟨rfl, by simp [undW, (eq_true c_4)]⟩⟩
  · refine v_aload_n X (xdec_at tX3_isUnderWay_0 3 rfl) rfl rfl ?_
    refine x_get (v := .int (μ.1 23 t)) X hinX3 (30, t) (cX_T (μ := μ) ht) rfl 8 (by decide) (xw_at tW_12 37 rfl) rfl rfl rfl (xdec_at tX3_isUnderWay_0 4 rfl) ?_
    refine v_iconst (v := 1) X (xdec_at tX3_isUnderWay_0 5 rfl) (by decide) ?_
    refine v_icmp_ne (tgt := 19) X (xdec_at tX3_isUnderWay_0 6 rfl) (by decide) (fun c_12 => ?_) (fun c_12 => ?_)
    · refine v_iconst (v := 0) X (xdec_at tX3_isUnderWay_0 9 rfl) (by decide) ?_
      exact v_zret X hr (xdec_at tX3_isUnderWay_0 10 rfl) (Nat.le_of_ble_eq_true rfl) (Nat.le_of_ble_eq_true rfl) (by rfl) ⟨rfl, rfl, Or.inr ⟨rfl, by simp [undW, c_4, c_12]⟩⟩
    · refine v_iconst (v := 1) X (xdec_at tX3_isUnderWay_0 7 rfl) (by decide) ?_
      refine v_goto (tgt := 20) X (xdec_at tX3_isUnderWay_0 8 rfl) (by decide) ?_
      exact v_zret X hr (xdec_at tX3_isUnderWay_0 10 rfl) (Nat.le_of_ble_eq_true rfl) (Nat.le_of_ble_eq_true rfl) (by rfl) ⟨rfl, rfl, Or.inl ⟨rfl, by simp [undW, c_4, (eq_true c_12)]⟩⟩
set_option maxRecDepth 100000 in
set_option maxHeartbeats 4000000 in
theorem kyX3_taxOfNow (l : Launch) (Z : xZ) (B0 : Nat) (lay : xK → Nat) (μ : Mu) (tb : Tb) (r : xK → Option xE) (t : Nat) (ht : t < nT μ) (h18 : ix (μ.1 18 t) < nP μ) (h19 : ix (μ.1 19 t) < nP μ) : YM l yX3_taxOfNow cX3_taxOfNow 4 ((some FieldType.long)) 0 0 0 0 Z B0 [.ref (lay (30, t))] lay (cX Z lay μ tb r) (fun v lay' C' => lay = lay' ∧ v = some (.long (K_tax μ t)) ∧ C' = cX Z lay μ tb r) := by
  refine YM_of myX3_taxOfNow.2.2 RX3 rfl [some (.ref (lay (30, t))), none, none, none] rfl (Nat.le_of_ble_eq_true rfl) ?_
  intro P1 P2 P3 P4 P5 P6 P7 P8 X hr hnm
  refine v_ldc2 (v := 2) X (xw_at tW_6 1 rfl) (xdec_at tX3_taxOfNow_0 0 rfl) ?_
  refine v_aload_n X (xdec_at tX3_taxOfNow_0 1 rfl) rfl rfl ?_
  refine x_get (v := .int (μ.1 22 t)) X hinX3 (30, t) (cX_T (μ := μ) ht) rfl 3 (by decide) (xw_at tW_12 28 rfl) rfl rfl rfl (xdec_at tX3_taxOfNow_0 2 rfl) ?_
  refine v_i2l X (xdec_at tX3_taxOfNow_0 3 rfl) rfl ?_
  refine v_lmul X (xdec_at tX3_taxOfNow_0 4 rfl) ?_
  refine v_lstore_n (lv' := [some (.ref (lay (30, t))), some (.long (2 * ((μ.1 22 t)).toInt64)), none, none]) X (xdec_at tX3_taxOfNow_0 5 rfl) rfl (by decide) rfl ?_
  refine v_aload_n X (xdec_at tX3_taxOfNow_0 6 rfl) rfl rfl ?_
  refine x_get (v := .ref (lay (10, ix (μ.1 18 t)))) X hinX3 (30, t) (cX_T (μ := μ) ht) rfl 1 (by decide) (xw_at tW_12 24 rfl) rfl rfl rfl (xdec_at tX3_taxOfNow_0 7 rfl) ?_
  refine x_get (v := .ref (lay (11, ix (μ.1 18 t)))) X hinX1 (10, ix (μ.1 18 t)) (cX_P (μ := μ) h18) rfl 1 (by decide) (xw_at tW_7 8 rfl) rfl rfl rfl (xdec_at tX3_taxOfNow_0 8 rfl) ?_
  refine v_iconst (v := 0) X (xdec_at tX3_taxOfNow_0 9 rfl) (by decide) ?_
  refine x_iald (v := (row3 μ.1 1 (ix (μ.1 18 t)) (ix 0))) X (11, ix (μ.1 18 t)) (cX_r1 (μ := μ) h18) (vp_in_nI (n := 0) (N := 3) (by decide) (by decide)) rfl rfl (xdec_at tX3_taxOfNow_0 10 rfl) ?_
  refine v_istore_n (lv' := [some (.ref (lay (30, t))), some (.long (2 * ((μ.1 22 t)).toInt64)), none, some (.int (row3 μ.1 1 (ix (μ.1 18 t)) (ix 0)))]) X (xdec_at tX3_taxOfNow_0 11 rfl) rfl (by decide) rfl ?_
  refine v_iload_n X (xdec_at tX3_taxOfNow_0 12 rfl) rfl rfl ?_
  refine v_if_ne (tgt := 28) X (xdec_at tX3_taxOfNow_0 13 rfl) (by decide) (fun c_21 => ?_) (fun c_21 => ?_)
  · refine v_lload_n X (xdec_at tX3_taxOfNow_0 16 rfl) rfl rfl ?_
    refine v_aload_n X (xdec_at tX3_taxOfNow_0 17 rfl) rfl rfl ?_
    refine x_get (v := .ref (lay (10, ix (μ.1 19 t)))) X hinX3 (30, t) (cX_T (μ := μ) ht) rfl 5 (by decide) (xw_at tW_12 31 rfl) rfl rfl rfl (xdec_at tX3_taxOfNow_0 18 rfl) ?_
    refine x_get (v := .ref (lay (11, ix (μ.1 19 t)))) X hinX1 (10, ix (μ.1 19 t)) (cX_P (μ := μ) h19) rfl 1 (by decide) (xw_at tW_7 8 rfl) rfl rfl rfl (xdec_at tX3_taxOfNow_0 19 rfl) ?_
    refine v_iconst (v := 0) X (xdec_at tX3_taxOfNow_0 20 rfl) (by decide) ?_
    refine x_iald (v := (row3 μ.1 1 (ix (μ.1 19 t)) (ix 0))) X (11, ix (μ.1 19 t)) (cX_r1 (μ := μ) h19) (vp_in_nI (n := 0) (N := 3) (by decide) (by decide)) rfl rfl (xdec_at tX3_taxOfNow_0 21 rfl) ?_
    refine v_i2l X (xdec_at tX3_taxOfNow_0 22 rfl) rfl ?_
    refine v_lmul X (xdec_at tX3_taxOfNow_0 23 rfl) ?_
    refine v_iload_n X (xdec_at tX3_taxOfNow_0 24 rfl) rfl rfl ?_
    refine v_i2l X (xdec_at tX3_taxOfNow_0 25 rfl) rfl ?_
    refine v_ldiv X (xdec_at tX3_taxOfNow_0 26 rfl) (fun q => c_21 (by have := congrArg Int64.toInt32 q; simpa using this)) ?_
    have e9 : K_tax μ t = (((2 * ((μ.1 22 t)).toInt64) * ((row3 μ.1 1 (ix (μ.1 19 t)) (ix 0))).toInt64) / ((row3 μ.1 1 (ix (μ.1 18 t)) (ix 0))).toInt64) := by simp [K_tax, c_21]
    exact v_lret X hr (xdec_at tX3_taxOfNow_0 27 rfl) (Nat.le_of_ble_eq_true rfl) (Nat.le_of_ble_eq_true rfl) ⟨rfl, by rw [e9], rfl⟩
  · refine v_lload_n X (xdec_at tX3_taxOfNow_0 14 rfl) rfl rfl ?_
    refine v_goto (tgt := 43) X (xdec_at tX3_taxOfNow_0 15 rfl) (by decide) ?_
    have e9 : K_tax μ t = (2 * ((μ.1 22 t)).toInt64) := by simp [K_tax, (eq_true c_21)]
    exact v_lret X hr (xdec_at tX3_taxOfNow_0 27 rfl) (Nat.le_of_ble_eq_true rfl) (Nat.le_of_ble_eq_true rfl) ⟨rfl, by rw [e9], rfl⟩
set_option maxRecDepth 100000 in
set_option maxHeartbeats 4000000 in
theorem kyX3_latestHand (l : Launch) (Z : xZ) (B0 : Nat) (lay : xK → Nat) (μ : Mu) (tb : Tb) (r : xK → Option xE) (t : Nat) (ht : t < nT μ) (hh : ¬ μ.1 35 t ≤ 0 → vp_in (μ.1 35 t - 1) (tb.2.2 t)) : YM l yX3_latestHand cX3_latestHand 1 ((some FieldType.int)) 0 0 0 0 Z B0 [.ref (lay (30, t))] lay (cX Z lay μ tb r) (fun v lay' C' => lay = lay' ∧ v = some (.int (K_last μ tb.2.1 t)) ∧ C' = cX Z lay μ tb r) := by
  refine YM_of myX3_latestHand.2.2 RX3 rfl [some (.ref (lay (30, t)))] rfl (Nat.le_of_ble_eq_true rfl) ?_
  intro P1 P2 P3 P4 P5 P6 P7 P8 X hr hnm
  refine v_aload_n X (xdec_at tX3_latestHand_0 0 rfl) rfl rfl ?_
  refine x_get (v := .int (μ.1 35 t)) X hinX3 (30, t) (cX_T (μ := μ) ht) rfl 14 (by decide) (xw_at tW_13 9 rfl) rfl rfl rfl (xdec_at tX3_latestHand_0 1 rfl) ?_
  refine v_if_le (tgt := 21) X (xdec_at tX3_latestHand_0 2 rfl) (by decide) (fun c_4 => ?_) (fun c_4 => ?_)
  · refine v_iconst (v := (-1)) X (xdec_at tX3_latestHand_0 11 rfl) (by decide) ?_
    have e9 : K_last μ tb.2.1 t = (-1) := by simp [K_last, c_4]
    exact v_iret X hr (xdec_at tX3_latestHand_0 12 rfl) (Nat.le_of_ble_eq_true rfl) (Nat.le_of_ble_eq_true rfl) ⟨rfl, by rw [e9], rfl⟩
  · refine v_aload_n X (xdec_at tX3_latestHand_0 3 rfl) rfl rfl ?_
    refine x_get (v := .ref (lay (31, t))) X hinX3 (30, t) (cX_T (μ := μ) ht) rfl 13 (by decide) (xw_at tW_13 7 rfl) rfl rfl rfl (xdec_at tX3_latestHand_0 4 rfl) ?_
    refine v_aload_n X (xdec_at tX3_latestHand_0 5 rfl) rfl rfl ?_
    refine x_get (v := .int (μ.1 35 t)) X hinX3 (30, t) (cX_T (μ := μ) ht) rfl 14 (by decide) (xw_at tW_13 9 rfl) rfl rfl rfl (xdec_at tX3_latestHand_0 6 rfl) ?_
    refine v_iconst (v := 1) X (xdec_at tX3_latestHand_0 7 rfl) (by decide) ?_
    refine v_isub X (xdec_at tX3_latestHand_0 8 rfl) ?_
    refine x_iald (v := (tb.2.1 t (ix ((μ.1 35 t) - 1)))) X (31, t) (cX_h (μ := μ) ht) (hh (by assumption)) rfl rfl (xdec_at tX3_latestHand_0 9 rfl) ?_
    refine v_goto (tgt := 22) X (xdec_at tX3_latestHand_0 10 rfl) (by decide) ?_
    have e9 : K_last μ tb.2.1 t = (tb.2.1 t (ix ((μ.1 35 t) - 1))) := by simp [K_last, c_4]
    exact v_iret X hr (xdec_at tX3_latestHand_0 12 rfl) (Nat.le_of_ble_eq_true rfl) (Nat.le_of_ble_eq_true rfl) ⟨rfl, by rw [e9], rfl⟩
set_option maxRecDepth 100000 in
set_option maxHeartbeats 4000000 in
theorem kyX4_sample (l : Launch) (Z : xZ) (B0 : Nat) (lay : xK → Nat) (μ : Mu) (tb : Tb) (r : xK → Option xE) (c : Int32) (hc : c = 0 ∨ c = 1) (h36 : μ.1 36 0 = 0 ∨ μ.1 36 0 = 1) : YM l yX4_sample cX4_sample 3 ((some FieldType.boolean)) 0 0 0 0 Z B0 [.ref (lay (0, 0)), .int c] lay (cX Z lay μ tb r) (fun v lay' C' => lay = lay' ∧ v = some (.int (μ.1 36 0)) ∧ C' = cX Z lay (up2 μ.1 36 0 c, μ.2) tb r) := by
  refine YM_of myX4_sample.2.2 RX4 rfl [some (.ref (lay (0, 0))), some (.int c), none] rfl (Nat.le_of_ble_eq_true rfl) ?_
  intro P1 P2 P3 P4 P5 P6 P7 P8 X hr hnm
  refine v_aload_n X (xdec_at tX4_sample_0 0 rfl) rfl rfl ?_
  refine x_get (v := .int (μ.1 36 0)) X hinX4 (0, 0) cX_X rfl 5 (by decide) (xw_at tW_2 18 rfl) rfl rfl rfl (xdec_at tX4_sample_0 1 rfl) ?_
  refine v_istore_n (lv' := [some (.ref (lay (0, 0))), some (.int c), some (.int (μ.1 36 0))]) X (xdec_at tX4_sample_0 2 rfl) rfl (by decide) rfl ?_
  refine v_aload_n X (xdec_at tX4_sample_0 3 rfl) rfl rfl ?_
  refine v_iload_n X (xdec_at tX4_sample_0 4 rfl) rfl rfl ?_
  refine x_put (C' := (cX Z lay ((up2 μ.1 36 0 c), μ.2) tb r)) X hinX4 tyX4 tyX4_ok nmX4 (0, 0) cX_X rfl 5 (by decide) (xw_at tW_2 18 rfl) rfl rfl (nb01 hc) (by rcases hc with h9 | h9 <;> rw [h9] <;> rfl) rfl (cw_X5) (xdec_at tX4_sample_0 5 rfl) ?_
  refine v_iload_n X (xdec_at tX4_sample_0 6 rfl) rfl rfl ?_
  exact v_zret X hr (xdec_at tX4_sample_0 7 rfl) (Nat.le_of_ble_eq_true rfl) (Nat.le_of_ble_eq_true rfl) (nb01 h36) ⟨rfl, rfl, rfl⟩
