set_option maxRecDepth 100000 in
set_option maxHeartbeats 4000000 in
theorem kyX3_arrivesToday (l : Launch) (Z : xZ) (B0 : Nat) (lay : xK → Nat) (μ : Mu) (tb : Tb) (r : xK → Option xE) (hI : RI μ) (t : Nat) (ht : t < nT μ) (ht40 : t < 40) (h24 : ix (μ.1 24 t) < nP μ) (h : Nat) (e35 : μ.1 35 t = nI h) (hle : h ≤ tb.2.2 t) (hh : h < 4096) (hn4 : tb.2.2 t < 2 ^ 31) (h1n : ¬ μ.1 21 t = 0 → 1 ≤ tb.2.2 t) (hr2 : r (200, 0) = none) (hS : ¬ (80000 : Int32) ≤ μ.1 30 0) (ce sl : Nat) (hce : μ.1 26 t - 1 ≤ 0 → ¬ μ.1 21 t = 0 → h = tb.2.2 t → 1 ≤ ce ∧ 2 * tb.2.2 t ≤ sl) : YM l yX3_arrivesToday cX3_arrivesToday 1 (some FieldType.boolean) 4 112 ce sl Z B0 [.ref (lay (30, t))] lay (cX Z lay μ tb r) (fun v lay' C' => lyk lay lay' ∧ ((v = some (.int 0) ∧ ¬ μ.1 26 t - 1 ≤ 0 ∧ C' = cX Z lay' (up2 μ.1 26 t (μ.1 26 t - 1), μ.2) tb r) ∨ (v = some (.int 1) ∧ μ.1 26 t - 1 ≤ 0 ∧ C' = cX Z lay' (M_signs (up2 (up2 (up2 μ.1 26 t (μ.1 26 t - 1)) 23 t 0) 25 t (-1), μ.2) t (μ.1 24 t)) (KT_sign μ tb t (μ.1 24 t)) r))) := by
  refine YM_of myX3_arrivesToday.2.2 RX3 rfl [some (.ref (lay (30, t)))] rfl (Nat.le_of_ble_eq_true rfl) ?_
  intro P1 P2 P3 P4 P5 P6 P7 P8 X hr hnm
  refine v_aload_n X (xdec_at tX3_arrivesToday_0 0 rfl) rfl rfl ?_
  refine v_dup X (xdec_at tX3_arrivesToday_0 1 rfl) rfl ?_
  refine x_get (v := .int (μ.1 26 t)) X hinX3 (30, t) (cX_T (μ := μ) ht) rfl 9 (by decide) (xw_at tW_12 39 rfl) rfl rfl rfl (xdec_at tX3_arrivesToday_0 2 rfl) ?_
  refine v_iconst (v := 1) X (xdec_at tX3_arrivesToday_0 3 rfl) (by decide) ?_
  refine v_isub X (xdec_at tX3_arrivesToday_0 4 rfl) ?_
  refine x_put (C' := (cX Z lay ((up2 μ.1 26 t ((μ.1 26 t) - 1)), μ.2) tb r)) X hinX3 tyX3 tyX3_ok nmX3 (30, t) (cX_T (μ := μ) ht) rfl 9 (by decide) (xw_at tW_12 39 rfl) rfl rfl rfl rfl rfl (cw_T9 (μ := μ) (h := ht)) (xdec_at tX3_arrivesToday_0 5 rfl) ?_
  refine v_aload_n X (xdec_at tX3_arrivesToday_0 6 rfl) rfl rfl ?_
  refine x_get (v := .int ((μ.1 26 t) - 1)) X hinX3 (30, t) (cX_T (μ := ((up2 μ.1 26 t ((μ.1 26 t) - 1)), μ.2)) ht) rfl 9 (by decide) (xw_at tW_12 39 rfl) rfl rfl (by simp [fT, up2_at]) (xdec_at tX3_arrivesToday_0 7 rfl) ?_
  refine v_if_le (tgt := 19) X (xdec_at tX3_arrivesToday_0 8 rfl) (by decide) (fun c_14 => ?_) (fun c_14 => ?_)
  · refine v_aload_n X (xdec_at tX3_arrivesToday_0 11 rfl) rfl rfl ?_
    refine v_null X (xdec_at tX3_arrivesToday_0 12 rfl) ?_
    refine x_put (C' := (cX Z lay ((up2 (up2 μ.1 26 t ((μ.1 26 t) - 1)) 25 t (-1)), μ.2) tb r)) X hinX3 tyX3 tyX3_ok nmX3 (30, t) (cX_T (μ := ((up2 μ.1 26 t ((μ.1 26 t) - 1)), μ.2)) ht) rfl 7 (by decide) (xw_at tW_12 35 rfl) rfl rfl rfl rfl rfl (fun y9 => by rw [← tLeg_n lay]; exact cw_T7 (μ := ((up2 μ.1 26 t ((μ.1 26 t) - 1)), μ.2)) (h := ht) (v := (-1)) y9) (xdec_at tX3_arrivesToday_0 13 rfl) ?_
    refine v_aload_n X (xdec_at tX3_arrivesToday_0 14 rfl) rfl rfl ?_
    refine v_iconst (v := 0) X (xdec_at tX3_arrivesToday_0 15 rfl) (by decide) ?_
    refine x_put (C' := (cX Z lay ((up2 (up2 (up2 μ.1 26 t ((μ.1 26 t) - 1)) 25 t (-1)) 23 t 0), μ.2) tb r)) X hinX3 tyX3 tyX3_ok nmX3 (30, t) (cX_T (μ := ((up2 (up2 μ.1 26 t ((μ.1 26 t) - 1)) 25 t (-1)), μ.2)) ht) rfl 8 (by decide) (xw_at tW_12 37 rfl) rfl rfl rfl rfl rfl (cw_T8 (μ := ((up2 (up2 μ.1 26 t ((μ.1 26 t) - 1)) 25 t (-1)), μ.2)) (h := ht)) (xdec_at tX3_arrivesToday_0 16 rfl) ?_
    refine v_aload_n X (xdec_at tX3_arrivesToday_0 17 rfl) rfl rfl ?_
    refine v_callV X myX3_sign [] [] (kyX3_sign l Z B0 lay (cX Z lay ((up2 (up2 (up2 μ.1 26 t ((μ.1 26 t) - 1)) 25 t (-1)) 23 t 0), μ.2) tb r) t (ix (μ.1 24 t)) h (tb.2.2 t) (fT lay ((up2 (up2 (up2 μ.1 26 t ((μ.1 26 t) - 1)) 25 t (-1)) 23 t 0), μ.2) t) (fP lay ((up2 (up2 (up2 μ.1 26 t ((μ.1 26 t) - 1)) 25 t (-1)) 23 t 0), μ.2) (ix (μ.1 24 t))) (tb.2.1 t) (μ.1 21 t) (cX_T (μ := ((up2 (up2 (up2 μ.1 26 t ((μ.1 26 t) - 1)) 25 t (-1)) 23 t 0), μ.2)) ht) (cX_h (μ := ((up2 (up2 (up2 μ.1 26 t ((μ.1 26 t) - 1)) 25 t (-1)) 23 t 0), μ.2)) ht) (cX_P (μ := ((up2 (up2 (up2 μ.1 26 t ((μ.1 26 t) - 1)) 25 t (-1)) 23 t 0), μ.2)) h24) rfl rfl (congrArg Value.int e35) rfl rfl hr2 hle hh hn4 h1n ce sl (hce c_14)) (xw_at tW_10 14 rfl) (30, t) (cX_T (μ := ((up2 (up2 (up2 μ.1 26 t ((μ.1 26 t) - 1)) 25 t (-1)) 23 t 0), μ.2)) ht) rfl rfl rfl rfl (by rfl) (Nat.le_of_ble_eq_true rfl) (xdec_at tX3_arrivesToday_0 18 rfl) ⟨(Nat.le_of_ble_eq_true rfl), (Nat.le_of_ble_eq_true rfl)⟩ ⟨by show 0 + ce ≤ ce; omega, by show 0 + sl ≤ sl; omega⟩ ?_
    rintro v9 lay9 C9 ⟨rfl, h9⟩
    obtain ⟨hly, rfl⟩ := sign_world (μ := ((up2 (up2 (up2 μ.1 26 t ((μ.1 26 t) - 1)) 25 t (-1)) 23 t 0), μ.2)) ht e35 hh (in_eq (hI.at ht40) (by decide)) h9
    refine v_iconst (v := 1) X (xdec_at tX3_arrivesToday_0 19 rfl) (by decide) ?_
    have hc := signs_com (μ := (up2 (up2 (up2 μ.1 26 t (μ.1 26 t - 1)) 23 t 0) 25 t (-1), μ.2)) (t := t) (v := μ.1 24 t) hS
    have e3 : ((up2 (up2 (up2 μ.1 26 t ((μ.1 26 t) - 1)) 25 t (-1)) 23 t 0), μ.2) = (up2 (up2 (up2 μ.1 26 t (μ.1 26 t - 1)) 23 t 0) 25 t (-1), μ.2) := Prod.ext (up2_comm _ (j := 25) (j' := 23) (by decide) _ _ _ _) rfl
    exact v_zret X hr (xdec_at tX3_arrivesToday_0 20 rfl) (by show 0 + ce ≤ ce; omega) (by show 0 + sl ≤ sl; omega) (by rfl) ⟨hly, Or.inr ⟨rfl, c_14, by rw [e3]; exact (cX_eq hc.1 hc.2).symm⟩⟩
  · refine v_iconst (v := 0) X (xdec_at tX3_arrivesToday_0 9 rfl) (by decide) ?_
    exact v_zret X hr (xdec_at tX3_arrivesToday_0 10 rfl) (Nat.zero_le _) (Nat.zero_le _) (by rfl) ⟨fun _ _ => rfl, Or.inl ⟨rfl, c_14, rfl⟩⟩
set_option maxRecDepth 100000 in
set_option maxHeartbeats 4000000 in
theorem kyX4_oweDue (l : Launch) (Z : xZ) (B0 : Nat) (lay : xK → Nat) (μ : Mu) (tb : Tb) (r : xK → Option xE) (hI : RI μ) (t : Nat) (ht : t < nT μ) (ht40 : t < 40) (h18 : ix (μ.1 18 t) < nP μ) (h19 : ix (μ.1 19 t) < nP μ) (h24 : ix (μ.1 24 t) < nP μ) : YM l yX4_oweDue cX4_oweDue 3 ((none : Option FieldType)) 1 23 0 0 Z B0 [.ref (lay (0, 0)), .ref (lay (30, t))] lay (cX Z lay μ tb r) (fun v lay' C' => lay = lay' ∧ v = none ∧ C' = cX Z lay (K_owe μ t) tb r) := by
  refine YM_of myX4_oweDue.2.2 RX4 rfl [some (.ref (lay (0, 0))), some (.ref (lay (30, t))), none] rfl (Nat.le_of_ble_eq_true rfl) ?_
  intro P1 P2 P3 P4 P5 P6 P7 P8 X hr hnm
  refine v_aload_n X (xdec_at tX4_oweDue_0 0 rfl) rfl rfl ?_
  refine x_get (v := .ref (lay (10, ix (μ.1 19 t)))) X hinX3 (30, t) (cX_T (μ := μ) ht) rfl 5 (by decide) (xw_at tW_12 32 rfl) rfl rfl rfl (xdec_at tX4_oweDue_0 1 rfl) ?_
  refine x_get (v := .ref (lay (13, ix (μ.1 19 t)))) X hinX1 (10, ix (μ.1 19 t)) (cX_P (μ := μ) h19) rfl 3 (by decide) (xw_at tW_7 13 rfl) rfl rfl rfl (xdec_at tX4_oweDue_0 2 rfl) ?_
  refine v_aload_n X (xdec_at tX4_oweDue_0 3 rfl) rfl rfl ?_
  refine x_get (v := .int (μ.1 17 t)) X hinX3 (30, t) (cX_T (μ := μ) ht) rfl 0 (by decide) (xw_at tW_12 23 rfl) rfl rfl rfl (xdec_at tX4_oweDue_0 4 rfl) ?_
  refine x_iald (v := (μ.1 3 (3 * ix (μ.1 19 t) + ix (μ.1 17 t)))) X (13, ix (μ.1 19 t)) (cX_r3 (μ := μ) h19) (hI.kd ht40) rfl (row3_at (in_ix (hI.kd ht40))) (xdec_at tX4_oweDue_0 5 rfl) ?_
  refine v_istore_n (lv' := [some (.ref (lay (0, 0))), some (.ref (lay (30, t))), some (.int (μ.1 3 (3 * ix (μ.1 19 t) + ix (μ.1 17 t))))]) X (xdec_at tX4_oweDue_0 6 rfl) rfl (by decide) rfl ?_
  refine v_aload_n X (xdec_at tX4_oweDue_0 7 rfl) rfl rfl ?_
  refine x_get (v := .int (μ.1 21 t)) X hinX3 (30, t) (cX_T (μ := μ) ht) rfl 4 (by decide) (xw_at tW_12 30 rfl) rfl rfl rfl (xdec_at tX4_oweDue_0 8 rfl) ?_
  refine v_if_eq (tgt := 36) X (xdec_at tX4_oweDue_0 9 rfl) (by decide) (fun c_17 => ?_) (fun c_17 => ?_)
  · refine v_aload_n X (xdec_at tX4_oweDue_0 18 rfl) rfl rfl ?_
    refine x_get (v := .int (μ.1 36 0)) X hinX4 (0, 0) cX_X rfl 5 (by decide) (xw_at tW_2 18 rfl) rfl rfl rfl (xdec_at tX4_oweDue_0 19 rfl) ?_
    refine v_if_eq (tgt := 63) X (xdec_at tX4_oweDue_0 20 rfl) (by decide) (fun c_40 => ?_) (fun c_40 => ?_)
    · have e9 : K_owe μ t = μ := by simp [K_owe, (eq_true c_17), (eq_true c_40)]
      exact v_vret X hr (xdec_at tX4_oweDue_0 33 rfl) (Nat.le_of_ble_eq_true rfl) (Nat.le_of_ble_eq_true rfl) ⟨rfl, rfl, by rw [e9]⟩
    · refine v_aload_n X (xdec_at tX4_oweDue_0 21 rfl) rfl rfl ?_
      refine x_get (v := .ref (lay (10, ix (μ.1 18 t)))) X hinX3 (30, t) (cX_T (μ := μ) ht) rfl 1 (by decide) (xw_at tW_12 25 rfl) rfl rfl rfl (xdec_at tX4_oweDue_0 22 rfl) ?_
      refine x_get (v := .ref (lay (14, ix (μ.1 18 t)))) X hinX1 (10, ix (μ.1 18 t)) (cX_P (μ := μ) h18) rfl 4 (by decide) (xw_at tW_7 15 rfl) rfl rfl rfl (xdec_at tX4_oweDue_0 23 rfl) ?_
      refine v_aload_n X (xdec_at tX4_oweDue_0 24 rfl) rfl rfl ?_
      refine x_get (v := .ref (lay (10, ix (μ.1 19 t)))) X hinX3 (30, t) (cX_T (μ := μ) ht) rfl 5 (by decide) (xw_at tW_12 32 rfl) rfl rfl rfl (xdec_at tX4_oweDue_0 25 rfl) ?_
      refine x_get (v := .int (μ.1 19 t)) X hinX1 (10, ix (μ.1 19 t)) (cX_P (μ := μ) h19) rfl 0 (by decide) (xw_at tW_7 6 rfl) rfl rfl (congrArg Value.int (in_eq (hI.ta ht40) (by decide))) (xdec_at tX4_oweDue_0 26 rfl) ?_
      refine v_dup2_11 X (xdec_at tX4_oweDue_0 27 rfl) rfl rfl ?_
      refine x_lald (v := (μ.2 9 (8 * ix (μ.1 18 t) + ix (μ.1 19 t)))) X (14, ix (μ.1 18 t)) (cX_c (μ := μ) h18) (hI.ta ht40) rfl (row8_at (in_ix (hI.ta ht40))) (xdec_at tX4_oweDue_0 28 rfl) ?_
      refine v_iload_n X (xdec_at tX4_oweDue_0 29 rfl) rfl rfl ?_
      refine v_i2l X (xdec_at tX4_oweDue_0 30 rfl) rfl ?_
      refine v_ladd X (xdec_at tX4_oweDue_0 31 rfl) ?_
      refine x_last (C' := (cX Z lay (μ.1, (up2 μ.2 9 (8 * ix (μ.1 18 t) + ix (μ.1 19 t)) ((μ.2 9 (8 * ix (μ.1 18 t) + ix (μ.1 19 t))) + ((μ.1 3 (3 * ix (μ.1 19 t) + ix (μ.1 17 t)))).toInt64))) tb r)) X (14, ix (μ.1 18 t)) (cX_c (μ := μ) h18) (hI.ta ht40) rfl (cw_c (μ := μ) (h := h18) (in_ix (hI.ta ht40))) (xdec_at tX4_oweDue_0 32 rfl) ?_
      have e9 : K_owe μ t = (μ.1, (up2 μ.2 9 (8 * ix (μ.1 18 t) + ix (μ.1 19 t)) ((μ.2 9 (8 * ix (μ.1 18 t) + ix (μ.1 19 t))) + ((μ.1 3 (3 * ix (μ.1 19 t) + ix (μ.1 17 t)))).toInt64))) := by simp [K_owe, (eq_true c_17), c_40]
      exact v_vret X hr (xdec_at tX4_oweDue_0 33 rfl) (Nat.le_of_ble_eq_true rfl) (Nat.le_of_ble_eq_true rfl) ⟨rfl, rfl, by rw [e9]⟩
  · refine v_aload_n X (xdec_at tX4_oweDue_0 10 rfl) rfl rfl ?_
    refine x_get (v := .ref (lay (10, ix (μ.1 18 t)))) X hinX3 (30, t) (cX_T (μ := μ) ht) rfl 1 (by decide) (xw_at tW_12 25 rfl) rfl rfl rfl (xdec_at tX4_oweDue_0 11 rfl) ?_
    refine v_aload_n X (xdec_at tX4_oweDue_0 12 rfl) rfl rfl ?_
    refine x_get (v := .ref (lay (10, ix (μ.1 19 t)))) X hinX3 (30, t) (cX_T (μ := μ) ht) rfl 5 (by decide) (xw_at tW_12 32 rfl) rfl rfl rfl (xdec_at tX4_oweDue_0 13 rfl) ?_
    refine v_iload_n X (xdec_at tX4_oweDue_0 14 rfl) rfl rfl ?_
    refine v_i2l X (xdec_at tX4_oweDue_0 15 rfl) rfl ?_
    refine v_callS X myX4_pay [.ref (lay (10, ix (μ.1 18 t))), .ref (lay (10, ix (μ.1 19 t))), .long ((μ.1 3 (3 * ix (μ.1 19 t) + ix (μ.1 17 t)))).toInt64] [] (kyX4_pay l Z B0 lay μ tb r (ix (μ.1 18 t)) (ix (μ.1 19 t)) h18 h19 (((μ.1 3 (3 * ix (μ.1 19 t) + ix (μ.1 17 t)))).toInt64)) (xw_at tW_10 35 rfl) rfl rfl (by rfl) (Nat.le_of_ble_eq_true rfl) (xdec_at tX4_oweDue_0 16 rfl) ⟨(Nat.le_of_ble_eq_true rfl), (Nat.le_of_ble_eq_true rfl)⟩ ⟨(Nat.le_of_ble_eq_true rfl), (Nat.le_of_ble_eq_true rfl)⟩ ?_
    rintro v9 lay9 C9 ⟨rfl, rfl, rfl⟩
    refine v_goto (tgt := 63) X (xdec_at tX4_oweDue_0 17 rfl) (by decide) ?_
    have e9 : K_owe μ t = (M_pays μ (ix (μ.1 18 t)) (ix (μ.1 19 t)) (((μ.1 3 (3 * ix (μ.1 19 t) + ix (μ.1 17 t)))).toInt64)) := by simp [K_owe, c_17]
    exact v_vret X hr (xdec_at tX4_oweDue_0 33 rfl) (Nat.le_of_ble_eq_true rfl) (Nat.le_of_ble_eq_true rfl) ⟨rfl, rfl, by rw [e9]⟩
set_option maxRecDepth 100000 in
set_option maxHeartbeats 4000000 in
theorem kyX4_endAtTarget (l : Launch) (Z : xZ) (B0 : Nat) (lay : xK → Nat) (μ : Mu) (tb : Tb) (r : xK → Option xE) (hI : RI μ) (t : Nat) (ht : t < nT μ) (ht40 : t < 40) (h18 : ix (μ.1 18 t) < nP μ) (h19 : ix (μ.1 19 t) < nP μ) (h24 : ix (μ.1 24 t) < nP μ) : YM l yX4_endAtTarget cX4_endAtTarget 4 ((none : Option FieldType)) 2 45 0 0 Z B0 [.ref (lay (0, 0)), .ref (lay (30, t))] lay (cX Z lay μ tb r) (fun v lay' C' => lay = lay' ∧ v = none ∧ C' = cX Z lay (M_comes μ t).2 tb r) := by
  refine YM_of myX4_endAtTarget.2.2 RX4 rfl [some (.ref (lay (0, 0))), some (.ref (lay (30, t))), none, none] rfl (Nat.le_of_ble_eq_true rfl) ?_
  intro P1 P2 P3 P4 P5 P6 P7 P8 X hr hnm
  refine v_inj fun hinj => ?_
  refine v_aload_n X (xdec_at tX4_endAtTarget_0 0 rfl) rfl rfl ?_
  refine x_get (v := .int (μ.1 27 t)) X hinX3 (30, t) (cX_T (μ := μ) ht) rfl 11 (by decide) (xw_at tW_13 4 rfl) rfl rfl rfl (xdec_at tX4_endAtTarget_0 1 rfl) ?_
  refine v_if_eq (tgt := 13) X (xdec_at tX4_endAtTarget_0 2 rfl) (by decide) (fun c_4 => ?_) (fun c_4 => ?_)
  · refine v_aload_n X (xdec_at tX4_endAtTarget_0 7 rfl) rfl rfl ?_
    refine v_callV X myX3_taxOfNow [] [] (kyX3_taxOfNow l Z B0 lay μ tb r t ht h18 h19) (xw_at tW_5 37 rfl) (30, t) (cX_T (μ := μ) ht) rfl rfl rfl rfl (by rfl) (Nat.le_of_ble_eq_true rfl) (xdec_at tX4_endAtTarget_0 8 rfl) ⟨(Nat.le_of_ble_eq_true rfl), (Nat.le_of_ble_eq_true rfl)⟩ ⟨(Nat.le_of_ble_eq_true rfl), (Nat.le_of_ble_eq_true rfl)⟩ ?_
    rintro v9 lay9 C9 ⟨rfl, rfl, rfl⟩
    rw [tax_eq hI ht40]
    refine v_lstore_n (lv' := [some (.ref (lay (0, 0))), some (.ref (lay (30, t))), some (.long (M_taxOf μ t)), none]) X (xdec_at tX4_endAtTarget_0 9 rfl) rfl (by decide) rfl ?_
    refine v_aload_n X (xdec_at tX4_endAtTarget_0 10 rfl) rfl rfl ?_
    refine x_get (v := .int (μ.1 28 t)) X hinX3 (30, t) (cX_T (μ := μ) ht) rfl 10 (by decide) (xw_at tW_13 2 rfl) rfl rfl rfl (xdec_at tX4_endAtTarget_0 11 rfl) ?_
    refine v_if_eq (tgt := 56) X (xdec_at tX4_endAtTarget_0 12 rfl) (by decide) (fun c_22 => ?_) (fun c_22 => ?_)
    · refine v_aload_n X (xdec_at tX4_endAtTarget_0 30 rfl) rfl rfl ?_
      refine v_iconst (v := 2) X (xdec_at tX4_endAtTarget_0 31 rfl) (by decide) ?_
      refine x_put (C' := (cX Z lay ((up2 μ.1 23 t 2), μ.2) tb r)) X hinX3 tyX3 tyX3_ok nmX3 (30, t) (cX_T (μ := μ) ht) rfl 8 (by decide) (xw_at tW_12 38 rfl) rfl rfl rfl rfl rfl (cw_T8 (μ := μ) (h := ht)) (xdec_at tX4_endAtTarget_0 32 rfl) ?_
      refine v_aload_n X (xdec_at tX4_endAtTarget_0 33 rfl) rfl rfl ?_
      refine x_get (v := .ref (lay (10, ix (μ.1 19 t)))) X hinX3 (30, t) (cX_T (μ := ((up2 μ.1 23 t 2), μ.2)) ht) rfl 5 (by decide) (xw_at tW_12 32 rfl) rfl rfl rfl (xdec_at tX4_endAtTarget_0 34 rfl) ?_
      refine v_dup X (xdec_at tX4_endAtTarget_0 35 rfl) rfl ?_
      refine x_get (v := .long (μ.2 8 (ix (μ.1 19 t)))) X hinX1 (10, ix (μ.1 19 t)) (cX_P (μ := ((up2 μ.1 23 t 2), μ.2)) h19) rfl 9 (by decide) (xw_at tW_7 25 rfl) rfl rfl rfl (xdec_at tX4_endAtTarget_0 36 rfl) ?_
      refine v_lload_n X (xdec_at tX4_endAtTarget_0 37 rfl) rfl rfl ?_
      refine v_ladd X (xdec_at tX4_endAtTarget_0 38 rfl) ?_
      refine x_put (C' := (cX Z lay ((up2 μ.1 23 t 2), (up2 μ.2 8 (ix (μ.1 19 t)) ((μ.2 8 (ix (μ.1 19 t))) + (M_taxOf μ t)))) tb r)) X hinX1 tyX1 tyX1_ok nmX1 (10, ix (μ.1 19 t)) (cX_P (μ := ((up2 μ.1 23 t 2), μ.2)) h19) rfl 9 (by decide) (xw_at tW_7 25 rfl) rfl rfl rfl rfl rfl (cw_P9 (μ := ((up2 μ.1 23 t 2), μ.2)) (h := h19)) (xdec_at tX4_endAtTarget_0 39 rfl) ?_
      refine v_aload_n X (xdec_at tX4_endAtTarget_1 0 rfl) rfl rfl ?_
      refine x_get (v := .ref (lay (10, ix (μ.1 19 t)))) X hinX3 (30, t) (cX_T (μ := ((up2 μ.1 23 t 2), (up2 μ.2 8 (ix (μ.1 19 t)) ((μ.2 8 (ix (μ.1 19 t))) + (M_taxOf μ t))))) ht) rfl 5 (by decide) (xw_at tW_12 32 rfl) rfl rfl rfl (xdec_at tX4_endAtTarget_1 1 rfl) ?_
      refine v_aload_n X (xdec_at tX4_endAtTarget_1 2 rfl) rfl rfl ?_
      refine x_get (v := .ref (lay (10, ix (μ.1 18 t)))) X hinX3 (30, t) (cX_T (μ := ((up2 μ.1 23 t 2), (up2 μ.2 8 (ix (μ.1 19 t)) ((μ.2 8 (ix (μ.1 19 t))) + (M_taxOf μ t))))) ht) rfl 1 (by decide) (xw_at tW_12 25 rfl) rfl rfl rfl (xdec_at tX4_endAtTarget_1 3 rfl) ?_
      refine v_acmpR_eq (tgt := 90) X (xdec_at tX4_endAtTarget_1 4 rfl) (by decide) (fun c_82 => ?_) (fun c_82 => ?_)
      · have h82 : μ.1 19 t = μ.1 18 t := ix_inj (hI.ta ht40) (hI.or ht40) (by decide) (P_inj hinj h19 h18 (c_82))
        have e9 : (M_comes μ t).2 = ((up2 μ.1 23 t 2), (up2 μ.2 8 (ix (μ.1 19 t)) ((μ.2 8 (ix (μ.1 19 t))) + (M_taxOf μ t)))) := by rw [comes_eq hI ht40 c_4 (fun z => z.1 c_22)]; exact if_pos h82
        exact v_vret X hr (xdec_at tX4_endAtTarget_1 8 rfl) (Nat.le_of_ble_eq_true rfl) (Nat.le_of_ble_eq_true rfl) ⟨rfl, rfl, by rw [e9]⟩
      · have h82 : ¬ μ.1 19 t = μ.1 18 t := fun z => c_82 (by rw [z])
        refine v_aload_n X (xdec_at tX4_endAtTarget_1 5 rfl) rfl rfl ?_
        refine v_aload_n X (xdec_at tX4_endAtTarget_1 6 rfl) rfl rfl ?_
        refine v_callV X myX4_oweDue [.ref (lay (30, t))] [] (kyX4_oweDue l Z B0 lay ((up2 μ.1 23 t 2), (up2 μ.2 8 (ix (μ.1 19 t)) ((μ.2 8 (ix (μ.1 19 t))) + (M_taxOf μ t)))) tb r (RI_F (A := μ.1) (J := (up2 μ.2 8 (ix (μ.1 19 t)) ((μ.2 8 (ix (μ.1 19 t))) + (M_taxOf μ t)))) hI (j := 23) rfl _ _) t ht ht40 h18 h19 h24) (xw_at tW_10 32 rfl) (0, 0) cX_X rfl rfl rfl rfl (by rfl) (Nat.le_of_ble_eq_true rfl) (xdec_at tX4_endAtTarget_1 7 rfl) ⟨(Nat.le_of_ble_eq_true rfl), (Nat.le_of_ble_eq_true rfl)⟩ ⟨(Nat.le_of_ble_eq_true rfl), (Nat.le_of_ble_eq_true rfl)⟩ ?_
        rintro v9 lay9 C9 ⟨rfl, rfl, rfl⟩
        have e9 : (M_comes μ t).2 = (K_owe ((up2 μ.1 23 t 2), (up2 μ.2 8 (ix (μ.1 19 t)) ((μ.2 8 (ix (μ.1 19 t))) + (M_taxOf μ t)))) t) := by rw [comes_eq hI ht40 c_4 (fun z => z.1 c_22)]; exact if_neg h82
        exact v_vret X hr (xdec_at tX4_endAtTarget_1 8 rfl) (Nat.le_of_ble_eq_true rfl) (Nat.le_of_ble_eq_true rfl) ⟨rfl, rfl, by rw [e9]⟩
    · refine v_lload_n X (xdec_at tX4_endAtTarget_0 13 rfl) rfl rfl ?_
      refine v_lconst (v := 0) X (xdec_at tX4_endAtTarget_0 14 rfl) (by decide) ?_
      refine v_lcmp X (xdec_at tX4_endAtTarget_0 15 rfl) ?_
      refine v_if_le (tgt := 56) X (xdec_at tX4_endAtTarget_0 16 rfl) (by decide) (fun c_28 => ?_) (fun c_28 => ?_)
      · refine v_aload_n X (xdec_at tX4_endAtTarget_0 30 rfl) rfl rfl ?_
        refine v_iconst (v := 2) X (xdec_at tX4_endAtTarget_0 31 rfl) (by decide) ?_
        refine x_put (C' := (cX Z lay ((up2 μ.1 23 t 2), μ.2) tb r)) X hinX3 tyX3 tyX3_ok nmX3 (30, t) (cX_T (μ := μ) ht) rfl 8 (by decide) (xw_at tW_12 38 rfl) rfl rfl rfl rfl rfl (cw_T8 (μ := μ) (h := ht)) (xdec_at tX4_endAtTarget_0 32 rfl) ?_
        refine v_aload_n X (xdec_at tX4_endAtTarget_0 33 rfl) rfl rfl ?_
        refine x_get (v := .ref (lay (10, ix (μ.1 19 t)))) X hinX3 (30, t) (cX_T (μ := ((up2 μ.1 23 t 2), μ.2)) ht) rfl 5 (by decide) (xw_at tW_12 32 rfl) rfl rfl rfl (xdec_at tX4_endAtTarget_0 34 rfl) ?_
        refine v_dup X (xdec_at tX4_endAtTarget_0 35 rfl) rfl ?_
        refine x_get (v := .long (μ.2 8 (ix (μ.1 19 t)))) X hinX1 (10, ix (μ.1 19 t)) (cX_P (μ := ((up2 μ.1 23 t 2), μ.2)) h19) rfl 9 (by decide) (xw_at tW_7 25 rfl) rfl rfl rfl (xdec_at tX4_endAtTarget_0 36 rfl) ?_
        refine v_lload_n X (xdec_at tX4_endAtTarget_0 37 rfl) rfl rfl ?_
        refine v_ladd X (xdec_at tX4_endAtTarget_0 38 rfl) ?_
        refine x_put (C' := (cX Z lay ((up2 μ.1 23 t 2), (up2 μ.2 8 (ix (μ.1 19 t)) ((μ.2 8 (ix (μ.1 19 t))) + (M_taxOf μ t)))) tb r)) X hinX1 tyX1 tyX1_ok nmX1 (10, ix (μ.1 19 t)) (cX_P (μ := ((up2 μ.1 23 t 2), μ.2)) h19) rfl 9 (by decide) (xw_at tW_7 25 rfl) rfl rfl rfl rfl rfl (cw_P9 (μ := ((up2 μ.1 23 t 2), μ.2)) (h := h19)) (xdec_at tX4_endAtTarget_0 39 rfl) ?_
        refine v_aload_n X (xdec_at tX4_endAtTarget_1 0 rfl) rfl rfl ?_
        refine x_get (v := .ref (lay (10, ix (μ.1 19 t)))) X hinX3 (30, t) (cX_T (μ := ((up2 μ.1 23 t 2), (up2 μ.2 8 (ix (μ.1 19 t)) ((μ.2 8 (ix (μ.1 19 t))) + (M_taxOf μ t))))) ht) rfl 5 (by decide) (xw_at tW_12 32 rfl) rfl rfl rfl (xdec_at tX4_endAtTarget_1 1 rfl) ?_
        refine v_aload_n X (xdec_at tX4_endAtTarget_1 2 rfl) rfl rfl ?_
        refine x_get (v := .ref (lay (10, ix (μ.1 18 t)))) X hinX3 (30, t) (cX_T (μ := ((up2 μ.1 23 t 2), (up2 μ.2 8 (ix (μ.1 19 t)) ((μ.2 8 (ix (μ.1 19 t))) + (M_taxOf μ t))))) ht) rfl 1 (by decide) (xw_at tW_12 25 rfl) rfl rfl rfl (xdec_at tX4_endAtTarget_1 3 rfl) ?_
        refine v_acmpR_eq (tgt := 90) X (xdec_at tX4_endAtTarget_1 4 rfl) (by decide) (fun c_82 => ?_) (fun c_82 => ?_)
        · have h82 : μ.1 19 t = μ.1 18 t := ix_inj (hI.ta ht40) (hI.or ht40) (by decide) (P_inj hinj h19 h18 (c_82))
          have e9 : (M_comes μ t).2 = ((up2 μ.1 23 t 2), (up2 μ.2 8 (ix (μ.1 19 t)) ((μ.2 8 (ix (μ.1 19 t))) + (M_taxOf μ t)))) := by rw [comes_eq hI ht40 c_4 (fun z => z.2.1 c_28)]; exact if_pos h82
          exact v_vret X hr (xdec_at tX4_endAtTarget_1 8 rfl) (Nat.le_of_ble_eq_true rfl) (Nat.le_of_ble_eq_true rfl) ⟨rfl, rfl, by rw [e9]⟩
        · have h82 : ¬ μ.1 19 t = μ.1 18 t := fun z => c_82 (by rw [z])
          refine v_aload_n X (xdec_at tX4_endAtTarget_1 5 rfl) rfl rfl ?_
          refine v_aload_n X (xdec_at tX4_endAtTarget_1 6 rfl) rfl rfl ?_
          refine v_callV X myX4_oweDue [.ref (lay (30, t))] [] (kyX4_oweDue l Z B0 lay ((up2 μ.1 23 t 2), (up2 μ.2 8 (ix (μ.1 19 t)) ((μ.2 8 (ix (μ.1 19 t))) + (M_taxOf μ t)))) tb r (RI_F (A := μ.1) (J := (up2 μ.2 8 (ix (μ.1 19 t)) ((μ.2 8 (ix (μ.1 19 t))) + (M_taxOf μ t)))) hI (j := 23) rfl _ _) t ht ht40 h18 h19 h24) (xw_at tW_10 32 rfl) (0, 0) cX_X rfl rfl rfl rfl (by rfl) (Nat.le_of_ble_eq_true rfl) (xdec_at tX4_endAtTarget_1 7 rfl) ⟨(Nat.le_of_ble_eq_true rfl), (Nat.le_of_ble_eq_true rfl)⟩ ⟨(Nat.le_of_ble_eq_true rfl), (Nat.le_of_ble_eq_true rfl)⟩ ?_
          rintro v9 lay9 C9 ⟨rfl, rfl, rfl⟩
          have e9 : (M_comes μ t).2 = (K_owe ((up2 μ.1 23 t 2), (up2 μ.2 8 (ix (μ.1 19 t)) ((μ.2 8 (ix (μ.1 19 t))) + (M_taxOf μ t)))) t) := by rw [comes_eq hI ht40 c_4 (fun z => z.2.1 c_28)]; exact if_neg h82
          exact v_vret X hr (xdec_at tX4_endAtTarget_1 8 rfl) (Nat.le_of_ble_eq_true rfl) (Nat.le_of_ble_eq_true rfl) ⟨rfl, rfl, by rw [e9]⟩
      · refine v_aload_n X (xdec_at tX4_endAtTarget_0 17 rfl) rfl rfl ?_
        refine x_get (v := .ref (lay (10, ix (μ.1 19 t)))) X hinX3 (30, t) (cX_T (μ := μ) ht) rfl 5 (by decide) (xw_at tW_12 32 rfl) rfl rfl rfl (xdec_at tX4_endAtTarget_0 18 rfl) ?_
        refine v_aload_n X (xdec_at tX4_endAtTarget_0 19 rfl) rfl rfl ?_
        refine x_get (v := .ref (lay (10, ix (μ.1 18 t)))) X hinX3 (30, t) (cX_T (μ := μ) ht) rfl 1 (by decide) (xw_at tW_12 25 rfl) rfl rfl rfl (xdec_at tX4_endAtTarget_0 20 rfl) ?_
        refine v_acmpR_eq (tgt := 56) X (xdec_at tX4_endAtTarget_0 21 rfl) (by decide) (fun c_39 => ?_) (fun c_39 => ?_)
        · have h39 : μ.1 19 t = μ.1 18 t := ix_inj (hI.ta ht40) (hI.or ht40) (by decide) (P_inj hinj h19 h18 (c_39))
          refine v_aload_n X (xdec_at tX4_endAtTarget_0 30 rfl) rfl rfl ?_
          refine v_iconst (v := 2) X (xdec_at tX4_endAtTarget_0 31 rfl) (by decide) ?_
          refine x_put (C' := (cX Z lay ((up2 μ.1 23 t 2), μ.2) tb r)) X hinX3 tyX3 tyX3_ok nmX3 (30, t) (cX_T (μ := μ) ht) rfl 8 (by decide) (xw_at tW_12 38 rfl) rfl rfl rfl rfl rfl (cw_T8 (μ := μ) (h := ht)) (xdec_at tX4_endAtTarget_0 32 rfl) ?_
          refine v_aload_n X (xdec_at tX4_endAtTarget_0 33 rfl) rfl rfl ?_
          refine x_get (v := .ref (lay (10, ix (μ.1 19 t)))) X hinX3 (30, t) (cX_T (μ := ((up2 μ.1 23 t 2), μ.2)) ht) rfl 5 (by decide) (xw_at tW_12 32 rfl) rfl rfl rfl (xdec_at tX4_endAtTarget_0 34 rfl) ?_
          refine v_dup X (xdec_at tX4_endAtTarget_0 35 rfl) rfl ?_
          refine x_get (v := .long (μ.2 8 (ix (μ.1 19 t)))) X hinX1 (10, ix (μ.1 19 t)) (cX_P (μ := ((up2 μ.1 23 t 2), μ.2)) h19) rfl 9 (by decide) (xw_at tW_7 25 rfl) rfl rfl rfl (xdec_at tX4_endAtTarget_0 36 rfl) ?_
          refine v_lload_n X (xdec_at tX4_endAtTarget_0 37 rfl) rfl rfl ?_
          refine v_ladd X (xdec_at tX4_endAtTarget_0 38 rfl) ?_
          refine x_put (C' := (cX Z lay ((up2 μ.1 23 t 2), (up2 μ.2 8 (ix (μ.1 19 t)) ((μ.2 8 (ix (μ.1 19 t))) + (M_taxOf μ t)))) tb r)) X hinX1 tyX1 tyX1_ok nmX1 (10, ix (μ.1 19 t)) (cX_P (μ := ((up2 μ.1 23 t 2), μ.2)) h19) rfl 9 (by decide) (xw_at tW_7 25 rfl) rfl rfl rfl rfl rfl (cw_P9 (μ := ((up2 μ.1 23 t 2), μ.2)) (h := h19)) (xdec_at tX4_endAtTarget_0 39 rfl) ?_
          refine v_aload_n X (xdec_at tX4_endAtTarget_1 0 rfl) rfl rfl ?_
          refine x_get (v := .ref (lay (10, ix (μ.1 19 t)))) X hinX3 (30, t) (cX_T (μ := ((up2 μ.1 23 t 2), (up2 μ.2 8 (ix (μ.1 19 t)) ((μ.2 8 (ix (μ.1 19 t))) + (M_taxOf μ t))))) ht) rfl 5 (by decide) (xw_at tW_12 32 rfl) rfl rfl rfl (xdec_at tX4_endAtTarget_1 1 rfl) ?_
          refine v_aload_n X (xdec_at tX4_endAtTarget_1 2 rfl) rfl rfl ?_
          refine x_get (v := .ref (lay (10, ix (μ.1 18 t)))) X hinX3 (30, t) (cX_T (μ := ((up2 μ.1 23 t 2), (up2 μ.2 8 (ix (μ.1 19 t)) ((μ.2 8 (ix (μ.1 19 t))) + (M_taxOf μ t))))) ht) rfl 1 (by decide) (xw_at tW_12 25 rfl) rfl rfl rfl (xdec_at tX4_endAtTarget_1 3 rfl) ?_
          refine v_acmpR_eq (tgt := 90) X (xdec_at tX4_endAtTarget_1 4 rfl) (by decide) (fun c_82 => ?_) (fun c_82 => ?_)
          · have h82 : μ.1 19 t = μ.1 18 t := ix_inj (hI.ta ht40) (hI.or ht40) (by decide) (P_inj hinj h19 h18 (c_82))
            have e9 : (M_comes μ t).2 = ((up2 μ.1 23 t 2), (up2 μ.2 8 (ix (μ.1 19 t)) ((μ.2 8 (ix (μ.1 19 t))) + (M_taxOf μ t)))) := by rw [comes_eq hI ht40 c_4 (fun z => z.2.2 h39)]; exact if_pos h82
            exact v_vret X hr (xdec_at tX4_endAtTarget_1 8 rfl) (Nat.le_of_ble_eq_true rfl) (Nat.le_of_ble_eq_true rfl) ⟨rfl, rfl, by rw [e9]⟩
          · have h82 : ¬ μ.1 19 t = μ.1 18 t := fun z => c_82 (by rw [z])
            refine v_aload_n X (xdec_at tX4_endAtTarget_1 5 rfl) rfl rfl ?_
            refine v_aload_n X (xdec_at tX4_endAtTarget_1 6 rfl) rfl rfl ?_
            refine v_callV X myX4_oweDue [.ref (lay (30, t))] [] (kyX4_oweDue l Z B0 lay ((up2 μ.1 23 t 2), (up2 μ.2 8 (ix (μ.1 19 t)) ((μ.2 8 (ix (μ.1 19 t))) + (M_taxOf μ t)))) tb r (RI_F (A := μ.1) (J := (up2 μ.2 8 (ix (μ.1 19 t)) ((μ.2 8 (ix (μ.1 19 t))) + (M_taxOf μ t)))) hI (j := 23) rfl _ _) t ht ht40 h18 h19 h24) (xw_at tW_10 32 rfl) (0, 0) cX_X rfl rfl rfl rfl (by rfl) (Nat.le_of_ble_eq_true rfl) (xdec_at tX4_endAtTarget_1 7 rfl) ⟨(Nat.le_of_ble_eq_true rfl), (Nat.le_of_ble_eq_true rfl)⟩ ⟨(Nat.le_of_ble_eq_true rfl), (Nat.le_of_ble_eq_true rfl)⟩ ?_
            rintro v9 lay9 C9 ⟨rfl, rfl, rfl⟩
            have e9 : (M_comes μ t).2 = (K_owe ((up2 μ.1 23 t 2), (up2 μ.2 8 (ix (μ.1 19 t)) ((μ.2 8 (ix (μ.1 19 t))) + (M_taxOf μ t)))) t) := by rw [comes_eq hI ht40 c_4 (fun z => z.2.2 h39)]; exact if_neg h82
            exact v_vret X hr (xdec_at tX4_endAtTarget_1 8 rfl) (Nat.le_of_ble_eq_true rfl) (Nat.le_of_ble_eq_true rfl) ⟨rfl, rfl, by rw [e9]⟩
        · have h39 : ¬ μ.1 19 t = μ.1 18 t := fun z => c_39 (by rw [z])
          refine v_aload_n X (xdec_at tX4_endAtTarget_0 22 rfl) rfl rfl ?_
          refine v_iconst (v := 1) X (xdec_at tX4_endAtTarget_0 23 rfl) (by decide) ?_
          refine x_put (C' := (cX Z lay ((up2 μ.1 27 t 1), μ.2) tb r)) X hinX3 tyX3 tyX3_ok nmX3 (30, t) (cX_T (μ := μ) ht) rfl 11 (by decide) (xw_at tW_13 4 rfl) rfl rfl rfl rfl rfl (cw_T11 (μ := μ) (h := ht)) (xdec_at tX4_endAtTarget_0 24 rfl) ?_
          refine v_aload_n X (xdec_at tX4_endAtTarget_0 25 rfl) rfl rfl ?_
          refine v_aload_n X (xdec_at tX4_endAtTarget_0 26 rfl) rfl rfl ?_
          refine x_get (v := .ref (lay (10, ix (μ.1 18 t)))) X hinX3 (30, t) (cX_T (μ := ((up2 μ.1 27 t 1), μ.2)) ht) rfl 1 (by decide) (xw_at tW_12 25 rfl) rfl rfl rfl (xdec_at tX4_endAtTarget_0 27 rfl) ?_
          refine x_put (C' := (cX Z lay ((up2 (up2 μ.1 27 t 1) 19 t (μ.1 18 t)), μ.2) tb r)) X hinX3 tyX3 tyX3_ok nmX3 (30, t) (cX_T (μ := ((up2 μ.1 27 t 1), μ.2)) ht) rfl 5 (by decide) (xw_at tW_12 32 rfl) rfl rfl rfl rfl rfl (cw_T5 (μ := ((up2 μ.1 27 t 1), μ.2)) (h := ht) (v := (μ.1 18 t))) (xdec_at tX4_endAtTarget_0 28 rfl) ?_
          have e9 : (M_comes μ t).2 = ((up2 (up2 μ.1 27 t 1) 19 t (μ.1 18 t)), μ.2) := by simp [M_comes, (eq_true c_4), c_22, c_28, h39]
          exact v_vret X hr (xdec_at tX4_endAtTarget_0 29 rfl) (Nat.le_of_ble_eq_true rfl) (Nat.le_of_ble_eq_true rfl) ⟨rfl, rfl, by rw [e9]⟩
  · refine v_aload_n X (xdec_at tX4_endAtTarget_0 3 rfl) rfl rfl ?_
    refine v_iconst (v := 2) X (xdec_at tX4_endAtTarget_0 4 rfl) (by decide) ?_
    refine x_put (C' := (cX Z lay ((up2 μ.1 23 t 2), μ.2) tb r)) X hinX3 tyX3 tyX3_ok nmX3 (30, t) (cX_T (μ := μ) ht) rfl 8 (by decide) (xw_at tW_12 38 rfl) rfl rfl rfl rfl rfl (cw_T8 (μ := μ) (h := ht)) (xdec_at tX4_endAtTarget_0 5 rfl) ?_
    have e9 : (M_comes μ t).2 = ((up2 μ.1 23 t 2), μ.2) := by simp [M_comes, c_4]
    exact v_vret X hr (xdec_at tX4_endAtTarget_0 6 rfl) (Nat.le_of_ble_eq_true rfl) (Nat.le_of_ble_eq_true rfl) ⟨rfl, rfl, by rw [e9]⟩
set_option maxRecDepth 100000 in
set_option maxHeartbeats 4000000 in
theorem kyX3_departOn (l : Launch) (Z : xZ) (B0 : Nat) (lay : xK → Nat) (μ : Mu) (tb : Tb) (r : xK → Option xE) (hI : RI μ) (t : Nat) (ht : t < nT μ) (ht40 : t < 40) (hL : KL μ) (h24 : ix (μ.1 24 t) < nP μ) (q : Int32) (hq : ix q < nG μ) (hq1 : ¬ q = -1) : YM l yX3_departOn cX3_departOn 2 ((none : Option FieldType)) 1 21 0 0 Z B0 [.ref (lay (30, t)), .ref (lay (20, ix q))] lay (cX Z lay μ tb r) (fun v lay' C' => lay = lay' ∧ v = none ∧ C' = cX Z lay (K_dep μ t q) tb r) := by
  refine YM_of myX3_departOn.2.2 RX3 rfl [some (.ref (lay (30, t))), some (.ref (lay (20, ix q)))] rfl (Nat.le_of_ble_eq_true rfl) ?_
  intro P1 P2 P3 P4 P5 P6 P7 P8 X hr hnm
  refine v_inj fun hinj => ?_
  refine v_aload_n X (xdec_at tX3_departOn_0 0 rfl) rfl rfl ?_
  refine v_aload_n X (xdec_at tX3_departOn_0 1 rfl) rfl rfl ?_
  refine x_put (C' := (cX Z lay ((up2 μ.1 25 t q), μ.2) tb r)) X hinX3 tyX3 tyX3_ok nmX3 (30, t) (cX_T (μ := μ) ht) rfl 7 (by decide) (xw_at tW_12 35 rfl) rfl rfl rfl rfl rfl (fun y9 => by rw [← tLeg_s lay hq1]; exact cw_T7 (μ := μ) (h := ht) (v := q) y9) (xdec_at tX3_departOn_0 2 rfl) ?_
  refine v_aload_n X (xdec_at tX3_departOn_0 3 rfl) rfl rfl ?_
  refine v_aload_n X (xdec_at tX3_departOn_0 4 rfl) rfl rfl ?_
  refine v_aload_n X (xdec_at tX3_departOn_0 5 rfl) rfl rfl ?_
  refine x_get (v := .ref (lay (10, ix (μ.1 24 t)))) X hinX3 (30, t) (cX_T (μ := ((up2 μ.1 25 t q), μ.2)) ht) rfl 6 (by decide) (xw_at tW_12 33 rfl) rfl rfl rfl (xdec_at tX3_departOn_0 6 rfl) ?_
  refine v_callV X myX0_farEnd [.ref (lay (10, ix (μ.1 24 t)))] [.ref (lay (30, t))] (kyX0_farEnd l Z B0 lay ((up2 μ.1 25 t q), μ.2) tb r (ix q) hq (hL (ix q) hq).1 (hL (ix q) hq).2.1 (ix (μ.1 24 t)) h24 (fun z => P_inj hinj h24 (hL (ix q) hq).1 z)) (xw_at tW_11 12 rfl) (20, ix q) (cX_G (μ := ((up2 μ.1 25 t q), μ.2)) hq) rfl rfl rfl rfl (by rfl) (Nat.le_of_ble_eq_true rfl) (xdec_at tX3_departOn_0 7 rfl) ⟨(Nat.le_of_ble_eq_true rfl), (Nat.le_of_ble_eq_true rfl)⟩ ⟨(Nat.le_of_ble_eq_true rfl), (Nat.le_of_ble_eq_true rfl)⟩ ?_
  rintro v9 lay9 C9 ⟨rfl, rfl, rfl⟩
  rw [show (if ix (μ.1 24 t) = ix (((up2 μ.1 25 t q), μ.2).1 11 (ix q)) then ix (((up2 μ.1 25 t q), μ.2).1 12 (ix q)) else ix (((up2 μ.1 25 t q), μ.2).1 11 (ix q))) = ix (M_across μ.1 (ix q) (μ.1 24 t)) from across_ix hI (by have := nG20 hI; omega) (hI.at ht40)]
  refine x_put (C' := (cX Z lay ((up2 (up2 μ.1 25 t q) 24 t (M_across μ.1 (ix q) (μ.1 24 t))), μ.2) tb r)) X hinX3 tyX3 tyX3_ok nmX3 (30, t) (cX_T (μ := ((up2 μ.1 25 t q), μ.2)) ht) rfl 6 (by decide) (xw_at tW_12 33 rfl) rfl rfl rfl rfl rfl (cw_T6 (μ := ((up2 μ.1 25 t q), μ.2)) (h := ht) (v := (M_across μ.1 (ix q) (μ.1 24 t)))) (xdec_at tX3_departOn_0 8 rfl) ?_
  refine v_aload_n X (xdec_at tX3_departOn_0 9 rfl) rfl rfl ?_
  refine v_aload_n X (xdec_at tX3_departOn_0 10 rfl) rfl rfl ?_
  refine x_get (v := .int (μ.1 13 (ix q))) X hinX0 (20, ix q) (cX_G (μ := ((up2 (up2 μ.1 25 t q) 24 t (M_across μ.1 (ix q) (μ.1 24 t))), μ.2)) hq) rfl 2 (by decide) (xw_at tW_8 37 rfl) rfl rfl rfl (xdec_at tX3_departOn_0 11 rfl) ?_
  refine x_put (C' := (cX Z lay ((up2 (up2 (up2 μ.1 25 t q) 24 t (M_across μ.1 (ix q) (μ.1 24 t))) 26 t (μ.1 13 (ix q))), μ.2) tb r)) X hinX3 tyX3 tyX3_ok nmX3 (30, t) (cX_T (μ := ((up2 (up2 μ.1 25 t q) 24 t (M_across μ.1 (ix q) (μ.1 24 t))), μ.2)) ht) rfl 9 (by decide) (xw_at tW_12 39 rfl) rfl rfl rfl rfl rfl (cw_T9 (μ := ((up2 (up2 μ.1 25 t q) 24 t (M_across μ.1 (ix q) (μ.1 24 t))), μ.2)) (h := ht)) (xdec_at tX3_departOn_0 12 rfl) ?_
  refine v_aload_n X (xdec_at tX3_departOn_0 13 rfl) rfl rfl ?_
  refine v_iconst (v := 1) X (xdec_at tX3_departOn_0 14 rfl) (by decide) ?_
  refine x_put (C' := (cX Z lay ((up2 (up2 (up2 (up2 μ.1 25 t q) 24 t (M_across μ.1 (ix q) (μ.1 24 t))) 26 t (μ.1 13 (ix q))) 23 t 1), μ.2) tb r)) X hinX3 tyX3 tyX3_ok nmX3 (30, t) (cX_T (μ := ((up2 (up2 (up2 μ.1 25 t q) 24 t (M_across μ.1 (ix q) (μ.1 24 t))) 26 t (μ.1 13 (ix q))), μ.2)) ht) rfl 8 (by decide) (xw_at tW_12 37 rfl) rfl rfl rfl rfl rfl (cw_T8 (μ := ((up2 (up2 (up2 μ.1 25 t q) 24 t (M_across μ.1 (ix q) (μ.1 24 t))) 26 t (μ.1 13 (ix q))), μ.2)) (h := ht)) (xdec_at tX3_departOn_0 15 rfl) ?_
  exact v_vret X hr (xdec_at tX3_departOn_0 16 rfl) (Nat.le_of_ble_eq_true rfl) (Nat.le_of_ble_eq_true rfl) ⟨rfl, rfl, rfl⟩
set_option maxRecDepth 100000 in
set_option maxHeartbeats 4000000 in
theorem kyX4_sendOn (l : Launch) (Z : xZ) (B0 : Nat) (lay : xK → Nat) (μ : Mu) (tb : Tb) (r : xK → Option xE) (hI : RI μ) (t : Nat) (ht : t < nT μ) (ht40 : t < 40) (h18 : ix (μ.1 18 t) < nP μ) (h19 : ix (μ.1 19 t) < nP μ) (h24 : ix (μ.1 24 t) < nP μ) (hL : KL μ) (hTS : TS μ tb.1) {kk : Int32} (hgr : arG kk (μ.1 20 t)) (h6 : μ.1 6 (ix (μ.1 24 t)) = 0) : YM l yX4_sendOn cX4_sendOn 3 ((none : Option FieldType)) 2 43 0 0 Z B0 [.ref (lay (0, 0)), .ref (lay (30, t))] lay (cX Z lay μ tb r) (fun v lay' C' => lay = lay' ∧ v = none ∧ C' = cX Z lay (M_leaves μ t) tb r) := by
  refine YM_of myX4_sendOn.2.2 RX4 rfl [some (.ref (lay (0, 0))), some (.ref (lay (30, t))), none] rfl (Nat.le_of_ble_eq_true rfl) ?_
  intro P1 P2 P3 P4 P5 P6 P7 P8 X hr hnm
  refine v_inj fun hinj => ?_
  refine v_aload_n X (xdec_at tX4_sendOn_0 0 rfl) rfl rfl ?_
  refine x_get (v := .ref (lay (3, 0))) X hinX4 (0, 0) cX_X rfl 2 (by decide) (xw_at tW_2 15 rfl) rfl rfl rfl (xdec_at tX4_sendOn_0 1 rfl) ?_
  refine v_aload_n X (xdec_at tX4_sendOn_0 2 rfl) rfl rfl ?_
  refine x_get (v := .ref (lay (3, 0))) X hinX4 (0, 0) cX_X rfl 2 (by decide) (xw_at tW_2 15 rfl) rfl rfl rfl (xdec_at tX4_sendOn_0 3 rfl) ?_
  refine v_aload_n X (xdec_at tX4_sendOn_0 4 rfl) rfl rfl ?_
  refine x_get (v := .ref (lay (10, ix (μ.1 24 t)))) X hinX3 (30, t) (cX_T (μ := μ) ht) rfl 6 (by decide) (xw_at tW_12 34 rfl) rfl rfl rfl (xdec_at tX4_sendOn_0 5 rfl) ?_
  refine v_aload_n X (xdec_at tX4_sendOn_0 6 rfl) rfl rfl ?_
  refine x_get (v := .ref (lay (10, ix (μ.1 19 t)))) X hinX3 (30, t) (cX_T (μ := μ) ht) rfl 5 (by decide) (xw_at tW_12 32 rfl) rfl rfl rfl (xdec_at tX4_sendOn_0 7 rfl) ?_
  refine v_callV X myX2_onwardLeg [.ref (lay (10, ix (μ.1 24 t))), .ref (lay (10, ix (μ.1 19 t)))] [.ref (lay (3, 0))] (kyX2_onwardLeg l Z B0 lay μ tb r (ix (μ.1 24 t)) (ix (μ.1 19 t)) h24 h19 (in_ix (hI.at ht40)) (in_ix (hI.ta ht40))) (xw_at tW_4 29 rfl) (3, 0) cX_R rfl rfl rfl rfl (by rfl) (Nat.le_of_ble_eq_true rfl) (xdec_at tX4_sendOn_0 8 rfl) ⟨(Nat.le_of_ble_eq_true rfl), (Nat.le_of_ble_eq_true rfl)⟩ ⟨(Nat.le_of_ble_eq_true rfl), (Nat.le_of_ble_eq_true rfl)⟩ ?_
  rintro v9 lay9 C9 ⟨rfl, rfl, rfl⟩
  rw [(hTS (μ.1 24 t) (μ.1 19 t) (isP_ix hI (hI.at ht40) h24) (isP_ix hI (hI.ta ht40) h19)).2.1]
  have hgin := M_nextOf_in hI (μ.1 24 t) (μ.1 19 t)
  have hcom := leaves_com (μ := μ) (t := t) h6
  obtain ⟨g, hg⟩ : ∃ g, g = (M_nextOf μ (μ.1 24 t) (μ.1 19 t)).1 := ⟨_, rfl⟩
  rw [← hg] at hgin hcom
  rw [← hg]
  refine v_callV X myX2_legOf [.int g] [] (kyX2_legOf l Z B0 lay μ tb r hI g) (xw_at tW_9 9 rfl) (3, 0) cX_R rfl rfl rfl rfl (by rfl) (Nat.le_of_ble_eq_true rfl) (xdec_at tX4_sendOn_0 9 rfl) ⟨(Nat.le_of_ble_eq_true rfl), (Nat.le_of_ble_eq_true rfl)⟩ ⟨(Nat.le_of_ble_eq_true rfl), (Nat.le_of_ble_eq_true rfl)⟩ ?_
  rintro v9 lay9 C9 ⟨rfl, ⟨hgl, rfl⟩ | ⟨hgl, rfl⟩, rfl⟩
  · have hgn := (in_leg hI hgl.1 hgl.2).1
    have hg1 : ¬ g = -1 := fun z => hgl.1 (by rw [z]; decide)
    refine v_astore_n (lv' := [some (.ref (lay (0, 0))), some (.ref (lay (30, t))), some (.ref (lay (20, ix g)))]) X (xdec_at tX4_sendOn_0 10 rfl) rfl (by decide) rfl ?_
    refine v_aload_n X (xdec_at tX4_sendOn_0 11 rfl) rfl rfl ?_
    refine v_ifnonnullR (tgt := 28) X (xdec_at tX4_sendOn_0 12 rfl) (by decide) ?_
    refine v_aload_n X (xdec_at tX4_sendOn_0 14 rfl) rfl rfl ?_
    refine x_get (v := .ref (lay (10, ix (μ.1 24 t)))) X hinX3 (30, t) (cX_T (μ := μ) ht) rfl 6 (by decide) (xw_at tW_12 34 rfl) rfl rfl rfl (xdec_at tX4_sendOn_0 15 rfl) ?_
    refine v_aload_n X (xdec_at tX4_sendOn_0 16 rfl) rfl rfl ?_
    refine x_get (v := .ref (lay (10, ix (μ.1 18 t)))) X hinX3 (30, t) (cX_T (μ := μ) ht) rfl 1 (by decide) (xw_at tW_12 25 rfl) rfl rfl rfl (xdec_at tX4_sendOn_0 17 rfl) ?_
    refine v_acmpR_eq (tgt := 61) X (xdec_at tX4_sendOn_0 18 rfl) (by decide) (fun c_36 => ?_) (fun c_36 => ?_)
    · have h36 : μ.1 24 t = μ.1 18 t := ix_inj (hI.at ht40) (hI.or ht40) (by decide) (P_inj hinj h24 h18 (c_36))
      refine v_aload_n X (xdec_at tX4_sendOn_0 29 rfl) rfl rfl ?_
      refine v_aload_n X (xdec_at tX4_sendOn_0 30 rfl) rfl rfl ?_
      refine v_callV X myX3_departOn [.ref (lay (20, ix g))] [] (kyX3_departOn l Z B0 lay μ tb r hI t ht ht40 hL h24 g hgn hg1) (xw_at tW_11 8 rfl) (30, t) (cX_T (μ := μ) ht) rfl rfl rfl rfl (by rfl) (Nat.le_of_ble_eq_true rfl) (xdec_at tX4_sendOn_0 31 rfl) ⟨(Nat.le_of_ble_eq_true rfl), (Nat.le_of_ble_eq_true rfl)⟩ ⟨(Nat.le_of_ble_eq_true rfl), (Nat.le_of_ble_eq_true rfl)⟩ ?_
      rintro v9 lay9 C9 ⟨rfl, rfl, rfl⟩
      rw [if_neg hg1, if_pos h36] at hcom
      exact v_vret X hr (xdec_at tX4_sendOn_0 32 rfl) (Nat.le_of_ble_eq_true rfl) (Nat.le_of_ble_eq_true rfl) ⟨rfl, rfl, (cX_eq hcom.1 hcom.2).symm⟩
    · have h36 : ¬ μ.1 24 t = μ.1 18 t := fun z => c_36 (by rw [z])
      refine v_aload_n X (xdec_at tX4_sendOn_0 19 rfl) rfl rfl ?_
      refine x_get (v := .ref (lay (10, ix (μ.1 18 t)))) X hinX3 (30, t) (cX_T (μ := μ) ht) rfl 1 (by decide) (xw_at tW_12 25 rfl) rfl rfl rfl (xdec_at tX4_sendOn_0 20 rfl) ?_
      refine v_aload_n X (xdec_at tX4_sendOn_0 21 rfl) rfl rfl ?_
      refine x_get (v := .ref (lay (10, ix (μ.1 24 t)))) X hinX3 (30, t) (cX_T (μ := μ) ht) rfl 6 (by decide) (xw_at tW_12 34 rfl) rfl rfl rfl (xdec_at tX4_sendOn_0 22 rfl) ?_
      refine v_aload_n X (xdec_at tX4_sendOn_0 23 rfl) rfl rfl ?_
      refine x_get (v := .ref (lay (10, ix (μ.1 24 t)))) X hinX3 (30, t) (cX_T (μ := μ) ht) rfl 6 (by decide) (xw_at tW_12 34 rfl) rfl rfl rfl (xdec_at tX4_sendOn_0 24 rfl) ?_
      refine v_aload_n X (xdec_at tX4_sendOn_0 25 rfl) rfl rfl ?_
      refine x_get (v := .int (μ.1 20 t)) X hinX3 (30, t) (cX_T (μ := μ) ht) rfl 2 (by decide) (xw_at tW_12 27 rfl) rfl rfl rfl (xdec_at tX4_sendOn_0 26 rfl) ?_
      refine v_callV X myX1_chargeFor [.int (μ.1 20 t)] [.ref (lay (10, ix (μ.1 24 t))), .ref (lay (10, ix (μ.1 18 t)))] (kyX1_chargeFor l Z B0 lay μ tb r (ix (μ.1 24 t)) h24 (μ.1 20 t)) (xw_at tW_11 4 rfl) (10, ix (μ.1 24 t)) (cX_P (μ := μ) h24) rfl rfl rfl rfl (by rfl) (Nat.le_of_ble_eq_true rfl) (xdec_at tX4_sendOn_0 27 rfl) ⟨(Nat.le_of_ble_eq_true rfl), (Nat.le_of_ble_eq_true rfl)⟩ ⟨(Nat.le_of_ble_eq_true rfl), (Nat.le_of_ble_eq_true rfl)⟩ ?_
      rintro v9 lay9 C9 ⟨rfl, rfl, rfl⟩
      rw [bp10 hgr]
      refine v_callS X myX4_pay [.ref (lay (10, ix (μ.1 18 t))), .ref (lay (10, ix (μ.1 24 t))), .long ((μ.1 4 (ix (μ.1 24 t))).toInt64 * ((μ.1 20 t + 9) / 10).toInt64)] [] (kyX4_pay l Z B0 lay μ tb r (ix (μ.1 18 t)) (ix (μ.1 24 t)) h18 h24 ((μ.1 4 (ix (μ.1 24 t))).toInt64 * ((μ.1 20 t + 9) / 10).toInt64)) (xw_at tW_10 35 rfl) rfl rfl (by rfl) (Nat.le_of_ble_eq_true rfl) (xdec_at tX4_sendOn_0 28 rfl) ⟨(Nat.le_of_ble_eq_true rfl), (Nat.le_of_ble_eq_true rfl)⟩ ⟨(Nat.le_of_ble_eq_true rfl), (Nat.le_of_ble_eq_true rfl)⟩ ?_
      rintro v9 lay9 C9 ⟨rfl, rfl, rfl⟩
      refine v_aload_n X (xdec_at tX4_sendOn_0 29 rfl) rfl rfl ?_
      refine v_aload_n X (xdec_at tX4_sendOn_0 30 rfl) rfl rfl ?_
      refine v_callV X myX3_departOn [.ref (lay (20, ix g))] [] (kyX3_departOn l Z B0 lay (M_pays μ (ix (μ.1 18 t)) (ix (μ.1 24 t)) ((μ.1 4 (ix (μ.1 24 t))).toInt64 * ((μ.1 20 t + 9) / 10).toInt64)) tb r hI t ht ht40 hL h24 g hgn hg1) (xw_at tW_11 8 rfl) (30, t) (cX_T (μ := (M_pays μ (ix (μ.1 18 t)) (ix (μ.1 24 t)) ((μ.1 4 (ix (μ.1 24 t))).toInt64 * ((μ.1 20 t + 9) / 10).toInt64))) ht) rfl rfl rfl rfl (by rfl) (Nat.le_of_ble_eq_true rfl) (xdec_at tX4_sendOn_0 31 rfl) ⟨(Nat.le_of_ble_eq_true rfl), (Nat.le_of_ble_eq_true rfl)⟩ ⟨(Nat.le_of_ble_eq_true rfl), (Nat.le_of_ble_eq_true rfl)⟩ ?_
      rintro v9 lay9 C9 ⟨rfl, rfl, rfl⟩
      rw [if_neg hg1, if_neg h36] at hcom
      exact v_vret X hr (xdec_at tX4_sendOn_0 32 rfl) (Nat.le_of_ble_eq_true rfl) (Nat.le_of_ble_eq_true rfl) ⟨rfl, rfl, (cX_eq hcom.1 hcom.2).symm⟩
  · have hg1 : g = -1 := hgin.resolve_right (fun z => hgl (leg_of hI z.1 z.2))
    refine v_astore_nN (lv' := [some (.ref (lay (0, 0))), some (.ref (lay (30, t))), some (.null)]) X (xdec_at tX4_sendOn_0 10 rfl) rfl (by decide) rfl ?_
    refine v_aload_nN X (xdec_at tX4_sendOn_0 11 rfl) rfl rfl ?_
    refine v_ifnonnullN X (xdec_at tX4_sendOn_0 12 rfl) ?_
    rw [if_pos hg1] at hcom
    exact v_vret X hr (xdec_at tX4_sendOn_0 13 rfl) (Nat.le_of_ble_eq_true rfl) (Nat.le_of_ble_eq_true rfl) ⟨rfl, rfl, (cX_eq hcom.1 hcom.2).symm⟩
