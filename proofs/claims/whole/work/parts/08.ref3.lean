set_option maxRecDepth 100000 in
set_option maxHeartbeats 4000000 in
theorem c_pays (l : Launch) (Z : xZ) (B0 : Nat) (lay : xK → Nat) (μ : Mu) (r : xK → Option xE) (a b : Int32) (ha : vp_in a 8) (hb : vp_in b 8) (k : Int64) : YM l yX5_pays cX5_pays 5 ((none : Option FieldType)) 0 0 0 0 Z B0 [.ref (lay (100, 0)), .int a, .int b, .long k] lay (cM Z lay μ r) (fun v lay' C' => lay = lay' ∧ v = none ∧ C' = cM Z lay (M_pays μ (ix a) (ix b) k) r) := by
  refine YM_of myX5_pays.2.2 RX5 rfl [some (.ref (lay (100, 0))), some (.int a), some (.int b), some (.long k), none] rfl (Nat.le_of_ble_eq_true rfl) ?_
  intro P1 P2 P3 P4 P5 P6 P7 P8 X hr hnm
  refine v_aload_n X (xdec_at tX5_pays_0 0 rfl) rfl rfl ?_
  refine r_A X 7 (by decide) rfl rfl (xdec_at tX5_pays_0 1 rfl) ?_
  refine v_iload_n X (xdec_at tX5_pays_0 2 rfl) rfl rfl ?_
  refine v_dup2_11 X (xdec_at tX5_pays_0 3 rfl) rfl rfl ?_
  refine r_L (v := (μ.2 7 (ix a))) X 7 (by decide) rfl rfl ha (xdec_at tX5_pays_0 4 rfl) rfl ?_
  refine v_lload_n X (xdec_at tX5_pays_0 5 rfl) rfl rfl ?_
  refine v_lsub X (xdec_at tX5_pays_0 6 rfl) ?_
  refine r_PL X 7 (by decide) rfl rfl ha (xdec_at tX5_pays_0 7 rfl) ?_
  refine v_aload_n X (xdec_at tX5_pays_0 8 rfl) rfl rfl ?_
  refine r_A X 7 (by decide) rfl rfl (xdec_at tX5_pays_0 9 rfl) ?_
  refine v_iload_n X (xdec_at tX5_pays_0 10 rfl) rfl rfl ?_
  refine v_dup2_11 X (xdec_at tX5_pays_0 11 rfl) rfl rfl ?_
  refine r_L (v := ((up2 μ.2 7 (ix a) ((μ.2 7 (ix a)) - k)) 7 (ix b))) X 7 (by decide) rfl rfl hb (xdec_at tX5_pays_0 12 rfl) rfl ?_
  refine v_lload_n X (xdec_at tX5_pays_0 13 rfl) rfl rfl ?_
  refine v_ladd X (xdec_at tX5_pays_0 14 rfl) ?_
  refine r_PL X 7 (by decide) rfl rfl hb (xdec_at tX5_pays_0 15 rfl) ?_
  exact v_vret X hr (xdec_at tX5_pays_0 16 rfl) (Nat.le_of_ble_eq_true rfl) (Nat.le_of_ble_eq_true rfl) ⟨rfl, rfl, rfl⟩
set_option maxRecDepth 100000 in
set_option maxHeartbeats 4000000 in
theorem c_signs (l : Launch) (Z : xZ) (B0 : Nat) (lay : xK → Nat) (μ : Mu) (r : xK → Option xE) (t : Nat) (ht : t < 40) (a : Int32) (hI : RI μ) : YM l yX5_signs cX5_signs 3 ((none : Option FieldType)) 0 0 0 0 Z B0 [.ref (lay (100, 0)), .int (nI t), .int a] lay (cM Z lay μ r) (fun v lay' C' => lay = lay' ∧ v = none ∧ C' = cM Z lay (M_signs μ t a) r) := by
  refine YM_of myX5_signs.2.2 RX5 rfl [some (.ref (lay (100, 0))), some (.int (nI t)), some (.int a)] rfl (Nat.le_of_ble_eq_true rfl) ?_
  intro P1 P2 P3 P4 P5 P6 P7 P8 X hr hnm
  refine v_aload_n X (xdec_at tX5_signs_0 0 rfl) rfl rfl ?_
  refine r_A X 21 (by decide) rfl rfl (xdec_at tX5_signs_0 1 rfl) ?_
  refine v_iload_n X (xdec_at tX5_signs_0 2 rfl) rfl rfl ?_
  refine r_Zn (v := (μ.1 21 t)) X 21 (by decide) rfl rfl ht (xdec_at tX5_signs_0 3 rfl) rfl ?_
  refine v_if_eq (tgt := 105) X (xdec_at tX5_signs_0 4 rfl) (by decide) (fun c_6 => ?_) (fun c_6 => ?_)
  · have e9 : M_signs μ t a = μ := by simp [M_signs, up2_at, (eq_true c_6)]
    exact v_vret X hr (xdec_at tX5_signs_1 22 rfl) (Nat.le_of_ble_eq_true rfl) (Nat.le_of_ble_eq_true rfl) ⟨rfl, rfl, by rw [e9]⟩
  · refine v_aload_n X (xdec_at tX5_signs_0 5 rfl) rfl rfl ?_
    refine r_S (v := (μ.1 30 0)) X 30 (by decide) rfl rfl (xdec_at tX5_signs_0 6 rfl) rfl ?_
    refine v_ldc (v := 80000) X (xw_at tW_15 23 rfl) (xdec_at tX5_signs_0 7 rfl) ?_
    refine v_icmp_ge (tgt := 105) X (xdec_at tX5_signs_0 8 rfl) (by decide) (fun c_15 => ?_) (fun c_15 => ?_)
    · have e9 : M_signs μ t a = μ := by simp [M_signs, up2_at, c_6, c_15]
      exact v_vret X hr (xdec_at tX5_signs_1 22 rfl) (Nat.le_of_ble_eq_true rfl) (Nat.le_of_ble_eq_true rfl) ⟨rfl, rfl, by rw [e9]⟩
    · refine v_aload_n X (xdec_at tX5_signs_0 9 rfl) rfl rfl ?_
      refine r_A X 31 (by decide) rfl rfl (xdec_at tX5_signs_0 10 rfl) ?_
      refine v_aload_n X (xdec_at tX5_signs_0 11 rfl) rfl rfl ?_
      refine r_S (v := (μ.1 30 0)) X 30 (by decide) rfl rfl (xdec_at tX5_signs_0 12 rfl) rfl ?_
      refine v_iload_n X (xdec_at tX5_signs_0 13 rfl) rfl rfl ?_
      refine r_PI X 31 (by decide) rfl rfl (hI.sg c_15) (xdec_at tX5_signs_0 14 rfl) ?_
      refine v_aload_n X (xdec_at tX5_signs_0 15 rfl) rfl rfl ?_
      refine r_A X 32 (by decide) rfl rfl (xdec_at tX5_signs_0 16 rfl) ?_
      refine v_aload_n X (xdec_at tX5_signs_0 17 rfl) rfl rfl ?_
      refine r_S (v := (μ.1 30 0)) X 30 (by decide) rfl rfl (xdec_at tX5_signs_0 18 rfl) rfl ?_
      refine v_iconst (v := (-1)) X (xdec_at tX5_signs_0 19 rfl) (by decide) ?_
      refine r_PI X 32 (by decide) rfl rfl (hI.sg c_15) (xdec_at tX5_signs_0 20 rfl) ?_
      refine v_aload_n X (xdec_at tX5_signs_0 21 rfl) rfl rfl ?_
      refine r_A X 35 (by decide) rfl rfl (xdec_at tX5_signs_0 22 rfl) ?_
      refine v_iload_n X (xdec_at tX5_signs_0 23 rfl) rfl rfl ?_
      refine r_In (v := (μ.1 35 t)) X 35 (by decide) rfl rfl ht (xdec_at tX5_signs_0 24 rfl) rfl ?_
      refine v_if_ne (tgt := 60) X (xdec_at tX5_signs_0 25 rfl) (by decide) (fun c_44 => ?_) (fun c_44 => ?_)
      · refine v_aload_n X (xdec_at tX5_signs_0 33 rfl) rfl rfl ?_
        refine r_A X 32 (by decide) rfl rfl (xdec_at tX5_signs_0 34 rfl) ?_
        refine v_aload_n X (xdec_at tX5_signs_0 35 rfl) rfl rfl ?_
        refine r_A X 34 (by decide) rfl rfl (xdec_at tX5_signs_0 36 rfl) ?_
        refine v_iload_n X (xdec_at tX5_signs_0 37 rfl) rfl rfl ?_
        refine r_In (v := (μ.1 34 t)) X 34 (by decide) rfl rfl ht (xdec_at tX5_signs_0 38 rfl) rfl ?_
        refine v_aload_n X (xdec_at tX5_signs_0 39 rfl) rfl rfl ?_
        refine r_S (v := (μ.1 30 0)) X 30 (by decide) rfl rfl (xdec_at tX5_signs_1 0 rfl) rfl ?_
        refine r_PI X 32 (by decide) rfl rfl (hI.lh ht) (xdec_at tX5_signs_1 1 rfl) ?_
        refine v_aload_n X (xdec_at tX5_signs_1 2 rfl) rfl rfl ?_
        refine r_A X 34 (by decide) rfl rfl (xdec_at tX5_signs_1 3 rfl) ?_
        refine v_iload_n X (xdec_at tX5_signs_1 4 rfl) rfl rfl ?_
        refine v_aload_n X (xdec_at tX5_signs_1 5 rfl) rfl rfl ?_
        refine r_S (v := (μ.1 30 0)) X 30 (by decide) rfl rfl (xdec_at tX5_signs_1 6 rfl) rfl ?_
        refine r_PIn X 34 (by decide) rfl rfl ht (xdec_at tX5_signs_1 7 rfl) ?_
        refine v_aload_n X (xdec_at tX5_signs_1 8 rfl) rfl rfl ?_
        refine r_A X 35 (by decide) rfl rfl (xdec_at tX5_signs_1 9 rfl) ?_
        refine v_iload_n X (xdec_at tX5_signs_1 10 rfl) rfl rfl ?_
        refine v_dup2_11 X (xdec_at tX5_signs_1 11 rfl) rfl rfl ?_
        refine r_In (v := (μ.1 35 t)) X 35 (by decide) rfl rfl ht (xdec_at tX5_signs_1 12 rfl) rfl ?_
        refine v_iconst (v := 1) X (xdec_at tX5_signs_1 13 rfl) (by decide) ?_
        refine v_iadd X (xdec_at tX5_signs_1 14 rfl) ?_
        refine r_PIn X 35 (by decide) rfl rfl ht (xdec_at tX5_signs_1 15 rfl) ?_
        refine v_aload_n X (xdec_at tX5_signs_1 16 rfl) rfl rfl ?_
        refine v_dup X (xdec_at tX5_signs_1 17 rfl) rfl ?_
        refine r_S (v := (μ.1 30 0)) X 30 (by decide) rfl rfl (xdec_at tX5_signs_1 18 rfl) rfl ?_
        refine v_iconst (v := 1) X (xdec_at tX5_signs_1 19 rfl) (by decide) ?_
        refine v_iadd X (xdec_at tX5_signs_1 20 rfl) ?_
        refine r_PS X 30 (by decide) rfl (by decide) rfl (xdec_at tX5_signs_1 21 rfl) ?_
        have e9 : M_signs μ t a = ((up2 (up2 (up2 (up2 (up2 (up2 μ.1 31 (ix (μ.1 30 0)) a) 32 (ix (μ.1 30 0)) (-1)) 32 (ix (μ.1 34 t)) (μ.1 30 0)) 34 t (μ.1 30 0)) 35 t ((μ.1 35 t) + 1)) 30 0 ((μ.1 30 0) + 1)), μ.2) := by simp [M_signs, up2_at, c_6, c_15, c_44]
        exact v_vret X hr (xdec_at tX5_signs_1 22 rfl) (Nat.le_of_ble_eq_true rfl) (Nat.le_of_ble_eq_true rfl) ⟨rfl, rfl, by rw [e9]⟩
      · refine v_aload_n X (xdec_at tX5_signs_0 26 rfl) rfl rfl ?_
        refine r_A X 33 (by decide) rfl rfl (xdec_at tX5_signs_0 27 rfl) ?_
        refine v_iload_n X (xdec_at tX5_signs_0 28 rfl) rfl rfl ?_
        refine v_aload_n X (xdec_at tX5_signs_0 29 rfl) rfl rfl ?_
        refine r_S (v := (μ.1 30 0)) X 30 (by decide) rfl rfl (xdec_at tX5_signs_0 30 rfl) rfl ?_
        refine r_PIn X 33 (by decide) rfl rfl ht (xdec_at tX5_signs_0 31 rfl) ?_
        refine v_goto (tgt := 75) X (xdec_at tX5_signs_0 32 rfl) (by decide) ?_
        refine v_aload_n X (xdec_at tX5_signs_1 2 rfl) rfl rfl ?_
        refine r_A X 34 (by decide) rfl rfl (xdec_at tX5_signs_1 3 rfl) ?_
        refine v_iload_n X (xdec_at tX5_signs_1 4 rfl) rfl rfl ?_
        refine v_aload_n X (xdec_at tX5_signs_1 5 rfl) rfl rfl ?_
        refine r_S (v := (μ.1 30 0)) X 30 (by decide) rfl rfl (xdec_at tX5_signs_1 6 rfl) rfl ?_
        refine r_PIn X 34 (by decide) rfl rfl ht (xdec_at tX5_signs_1 7 rfl) ?_
        refine v_aload_n X (xdec_at tX5_signs_1 8 rfl) rfl rfl ?_
        refine r_A X 35 (by decide) rfl rfl (xdec_at tX5_signs_1 9 rfl) ?_
        refine v_iload_n X (xdec_at tX5_signs_1 10 rfl) rfl rfl ?_
        refine v_dup2_11 X (xdec_at tX5_signs_1 11 rfl) rfl rfl ?_
        refine r_In (v := (μ.1 35 t)) X 35 (by decide) rfl rfl ht (xdec_at tX5_signs_1 12 rfl) rfl ?_
        refine v_iconst (v := 1) X (xdec_at tX5_signs_1 13 rfl) (by decide) ?_
        refine v_iadd X (xdec_at tX5_signs_1 14 rfl) ?_
        refine r_PIn X 35 (by decide) rfl rfl ht (xdec_at tX5_signs_1 15 rfl) ?_
        refine v_aload_n X (xdec_at tX5_signs_1 16 rfl) rfl rfl ?_
        refine v_dup X (xdec_at tX5_signs_1 17 rfl) rfl ?_
        refine r_S (v := (μ.1 30 0)) X 30 (by decide) rfl rfl (xdec_at tX5_signs_1 18 rfl) rfl ?_
        refine v_iconst (v := 1) X (xdec_at tX5_signs_1 19 rfl) (by decide) ?_
        refine v_iadd X (xdec_at tX5_signs_1 20 rfl) ?_
        refine r_PS X 30 (by decide) rfl (by decide) rfl (xdec_at tX5_signs_1 21 rfl) ?_
        have e9 : M_signs μ t a = ((up2 (up2 (up2 (up2 (up2 (up2 μ.1 31 (ix (μ.1 30 0)) a) 32 (ix (μ.1 30 0)) (-1)) 33 t (μ.1 30 0)) 34 t (μ.1 30 0)) 35 t ((μ.1 35 t) + 1)) 30 0 ((μ.1 30 0) + 1)), μ.2) := by simp [M_signs, up2_at, c_6, c_15, (eq_true c_44)]
        exact v_vret X hr (xdec_at tX5_signs_1 22 rfl) (Nat.le_of_ble_eq_true rfl) (Nat.le_of_ble_eq_true rfl) ⟨rfl, rfl, by rw [e9]⟩
set_option maxRecDepth 100000 in
set_option maxHeartbeats 4000000 in
theorem c_comes (l : Launch) (Z : xZ) (B0 : Nat) (lay : xK → Nat) (μ : Mu) (r : xK → Option xE) (t : Nat) (ht : t < 40) (hI : RI μ) : YM l yX5_comes cX5_comes 5 ((some FieldType.int)) 1 24 0 0 Z B0 [.ref (lay (100, 0)), .int (nI t)] lay (cM Z lay μ r) (fun v lay' C' => lay = lay' ∧ v = some (.int (M_comes μ t).1) ∧ C' = cM Z lay (M_comes μ t).2 r) := by
  refine YM_of myX5_comes.2.2 RX5 rfl [some (.ref (lay (100, 0))), some (.int (nI t)), none, none, none] rfl (Nat.le_of_ble_eq_true rfl) ?_
  intro P1 P2 P3 P4 P5 P6 P7 P8 X hr hnm
  refine v_aload_n X (xdec_at tX5_comes_0 0 rfl) rfl rfl ?_
  refine v_iload_n X (xdec_at tX5_comes_0 1 rfl) rfl rfl ?_
  refine v_callV X myX5_taxOf [.int (nI t)] [] (c_taxOf l Z B0 lay μ r t ht (hI.or ht) (hI.ta ht)) (xw_at tW_20 20 rfl) (100, 0) cM_0 rfl rfl rfl rfl (by rfl) (Nat.le_of_ble_eq_true rfl) (xdec_at tX5_comes_0 2 rfl) ⟨(Nat.le_of_ble_eq_true rfl), (Nat.le_of_ble_eq_true rfl)⟩ ⟨(Nat.le_of_ble_eq_true rfl), (Nat.le_of_ble_eq_true rfl)⟩ ?_
  rintro v9 lay9 C9 ⟨rfl, rfl, rfl⟩
  refine v_lstore_n (lv' := [some (.ref (lay (100, 0))), some (.int (nI t)), some (.long (M_taxOf μ t)), none, none]) X (xdec_at tX5_comes_0 3 rfl) rfl (by decide) rfl ?_
  refine v_aload_n X (xdec_at tX5_comes_0 4 rfl) rfl rfl ?_
  refine r_A X 27 (by decide) rfl rfl (xdec_at tX5_comes_0 5 rfl) ?_
  refine v_iload_n X (xdec_at tX5_comes_0 6 rfl) rfl rfl ?_
  refine r_Zn (v := (μ.1 27 t)) X 27 (by decide) rfl rfl ht (xdec_at tX5_comes_0 7 rfl) rfl ?_
  refine v_if_ne (tgt := 66) X (xdec_at tX5_comes_0 8 rfl) (by decide) (fun c_12 => ?_) (fun c_12 => ?_)
  · refine v_aload_n X (xdec_at tX5_comes_1 2 rfl) rfl rfl ?_
    refine r_A X 23 (by decide) rfl rfl (xdec_at tX5_comes_1 3 rfl) ?_
    refine v_iload_n X (xdec_at tX5_comes_1 4 rfl) rfl rfl ?_
    refine v_iconst (v := 2) X (xdec_at tX5_comes_1 5 rfl) (by decide) ?_
    refine r_PIn X 23 (by decide) rfl rfl ht (xdec_at tX5_comes_1 6 rfl) ?_
    refine v_aload_n X (xdec_at tX5_comes_1 7 rfl) rfl rfl ?_
    refine r_A X 27 (by decide) rfl rfl (xdec_at tX5_comes_1 8 rfl) ?_
    refine v_iload_n X (xdec_at tX5_comes_1 9 rfl) rfl rfl ?_
    refine r_Zn (v := (μ.1 27 t)) X 27 (by decide) rfl rfl ht (xdec_at tX5_comes_1 10 rfl) rfl ?_
    refine v_if_ne (tgt := 203) X (xdec_at tX5_comes_1 11 rfl) (by decide) (fun _ => ?_) (fun h9 => absurd h9 c_12)
    refine v_iconst (v := 1) X (xdec_at tX5_comes_3 9 rfl) (by decide) ?_
    have e9 : M_comes μ t = (1, ((up2 μ.1 23 t 2), μ.2)) := by simp [M_comes, up2_at, c_12]
    exact v_iret X hr (xdec_at tX5_comes_3 10 rfl) (Nat.le_of_ble_eq_true rfl) (Nat.le_of_ble_eq_true rfl) ⟨rfl, by rw [e9], by rw [e9]⟩
  · refine v_aload_n X (xdec_at tX5_comes_0 9 rfl) rfl rfl ?_
    refine r_A X 28 (by decide) rfl rfl (xdec_at tX5_comes_0 10 rfl) ?_
    refine v_iload_n X (xdec_at tX5_comes_0 11 rfl) rfl rfl ?_
    refine r_Zn (v := (μ.1 28 t)) X 28 (by decide) rfl rfl ht (xdec_at tX5_comes_0 12 rfl) rfl ?_
    refine v_if_eq (tgt := 66) X (xdec_at tX5_comes_0 13 rfl) (by decide) (fun c_21 => ?_) (fun c_21 => ?_)
    · refine v_aload_n X (xdec_at tX5_comes_1 2 rfl) rfl rfl ?_
      refine r_A X 23 (by decide) rfl rfl (xdec_at tX5_comes_1 3 rfl) ?_
      refine v_iload_n X (xdec_at tX5_comes_1 4 rfl) rfl rfl ?_
      refine v_iconst (v := 2) X (xdec_at tX5_comes_1 5 rfl) (by decide) ?_
      refine r_PIn X 23 (by decide) rfl rfl ht (xdec_at tX5_comes_1 6 rfl) ?_
      refine v_aload_n X (xdec_at tX5_comes_1 7 rfl) rfl rfl ?_
      refine r_A X 27 (by decide) rfl rfl (xdec_at tX5_comes_1 8 rfl) ?_
      refine v_iload_n X (xdec_at tX5_comes_1 9 rfl) rfl rfl ?_
      refine r_Zn (v := (μ.1 27 t)) X 27 (by decide) rfl rfl ht (xdec_at tX5_comes_1 10 rfl) rfl ?_
      refine v_if_ne (tgt := 203) X (xdec_at tX5_comes_1 11 rfl) (by decide) (fun h9 => absurd c_12 h9) (fun _ => ?_)
      refine v_aload_n X (xdec_at tX5_comes_1 12 rfl) rfl rfl ?_
      refine r_A X 8 (by decide) rfl rfl (xdec_at tX5_comes_1 13 rfl) ?_
      refine v_aload_n X (xdec_at tX5_comes_1 14 rfl) rfl rfl ?_
      refine r_A X 19 (by decide) rfl rfl (xdec_at tX5_comes_1 15 rfl) ?_
      refine v_iload_n X (xdec_at tX5_comes_1 16 rfl) rfl rfl ?_
      refine r_In (v := (μ.1 19 t)) X 19 (by decide) rfl rfl ht (xdec_at tX5_comes_1 17 rfl) rfl ?_
      refine v_dup2_11 X (xdec_at tX5_comes_1 18 rfl) rfl rfl ?_
      refine r_L (v := (μ.2 8 (ix (μ.1 19 t)))) X 8 (by decide) rfl rfl (hI.ta ht) (xdec_at tX5_comes_1 19 rfl) rfl ?_
      refine v_lload_n X (xdec_at tX5_comes_1 20 rfl) rfl rfl ?_
      refine v_ladd X (xdec_at tX5_comes_1 21 rfl) ?_
      refine r_PL X 8 (by decide) rfl rfl (hI.ta ht) (xdec_at tX5_comes_1 22 rfl) ?_
      refine v_aload_n X (xdec_at tX5_comes_1 23 rfl) rfl rfl ?_
      refine r_A X 19 (by decide) rfl rfl (xdec_at tX5_comes_1 24 rfl) ?_
      refine v_iload_n X (xdec_at tX5_comes_1 25 rfl) rfl rfl ?_
      refine r_In (v := (μ.1 19 t)) X 19 (by decide) rfl rfl ht (xdec_at tX5_comes_1 26 rfl) rfl ?_
      refine v_aload_n X (xdec_at tX5_comes_1 27 rfl) rfl rfl ?_
      refine r_A X 18 (by decide) rfl rfl (xdec_at tX5_comes_1 28 rfl) ?_
      refine v_iload_n X (xdec_at tX5_comes_1 29 rfl) rfl rfl ?_
      refine r_In (v := (μ.1 18 t)) X 18 (by decide) rfl rfl ht (xdec_at tX5_comes_1 30 rfl) rfl ?_
      refine v_icmp_ne (tgt := 116) X (xdec_at tX5_comes_1 31 rfl) (by decide) (fun c_109 => ?_) (fun c_109 => ?_)
      · refine v_aload_n X (xdec_at tX5_comes_1 34 rfl) rfl rfl ?_
        refine r_A X 3 (by decide) rfl rfl (xdec_at tX5_comes_1 35 rfl) ?_
        refine v_iconst (v := 3) X (xdec_at tX5_comes_1 36 rfl) (by decide) ?_
        refine v_aload_n X (xdec_at tX5_comes_1 37 rfl) rfl rfl ?_
        refine r_A X 19 (by decide) rfl rfl (xdec_at tX5_comes_1 38 rfl) ?_
        refine v_iload_n X (xdec_at tX5_comes_1 39 rfl) rfl rfl ?_
        refine r_In (v := (μ.1 19 t)) X 19 (by decide) rfl rfl ht (xdec_at tX5_comes_2 0 rfl) rfl ?_
        refine v_imul X (xdec_at tX5_comes_2 1 rfl) ?_
        refine v_aload_n X (xdec_at tX5_comes_2 2 rfl) rfl rfl ?_
        refine r_A X 17 (by decide) rfl rfl (xdec_at tX5_comes_2 3 rfl) ?_
        refine v_iload_n X (xdec_at tX5_comes_2 4 rfl) rfl rfl ?_
        refine r_In (v := (μ.1 17 t)) X 17 (by decide) rfl rfl ht (xdec_at tX5_comes_2 5 rfl) rfl ?_
        refine v_iadd X (xdec_at tX5_comes_2 6 rfl) ?_
        refine r_I (v := (μ.1 3 (ix ((3 * (μ.1 19 t)) + (μ.1 17 t))))) X 3 (by decide) rfl rfl (in_3k (hI.ta ht) (hI.kd ht)).1 (xdec_at tX5_comes_2 7 rfl) rfl ?_
        refine v_istore (lv' := [some (.ref (lay (100, 0))), some (.int (nI t)), some (.long (M_taxOf μ t)), none, some (.int (μ.1 3 (ix ((3 * (μ.1 19 t)) + (μ.1 17 t)))))]) X (xdec_at tX5_comes_2 8 rfl) (by decide) rfl ?_
        refine v_aload_n X (xdec_at tX5_comes_2 9 rfl) rfl rfl ?_
        refine r_A X 21 (by decide) rfl rfl (xdec_at tX5_comes_2 10 rfl) ?_
        refine v_iload_n X (xdec_at tX5_comes_2 11 rfl) rfl rfl ?_
        refine r_Zn (v := (μ.1 21 t)) X 21 (by decide) rfl rfl ht (xdec_at tX5_comes_2 12 rfl) rfl ?_
        refine v_if_eq (tgt := 169) X (xdec_at tX5_comes_2 13 rfl) (by decide) (fun c_144 => ?_) (fun c_144 => ?_)
        · refine v_aload_n X (xdec_at tX5_comes_2 27 rfl) rfl rfl ?_
          refine r_S (v := (μ.1 36 0)) X 36 (by decide) rfl rfl (xdec_at tX5_comes_2 28 rfl) rfl ?_
          refine v_if_eq (tgt := 203) X (xdec_at tX5_comes_2 29 rfl) (by decide) (fun c_173 => ?_) (fun c_173 => ?_)
          · refine v_iconst (v := 1) X (xdec_at tX5_comes_3 9 rfl) (by decide) ?_
            have e9 : M_comes μ t = (1, ((up2 μ.1 23 t 2), (up2 μ.2 8 (ix (μ.1 19 t)) ((μ.2 8 (ix (μ.1 19 t))) + (M_taxOf μ t))))) := by simp [M_comes, up2_at, (eq_true c_12), (eq_true c_21), c_109, (eq_true c_144), (eq_true c_173)]
            exact v_iret X hr (xdec_at tX5_comes_3 10 rfl) (Nat.le_of_ble_eq_true rfl) (Nat.le_of_ble_eq_true rfl) ⟨rfl, by rw [e9], by rw [e9]⟩
          · refine v_aload_n X (xdec_at tX5_comes_2 30 rfl) rfl rfl ?_
            refine r_A X 9 (by decide) rfl rfl (xdec_at tX5_comes_2 31 rfl) ?_
            refine v_bipush (v := 8) X (xdec_at tX5_comes_2 32 rfl) (by decide) ?_
            refine v_aload_n X (xdec_at tX5_comes_2 33 rfl) rfl rfl ?_
            refine r_A X 18 (by decide) rfl rfl (xdec_at tX5_comes_2 34 rfl) ?_
            refine v_iload_n X (xdec_at tX5_comes_2 35 rfl) rfl rfl ?_
            refine r_In (v := (μ.1 18 t)) X 18 (by decide) rfl rfl ht (xdec_at tX5_comes_2 36 rfl) rfl ?_
            refine v_imul X (xdec_at tX5_comes_2 37 rfl) ?_
            refine v_aload_n X (xdec_at tX5_comes_2 38 rfl) rfl rfl ?_
            refine r_A X 19 (by decide) rfl rfl (xdec_at tX5_comes_2 39 rfl) ?_
            refine v_iload_n X (xdec_at tX5_comes_3 0 rfl) rfl rfl ?_
            refine r_In (v := (μ.1 19 t)) X 19 (by decide) rfl rfl ht (xdec_at tX5_comes_3 1 rfl) rfl ?_
            refine v_iadd X (xdec_at tX5_comes_3 2 rfl) ?_
            refine v_dup2_11 X (xdec_at tX5_comes_3 3 rfl) rfl rfl ?_
            refine r_L (v := (μ.2 9 (ix ((8 * (μ.1 18 t)) + (μ.1 19 t))))) X 9 (by decide) rfl rfl (in_8k (hI.or ht) (hI.ta ht)).1 (xdec_at tX5_comes_3 4 rfl) rfl ?_
            refine v_iload X (xdec_at tX5_comes_3 5 rfl) rfl ?_
            refine v_i2l X (xdec_at tX5_comes_3 6 rfl) rfl ?_
            refine v_ladd X (xdec_at tX5_comes_3 7 rfl) ?_
            refine r_PL X 9 (by decide) rfl rfl (in_8k (hI.or ht) (hI.ta ht)).1 (xdec_at tX5_comes_3 8 rfl) ?_
            refine v_iconst (v := 1) X (xdec_at tX5_comes_3 9 rfl) (by decide) ?_
            have e9 : M_comes μ t = (1, ((up2 μ.1 23 t 2), (up2 (up2 μ.2 8 (ix (μ.1 19 t)) ((μ.2 8 (ix (μ.1 19 t))) + (M_taxOf μ t))) 9 (ix ((8 * (μ.1 18 t)) + (μ.1 19 t))) ((μ.2 9 (ix ((8 * (μ.1 18 t)) + (μ.1 19 t)))) + ((μ.1 3 (ix ((3 * (μ.1 19 t)) + (μ.1 17 t))))).toInt64)))) := by simp [M_comes, up2_at, (eq_true c_12), (eq_true c_21), c_109, (eq_true c_144), c_173]
            exact v_iret X hr (xdec_at tX5_comes_3 10 rfl) (Nat.le_of_ble_eq_true rfl) (Nat.le_of_ble_eq_true rfl) ⟨rfl, by rw [e9], by rw [e9]⟩
        · refine v_aload_n X (xdec_at tX5_comes_2 14 rfl) rfl rfl ?_
          refine v_aload_n X (xdec_at tX5_comes_2 15 rfl) rfl rfl ?_
          refine r_A X 18 (by decide) rfl rfl (xdec_at tX5_comes_2 16 rfl) ?_
          refine v_iload_n X (xdec_at tX5_comes_2 17 rfl) rfl rfl ?_
          refine r_In (v := (μ.1 18 t)) X 18 (by decide) rfl rfl ht (xdec_at tX5_comes_2 18 rfl) rfl ?_
          refine v_aload_n X (xdec_at tX5_comes_2 19 rfl) rfl rfl ?_
          refine r_A X 19 (by decide) rfl rfl (xdec_at tX5_comes_2 20 rfl) ?_
          refine v_iload_n X (xdec_at tX5_comes_2 21 rfl) rfl rfl ?_
          refine r_In (v := (μ.1 19 t)) X 19 (by decide) rfl rfl ht (xdec_at tX5_comes_2 22 rfl) rfl ?_
          refine v_iload X (xdec_at tX5_comes_2 23 rfl) rfl ?_
          refine v_i2l X (xdec_at tX5_comes_2 24 rfl) rfl ?_
          refine v_callV X myX5_pays [.int (μ.1 18 t), .int (μ.1 19 t), .long ((μ.1 3 (ix ((3 * (μ.1 19 t)) + (μ.1 17 t))))).toInt64] [] (c_pays l Z B0 lay ((up2 μ.1 23 t 2), (up2 μ.2 8 (ix (μ.1 19 t)) ((μ.2 8 (ix (μ.1 19 t))) + (M_taxOf μ t)))) r (μ.1 18 t) (μ.1 19 t) (hI.or ht) (hI.ta ht) (((μ.1 3 (ix ((3 * (μ.1 19 t)) + (μ.1 17 t))))).toInt64)) (xw_at tW_20 24 rfl) (100, 0) cM_0 rfl rfl rfl rfl (by rfl) (Nat.le_of_ble_eq_true rfl) (xdec_at tX5_comes_2 25 rfl) ⟨(Nat.le_of_ble_eq_true rfl), (Nat.le_of_ble_eq_true rfl)⟩ ⟨(Nat.le_of_ble_eq_true rfl), (Nat.le_of_ble_eq_true rfl)⟩ ?_
          rintro v9 lay9 C9 ⟨rfl, rfl, rfl⟩
          refine v_goto (tgt := 203) X (xdec_at tX5_comes_2 26 rfl) (by decide) ?_
          refine v_iconst (v := 1) X (xdec_at tX5_comes_3 9 rfl) (by decide) ?_
          have e9 : M_comes μ t = (1, (M_pays ((up2 μ.1 23 t 2), (up2 μ.2 8 (ix (μ.1 19 t)) ((μ.2 8 (ix (μ.1 19 t))) + (M_taxOf μ t)))) (ix (μ.1 18 t)) (ix (μ.1 19 t)) (((μ.1 3 (ix ((3 * (μ.1 19 t)) + (μ.1 17 t))))).toInt64))) := by simp [M_comes, up2_at, (eq_true c_12), (eq_true c_21), c_109, c_144]
          exact v_iret X hr (xdec_at tX5_comes_3 10 rfl) (Nat.le_of_ble_eq_true rfl) (Nat.le_of_ble_eq_true rfl) ⟨rfl, by rw [e9], by rw [e9]⟩
      · refine v_iconst (v := 0) X (xdec_at tX5_comes_1 32 rfl) (by decide) ?_
        refine v_goto (tgt := 136) X (xdec_at tX5_comes_1 33 rfl) (by decide) ?_
        refine v_istore (lv' := [some (.ref (lay (100, 0))), some (.int (nI t)), some (.long (M_taxOf μ t)), none, some (.int 0)]) X (xdec_at tX5_comes_2 8 rfl) (by decide) rfl ?_
        refine v_aload_n X (xdec_at tX5_comes_2 9 rfl) rfl rfl ?_
        refine r_A X 21 (by decide) rfl rfl (xdec_at tX5_comes_2 10 rfl) ?_
        refine v_iload_n X (xdec_at tX5_comes_2 11 rfl) rfl rfl ?_
        refine r_Zn (v := (μ.1 21 t)) X 21 (by decide) rfl rfl ht (xdec_at tX5_comes_2 12 rfl) rfl ?_
        refine v_if_eq (tgt := 169) X (xdec_at tX5_comes_2 13 rfl) (by decide) (fun c_144 => ?_) (fun c_144 => ?_)
        · refine v_aload_n X (xdec_at tX5_comes_2 27 rfl) rfl rfl ?_
          refine r_S (v := (μ.1 36 0)) X 36 (by decide) rfl rfl (xdec_at tX5_comes_2 28 rfl) rfl ?_
          refine v_if_eq (tgt := 203) X (xdec_at tX5_comes_2 29 rfl) (by decide) (fun c_173 => ?_) (fun c_173 => ?_)
          · refine v_iconst (v := 1) X (xdec_at tX5_comes_3 9 rfl) (by decide) ?_
            have e9 : M_comes μ t = (1, ((up2 μ.1 23 t 2), (up2 μ.2 8 (ix (μ.1 19 t)) ((μ.2 8 (ix (μ.1 19 t))) + (M_taxOf μ t))))) := by simp [M_comes, up2_at, (eq_true c_12), (eq_true c_21), (eq_true c_109), (eq_true c_144), (eq_true c_173)]
            exact v_iret X hr (xdec_at tX5_comes_3 10 rfl) (Nat.le_of_ble_eq_true rfl) (Nat.le_of_ble_eq_true rfl) ⟨rfl, by rw [e9], by rw [e9]⟩
          · refine v_aload_n X (xdec_at tX5_comes_2 30 rfl) rfl rfl ?_
            refine r_A X 9 (by decide) rfl rfl (xdec_at tX5_comes_2 31 rfl) ?_
            refine v_bipush (v := 8) X (xdec_at tX5_comes_2 32 rfl) (by decide) ?_
            refine v_aload_n X (xdec_at tX5_comes_2 33 rfl) rfl rfl ?_
            refine r_A X 18 (by decide) rfl rfl (xdec_at tX5_comes_2 34 rfl) ?_
            refine v_iload_n X (xdec_at tX5_comes_2 35 rfl) rfl rfl ?_
            refine r_In (v := (μ.1 18 t)) X 18 (by decide) rfl rfl ht (xdec_at tX5_comes_2 36 rfl) rfl ?_
            refine v_imul X (xdec_at tX5_comes_2 37 rfl) ?_
            refine v_aload_n X (xdec_at tX5_comes_2 38 rfl) rfl rfl ?_
            refine r_A X 19 (by decide) rfl rfl (xdec_at tX5_comes_2 39 rfl) ?_
            refine v_iload_n X (xdec_at tX5_comes_3 0 rfl) rfl rfl ?_
            refine r_In (v := (μ.1 19 t)) X 19 (by decide) rfl rfl ht (xdec_at tX5_comes_3 1 rfl) rfl ?_
            refine v_iadd X (xdec_at tX5_comes_3 2 rfl) ?_
            refine v_dup2_11 X (xdec_at tX5_comes_3 3 rfl) rfl rfl ?_
            refine r_L (v := (μ.2 9 (ix ((8 * (μ.1 18 t)) + (μ.1 19 t))))) X 9 (by decide) rfl rfl (in_8k (hI.or ht) (hI.ta ht)).1 (xdec_at tX5_comes_3 4 rfl) rfl ?_
            refine v_iload X (xdec_at tX5_comes_3 5 rfl) rfl ?_
            refine v_i2l (v := 0) X (xdec_at tX5_comes_3 6 rfl) (by decide) ?_
            refine v_ladd X (xdec_at tX5_comes_3 7 rfl) ?_
            refine r_PL X 9 (by decide) rfl rfl (in_8k (hI.or ht) (hI.ta ht)).1 (xdec_at tX5_comes_3 8 rfl) ?_
            refine v_iconst (v := 1) X (xdec_at tX5_comes_3 9 rfl) (by decide) ?_
            have e9 : M_comes μ t = (1, ((up2 μ.1 23 t 2), (up2 (up2 μ.2 8 (ix (μ.1 19 t)) ((μ.2 8 (ix (μ.1 19 t))) + (M_taxOf μ t))) 9 (ix ((8 * (μ.1 18 t)) + (μ.1 19 t))) ((μ.2 9 (ix ((8 * (μ.1 18 t)) + (μ.1 19 t)))) + 0)))) := by simp [M_comes, up2_at, (eq_true c_12), (eq_true c_21), (eq_true c_109), (eq_true c_144), c_173]
            exact v_iret X hr (xdec_at tX5_comes_3 10 rfl) (Nat.le_of_ble_eq_true rfl) (Nat.le_of_ble_eq_true rfl) ⟨rfl, by rw [e9], by rw [e9]⟩
        · refine v_aload_n X (xdec_at tX5_comes_2 14 rfl) rfl rfl ?_
          refine v_aload_n X (xdec_at tX5_comes_2 15 rfl) rfl rfl ?_
          refine r_A X 18 (by decide) rfl rfl (xdec_at tX5_comes_2 16 rfl) ?_
          refine v_iload_n X (xdec_at tX5_comes_2 17 rfl) rfl rfl ?_
          refine r_In (v := (μ.1 18 t)) X 18 (by decide) rfl rfl ht (xdec_at tX5_comes_2 18 rfl) rfl ?_
          refine v_aload_n X (xdec_at tX5_comes_2 19 rfl) rfl rfl ?_
          refine r_A X 19 (by decide) rfl rfl (xdec_at tX5_comes_2 20 rfl) ?_
          refine v_iload_n X (xdec_at tX5_comes_2 21 rfl) rfl rfl ?_
          refine r_In (v := (μ.1 19 t)) X 19 (by decide) rfl rfl ht (xdec_at tX5_comes_2 22 rfl) rfl ?_
          refine v_iload X (xdec_at tX5_comes_2 23 rfl) rfl ?_
          refine v_i2l (v := 0) X (xdec_at tX5_comes_2 24 rfl) (by decide) ?_
          refine v_callV X myX5_pays [.int (μ.1 18 t), .int (μ.1 19 t), .long 0] [] (c_pays l Z B0 lay ((up2 μ.1 23 t 2), (up2 μ.2 8 (ix (μ.1 19 t)) ((μ.2 8 (ix (μ.1 19 t))) + (M_taxOf μ t)))) r (μ.1 18 t) (μ.1 19 t) (hI.or ht) (hI.ta ht) 0) (xw_at tW_20 24 rfl) (100, 0) cM_0 rfl rfl rfl rfl (by rfl) (Nat.le_of_ble_eq_true rfl) (xdec_at tX5_comes_2 25 rfl) ⟨(Nat.le_of_ble_eq_true rfl), (Nat.le_of_ble_eq_true rfl)⟩ ⟨(Nat.le_of_ble_eq_true rfl), (Nat.le_of_ble_eq_true rfl)⟩ ?_
          rintro v9 lay9 C9 ⟨rfl, rfl, rfl⟩
          refine v_goto (tgt := 203) X (xdec_at tX5_comes_2 26 rfl) (by decide) ?_
          refine v_iconst (v := 1) X (xdec_at tX5_comes_3 9 rfl) (by decide) ?_
          have e9 : M_comes μ t = (1, (M_pays ((up2 μ.1 23 t 2), (up2 μ.2 8 (ix (μ.1 19 t)) ((μ.2 8 (ix (μ.1 19 t))) + (M_taxOf μ t)))) (ix (μ.1 18 t)) (ix (μ.1 19 t)) 0)) := by simp [M_comes, up2_at, (eq_true c_12), (eq_true c_21), (eq_true c_109), c_144]
          exact v_iret X hr (xdec_at tX5_comes_3 10 rfl) (Nat.le_of_ble_eq_true rfl) (Nat.le_of_ble_eq_true rfl) ⟨rfl, by rw [e9], by rw [e9]⟩
    · refine v_lload_n X (xdec_at tX5_comes_0 14 rfl) rfl rfl ?_
      refine v_lconst (v := 0) X (xdec_at tX5_comes_0 15 rfl) (by decide) ?_
      refine v_lcmp X (xdec_at tX5_comes_0 16 rfl) ?_
      refine v_if_le (tgt := 66) X (xdec_at tX5_comes_0 17 rfl) (by decide) (fun c_27 => ?_) (fun c_27 => ?_)
      · refine v_aload_n X (xdec_at tX5_comes_1 2 rfl) rfl rfl ?_
        refine r_A X 23 (by decide) rfl rfl (xdec_at tX5_comes_1 3 rfl) ?_
        refine v_iload_n X (xdec_at tX5_comes_1 4 rfl) rfl rfl ?_
        refine v_iconst (v := 2) X (xdec_at tX5_comes_1 5 rfl) (by decide) ?_
        refine r_PIn X 23 (by decide) rfl rfl ht (xdec_at tX5_comes_1 6 rfl) ?_
        refine v_aload_n X (xdec_at tX5_comes_1 7 rfl) rfl rfl ?_
        refine r_A X 27 (by decide) rfl rfl (xdec_at tX5_comes_1 8 rfl) ?_
        refine v_iload_n X (xdec_at tX5_comes_1 9 rfl) rfl rfl ?_
        refine r_Zn (v := (μ.1 27 t)) X 27 (by decide) rfl rfl ht (xdec_at tX5_comes_1 10 rfl) rfl ?_
        refine v_if_ne (tgt := 203) X (xdec_at tX5_comes_1 11 rfl) (by decide) (fun h9 => absurd c_12 h9) (fun _ => ?_)
        refine v_aload_n X (xdec_at tX5_comes_1 12 rfl) rfl rfl ?_
        refine r_A X 8 (by decide) rfl rfl (xdec_at tX5_comes_1 13 rfl) ?_
        refine v_aload_n X (xdec_at tX5_comes_1 14 rfl) rfl rfl ?_
        refine r_A X 19 (by decide) rfl rfl (xdec_at tX5_comes_1 15 rfl) ?_
        refine v_iload_n X (xdec_at tX5_comes_1 16 rfl) rfl rfl ?_
        refine r_In (v := (μ.1 19 t)) X 19 (by decide) rfl rfl ht (xdec_at tX5_comes_1 17 rfl) rfl ?_
        refine v_dup2_11 X (xdec_at tX5_comes_1 18 rfl) rfl rfl ?_
        refine r_L (v := (μ.2 8 (ix (μ.1 19 t)))) X 8 (by decide) rfl rfl (hI.ta ht) (xdec_at tX5_comes_1 19 rfl) rfl ?_
        refine v_lload_n X (xdec_at tX5_comes_1 20 rfl) rfl rfl ?_
        refine v_ladd X (xdec_at tX5_comes_1 21 rfl) ?_
        refine r_PL X 8 (by decide) rfl rfl (hI.ta ht) (xdec_at tX5_comes_1 22 rfl) ?_
        refine v_aload_n X (xdec_at tX5_comes_1 23 rfl) rfl rfl ?_
        refine r_A X 19 (by decide) rfl rfl (xdec_at tX5_comes_1 24 rfl) ?_
        refine v_iload_n X (xdec_at tX5_comes_1 25 rfl) rfl rfl ?_
        refine r_In (v := (μ.1 19 t)) X 19 (by decide) rfl rfl ht (xdec_at tX5_comes_1 26 rfl) rfl ?_
        refine v_aload_n X (xdec_at tX5_comes_1 27 rfl) rfl rfl ?_
        refine r_A X 18 (by decide) rfl rfl (xdec_at tX5_comes_1 28 rfl) ?_
        refine v_iload_n X (xdec_at tX5_comes_1 29 rfl) rfl rfl ?_
        refine r_In (v := (μ.1 18 t)) X 18 (by decide) rfl rfl ht (xdec_at tX5_comes_1 30 rfl) rfl ?_
        refine v_icmp_ne (tgt := 116) X (xdec_at tX5_comes_1 31 rfl) (by decide) (fun c_109 => ?_) (fun c_109 => ?_)
        · refine v_aload_n X (xdec_at tX5_comes_1 34 rfl) rfl rfl ?_
          refine r_A X 3 (by decide) rfl rfl (xdec_at tX5_comes_1 35 rfl) ?_
          refine v_iconst (v := 3) X (xdec_at tX5_comes_1 36 rfl) (by decide) ?_
          refine v_aload_n X (xdec_at tX5_comes_1 37 rfl) rfl rfl ?_
          refine r_A X 19 (by decide) rfl rfl (xdec_at tX5_comes_1 38 rfl) ?_
          refine v_iload_n X (xdec_at tX5_comes_1 39 rfl) rfl rfl ?_
          refine r_In (v := (μ.1 19 t)) X 19 (by decide) rfl rfl ht (xdec_at tX5_comes_2 0 rfl) rfl ?_
          refine v_imul X (xdec_at tX5_comes_2 1 rfl) ?_
          refine v_aload_n X (xdec_at tX5_comes_2 2 rfl) rfl rfl ?_
          refine r_A X 17 (by decide) rfl rfl (xdec_at tX5_comes_2 3 rfl) ?_
          refine v_iload_n X (xdec_at tX5_comes_2 4 rfl) rfl rfl ?_
          refine r_In (v := (μ.1 17 t)) X 17 (by decide) rfl rfl ht (xdec_at tX5_comes_2 5 rfl) rfl ?_
          refine v_iadd X (xdec_at tX5_comes_2 6 rfl) ?_
          refine r_I (v := (μ.1 3 (ix ((3 * (μ.1 19 t)) + (μ.1 17 t))))) X 3 (by decide) rfl rfl (in_3k (hI.ta ht) (hI.kd ht)).1 (xdec_at tX5_comes_2 7 rfl) rfl ?_
          refine v_istore (lv' := [some (.ref (lay (100, 0))), some (.int (nI t)), some (.long (M_taxOf μ t)), none, some (.int (μ.1 3 (ix ((3 * (μ.1 19 t)) + (μ.1 17 t)))))]) X (xdec_at tX5_comes_2 8 rfl) (by decide) rfl ?_
          refine v_aload_n X (xdec_at tX5_comes_2 9 rfl) rfl rfl ?_
          refine r_A X 21 (by decide) rfl rfl (xdec_at tX5_comes_2 10 rfl) ?_
          refine v_iload_n X (xdec_at tX5_comes_2 11 rfl) rfl rfl ?_
          refine r_Zn (v := (μ.1 21 t)) X 21 (by decide) rfl rfl ht (xdec_at tX5_comes_2 12 rfl) rfl ?_
          refine v_if_eq (tgt := 169) X (xdec_at tX5_comes_2 13 rfl) (by decide) (fun c_144 => ?_) (fun c_144 => ?_)
          · refine v_aload_n X (xdec_at tX5_comes_2 27 rfl) rfl rfl ?_
            refine r_S (v := (μ.1 36 0)) X 36 (by decide) rfl rfl (xdec_at tX5_comes_2 28 rfl) rfl ?_
            refine v_if_eq (tgt := 203) X (xdec_at tX5_comes_2 29 rfl) (by decide) (fun c_173 => ?_) (fun c_173 => ?_)
            · refine v_iconst (v := 1) X (xdec_at tX5_comes_3 9 rfl) (by decide) ?_
              have e9 : M_comes μ t = (1, ((up2 μ.1 23 t 2), (up2 μ.2 8 (ix (μ.1 19 t)) ((μ.2 8 (ix (μ.1 19 t))) + (M_taxOf μ t))))) := by simp [M_comes, up2_at, (eq_true c_12), c_21, c_27, c_109, (eq_true c_144), (eq_true c_173)]
              exact v_iret X hr (xdec_at tX5_comes_3 10 rfl) (Nat.le_of_ble_eq_true rfl) (Nat.le_of_ble_eq_true rfl) ⟨rfl, by rw [e9], by rw [e9]⟩
            · refine v_aload_n X (xdec_at tX5_comes_2 30 rfl) rfl rfl ?_
              refine r_A X 9 (by decide) rfl rfl (xdec_at tX5_comes_2 31 rfl) ?_
              refine v_bipush (v := 8) X (xdec_at tX5_comes_2 32 rfl) (by decide) ?_
              refine v_aload_n X (xdec_at tX5_comes_2 33 rfl) rfl rfl ?_
              refine r_A X 18 (by decide) rfl rfl (xdec_at tX5_comes_2 34 rfl) ?_
              refine v_iload_n X (xdec_at tX5_comes_2 35 rfl) rfl rfl ?_
              refine r_In (v := (μ.1 18 t)) X 18 (by decide) rfl rfl ht (xdec_at tX5_comes_2 36 rfl) rfl ?_
              refine v_imul X (xdec_at tX5_comes_2 37 rfl) ?_
              refine v_aload_n X (xdec_at tX5_comes_2 38 rfl) rfl rfl ?_
              refine r_A X 19 (by decide) rfl rfl (xdec_at tX5_comes_2 39 rfl) ?_
              refine v_iload_n X (xdec_at tX5_comes_3 0 rfl) rfl rfl ?_
              refine r_In (v := (μ.1 19 t)) X 19 (by decide) rfl rfl ht (xdec_at tX5_comes_3 1 rfl) rfl ?_
              refine v_iadd X (xdec_at tX5_comes_3 2 rfl) ?_
              refine v_dup2_11 X (xdec_at tX5_comes_3 3 rfl) rfl rfl ?_
              refine r_L (v := (μ.2 9 (ix ((8 * (μ.1 18 t)) + (μ.1 19 t))))) X 9 (by decide) rfl rfl (in_8k (hI.or ht) (hI.ta ht)).1 (xdec_at tX5_comes_3 4 rfl) rfl ?_
              refine v_iload X (xdec_at tX5_comes_3 5 rfl) rfl ?_
              refine v_i2l X (xdec_at tX5_comes_3 6 rfl) rfl ?_
              refine v_ladd X (xdec_at tX5_comes_3 7 rfl) ?_
              refine r_PL X 9 (by decide) rfl rfl (in_8k (hI.or ht) (hI.ta ht)).1 (xdec_at tX5_comes_3 8 rfl) ?_
              refine v_iconst (v := 1) X (xdec_at tX5_comes_3 9 rfl) (by decide) ?_
              have e9 : M_comes μ t = (1, ((up2 μ.1 23 t 2), (up2 (up2 μ.2 8 (ix (μ.1 19 t)) ((μ.2 8 (ix (μ.1 19 t))) + (M_taxOf μ t))) 9 (ix ((8 * (μ.1 18 t)) + (μ.1 19 t))) ((μ.2 9 (ix ((8 * (μ.1 18 t)) + (μ.1 19 t)))) + ((μ.1 3 (ix ((3 * (μ.1 19 t)) + (μ.1 17 t))))).toInt64)))) := by simp [M_comes, up2_at, (eq_true c_12), c_21, c_27, c_109, (eq_true c_144), c_173]
              exact v_iret X hr (xdec_at tX5_comes_3 10 rfl) (Nat.le_of_ble_eq_true rfl) (Nat.le_of_ble_eq_true rfl) ⟨rfl, by rw [e9], by rw [e9]⟩
          · refine v_aload_n X (xdec_at tX5_comes_2 14 rfl) rfl rfl ?_
            refine v_aload_n X (xdec_at tX5_comes_2 15 rfl) rfl rfl ?_
            refine r_A X 18 (by decide) rfl rfl (xdec_at tX5_comes_2 16 rfl) ?_
            refine v_iload_n X (xdec_at tX5_comes_2 17 rfl) rfl rfl ?_
            refine r_In (v := (μ.1 18 t)) X 18 (by decide) rfl rfl ht (xdec_at tX5_comes_2 18 rfl) rfl ?_
            refine v_aload_n X (xdec_at tX5_comes_2 19 rfl) rfl rfl ?_
            refine r_A X 19 (by decide) rfl rfl (xdec_at tX5_comes_2 20 rfl) ?_
            refine v_iload_n X (xdec_at tX5_comes_2 21 rfl) rfl rfl ?_
            refine r_In (v := (μ.1 19 t)) X 19 (by decide) rfl rfl ht (xdec_at tX5_comes_2 22 rfl) rfl ?_
            refine v_iload X (xdec_at tX5_comes_2 23 rfl) rfl ?_
            refine v_i2l X (xdec_at tX5_comes_2 24 rfl) rfl ?_
            refine v_callV X myX5_pays [.int (μ.1 18 t), .int (μ.1 19 t), .long ((μ.1 3 (ix ((3 * (μ.1 19 t)) + (μ.1 17 t))))).toInt64] [] (c_pays l Z B0 lay ((up2 μ.1 23 t 2), (up2 μ.2 8 (ix (μ.1 19 t)) ((μ.2 8 (ix (μ.1 19 t))) + (M_taxOf μ t)))) r (μ.1 18 t) (μ.1 19 t) (hI.or ht) (hI.ta ht) (((μ.1 3 (ix ((3 * (μ.1 19 t)) + (μ.1 17 t))))).toInt64)) (xw_at tW_20 24 rfl) (100, 0) cM_0 rfl rfl rfl rfl (by rfl) (Nat.le_of_ble_eq_true rfl) (xdec_at tX5_comes_2 25 rfl) ⟨(Nat.le_of_ble_eq_true rfl), (Nat.le_of_ble_eq_true rfl)⟩ ⟨(Nat.le_of_ble_eq_true rfl), (Nat.le_of_ble_eq_true rfl)⟩ ?_
            rintro v9 lay9 C9 ⟨rfl, rfl, rfl⟩
            refine v_goto (tgt := 203) X (xdec_at tX5_comes_2 26 rfl) (by decide) ?_
            refine v_iconst (v := 1) X (xdec_at tX5_comes_3 9 rfl) (by decide) ?_
            have e9 : M_comes μ t = (1, (M_pays ((up2 μ.1 23 t 2), (up2 μ.2 8 (ix (μ.1 19 t)) ((μ.2 8 (ix (μ.1 19 t))) + (M_taxOf μ t)))) (ix (μ.1 18 t)) (ix (μ.1 19 t)) (((μ.1 3 (ix ((3 * (μ.1 19 t)) + (μ.1 17 t))))).toInt64))) := by simp [M_comes, up2_at, (eq_true c_12), c_21, c_27, c_109, c_144]
            exact v_iret X hr (xdec_at tX5_comes_3 10 rfl) (Nat.le_of_ble_eq_true rfl) (Nat.le_of_ble_eq_true rfl) ⟨rfl, by rw [e9], by rw [e9]⟩
        · refine v_iconst (v := 0) X (xdec_at tX5_comes_1 32 rfl) (by decide) ?_
          refine v_goto (tgt := 136) X (xdec_at tX5_comes_1 33 rfl) (by decide) ?_
          refine v_istore (lv' := [some (.ref (lay (100, 0))), some (.int (nI t)), some (.long (M_taxOf μ t)), none, some (.int 0)]) X (xdec_at tX5_comes_2 8 rfl) (by decide) rfl ?_
          refine v_aload_n X (xdec_at tX5_comes_2 9 rfl) rfl rfl ?_
          refine r_A X 21 (by decide) rfl rfl (xdec_at tX5_comes_2 10 rfl) ?_
          refine v_iload_n X (xdec_at tX5_comes_2 11 rfl) rfl rfl ?_
          refine r_Zn (v := (μ.1 21 t)) X 21 (by decide) rfl rfl ht (xdec_at tX5_comes_2 12 rfl) rfl ?_
          refine v_if_eq (tgt := 169) X (xdec_at tX5_comes_2 13 rfl) (by decide) (fun c_144 => ?_) (fun c_144 => ?_)
          · refine v_aload_n X (xdec_at tX5_comes_2 27 rfl) rfl rfl ?_
            refine r_S (v := (μ.1 36 0)) X 36 (by decide) rfl rfl (xdec_at tX5_comes_2 28 rfl) rfl ?_
            refine v_if_eq (tgt := 203) X (xdec_at tX5_comes_2 29 rfl) (by decide) (fun c_173 => ?_) (fun c_173 => ?_)
            · refine v_iconst (v := 1) X (xdec_at tX5_comes_3 9 rfl) (by decide) ?_
              have e9 : M_comes μ t = (1, ((up2 μ.1 23 t 2), (up2 μ.2 8 (ix (μ.1 19 t)) ((μ.2 8 (ix (μ.1 19 t))) + (M_taxOf μ t))))) := by simp [M_comes, up2_at, (eq_true c_12), c_21, c_27, (eq_true c_109), (eq_true c_144), (eq_true c_173)]
              exact v_iret X hr (xdec_at tX5_comes_3 10 rfl) (Nat.le_of_ble_eq_true rfl) (Nat.le_of_ble_eq_true rfl) ⟨rfl, by rw [e9], by rw [e9]⟩
            · refine v_aload_n X (xdec_at tX5_comes_2 30 rfl) rfl rfl ?_
              refine r_A X 9 (by decide) rfl rfl (xdec_at tX5_comes_2 31 rfl) ?_
              refine v_bipush (v := 8) X (xdec_at tX5_comes_2 32 rfl) (by decide) ?_
              refine v_aload_n X (xdec_at tX5_comes_2 33 rfl) rfl rfl ?_
              refine r_A X 18 (by decide) rfl rfl (xdec_at tX5_comes_2 34 rfl) ?_
              refine v_iload_n X (xdec_at tX5_comes_2 35 rfl) rfl rfl ?_
              refine r_In (v := (μ.1 18 t)) X 18 (by decide) rfl rfl ht (xdec_at tX5_comes_2 36 rfl) rfl ?_
              refine v_imul X (xdec_at tX5_comes_2 37 rfl) ?_
              refine v_aload_n X (xdec_at tX5_comes_2 38 rfl) rfl rfl ?_
              refine r_A X 19 (by decide) rfl rfl (xdec_at tX5_comes_2 39 rfl) ?_
              refine v_iload_n X (xdec_at tX5_comes_3 0 rfl) rfl rfl ?_
              refine r_In (v := (μ.1 19 t)) X 19 (by decide) rfl rfl ht (xdec_at tX5_comes_3 1 rfl) rfl ?_
              refine v_iadd X (xdec_at tX5_comes_3 2 rfl) ?_
              refine v_dup2_11 X (xdec_at tX5_comes_3 3 rfl) rfl rfl ?_
              refine r_L (v := (μ.2 9 (ix ((8 * (μ.1 18 t)) + (μ.1 19 t))))) X 9 (by decide) rfl rfl (in_8k (hI.or ht) (hI.ta ht)).1 (xdec_at tX5_comes_3 4 rfl) rfl ?_
              refine v_iload X (xdec_at tX5_comes_3 5 rfl) rfl ?_
              refine v_i2l (v := 0) X (xdec_at tX5_comes_3 6 rfl) (by decide) ?_
              refine v_ladd X (xdec_at tX5_comes_3 7 rfl) ?_
              refine r_PL X 9 (by decide) rfl rfl (in_8k (hI.or ht) (hI.ta ht)).1 (xdec_at tX5_comes_3 8 rfl) ?_
              refine v_iconst (v := 1) X (xdec_at tX5_comes_3 9 rfl) (by decide) ?_
              have e9 : M_comes μ t = (1, ((up2 μ.1 23 t 2), (up2 (up2 μ.2 8 (ix (μ.1 19 t)) ((μ.2 8 (ix (μ.1 19 t))) + (M_taxOf μ t))) 9 (ix ((8 * (μ.1 18 t)) + (μ.1 19 t))) ((μ.2 9 (ix ((8 * (μ.1 18 t)) + (μ.1 19 t)))) + 0)))) := by simp [M_comes, up2_at, (eq_true c_12), c_21, c_27, (eq_true c_109), (eq_true c_144), c_173]
              exact v_iret X hr (xdec_at tX5_comes_3 10 rfl) (Nat.le_of_ble_eq_true rfl) (Nat.le_of_ble_eq_true rfl) ⟨rfl, by rw [e9], by rw [e9]⟩
          · refine v_aload_n X (xdec_at tX5_comes_2 14 rfl) rfl rfl ?_
            refine v_aload_n X (xdec_at tX5_comes_2 15 rfl) rfl rfl ?_
            refine r_A X 18 (by decide) rfl rfl (xdec_at tX5_comes_2 16 rfl) ?_
            refine v_iload_n X (xdec_at tX5_comes_2 17 rfl) rfl rfl ?_
            refine r_In (v := (μ.1 18 t)) X 18 (by decide) rfl rfl ht (xdec_at tX5_comes_2 18 rfl) rfl ?_
            refine v_aload_n X (xdec_at tX5_comes_2 19 rfl) rfl rfl ?_
            refine r_A X 19 (by decide) rfl rfl (xdec_at tX5_comes_2 20 rfl) ?_
            refine v_iload_n X (xdec_at tX5_comes_2 21 rfl) rfl rfl ?_
            refine r_In (v := (μ.1 19 t)) X 19 (by decide) rfl rfl ht (xdec_at tX5_comes_2 22 rfl) rfl ?_
            refine v_iload X (xdec_at tX5_comes_2 23 rfl) rfl ?_
            refine v_i2l (v := 0) X (xdec_at tX5_comes_2 24 rfl) (by decide) ?_
            refine v_callV X myX5_pays [.int (μ.1 18 t), .int (μ.1 19 t), .long 0] [] (c_pays l Z B0 lay ((up2 μ.1 23 t 2), (up2 μ.2 8 (ix (μ.1 19 t)) ((μ.2 8 (ix (μ.1 19 t))) + (M_taxOf μ t)))) r (μ.1 18 t) (μ.1 19 t) (hI.or ht) (hI.ta ht) 0) (xw_at tW_20 24 rfl) (100, 0) cM_0 rfl rfl rfl rfl (by rfl) (Nat.le_of_ble_eq_true rfl) (xdec_at tX5_comes_2 25 rfl) ⟨(Nat.le_of_ble_eq_true rfl), (Nat.le_of_ble_eq_true rfl)⟩ ⟨(Nat.le_of_ble_eq_true rfl), (Nat.le_of_ble_eq_true rfl)⟩ ?_
            rintro v9 lay9 C9 ⟨rfl, rfl, rfl⟩
            refine v_goto (tgt := 203) X (xdec_at tX5_comes_2 26 rfl) (by decide) ?_
            refine v_iconst (v := 1) X (xdec_at tX5_comes_3 9 rfl) (by decide) ?_
            have e9 : M_comes μ t = (1, (M_pays ((up2 μ.1 23 t 2), (up2 μ.2 8 (ix (μ.1 19 t)) ((μ.2 8 (ix (μ.1 19 t))) + (M_taxOf μ t)))) (ix (μ.1 18 t)) (ix (μ.1 19 t)) 0)) := by simp [M_comes, up2_at, (eq_true c_12), c_21, c_27, (eq_true c_109), c_144]
            exact v_iret X hr (xdec_at tX5_comes_3 10 rfl) (Nat.le_of_ble_eq_true rfl) (Nat.le_of_ble_eq_true rfl) ⟨rfl, by rw [e9], by rw [e9]⟩
      · refine v_aload_n X (xdec_at tX5_comes_0 18 rfl) rfl rfl ?_
        refine r_A X 19 (by decide) rfl rfl (xdec_at tX5_comes_0 19 rfl) ?_
        refine v_iload_n X (xdec_at tX5_comes_0 20 rfl) rfl rfl ?_
        refine r_In (v := (μ.1 19 t)) X 19 (by decide) rfl rfl ht (xdec_at tX5_comes_0 21 rfl) rfl ?_
        refine v_aload_n X (xdec_at tX5_comes_0 22 rfl) rfl rfl ?_
        refine r_A X 18 (by decide) rfl rfl (xdec_at tX5_comes_0 23 rfl) ?_
        refine v_iload_n X (xdec_at tX5_comes_0 24 rfl) rfl rfl ?_
        refine r_In (v := (μ.1 18 t)) X 18 (by decide) rfl rfl ht (xdec_at tX5_comes_0 25 rfl) rfl ?_
        refine v_icmp_eq (tgt := 66) X (xdec_at tX5_comes_0 26 rfl) (by decide) (fun c_42 => ?_) (fun c_42 => ?_)
        · refine v_aload_n X (xdec_at tX5_comes_1 2 rfl) rfl rfl ?_
          refine r_A X 23 (by decide) rfl rfl (xdec_at tX5_comes_1 3 rfl) ?_
          refine v_iload_n X (xdec_at tX5_comes_1 4 rfl) rfl rfl ?_
          refine v_iconst (v := 2) X (xdec_at tX5_comes_1 5 rfl) (by decide) ?_
          refine r_PIn X 23 (by decide) rfl rfl ht (xdec_at tX5_comes_1 6 rfl) ?_
          refine v_aload_n X (xdec_at tX5_comes_1 7 rfl) rfl rfl ?_
          refine r_A X 27 (by decide) rfl rfl (xdec_at tX5_comes_1 8 rfl) ?_
          refine v_iload_n X (xdec_at tX5_comes_1 9 rfl) rfl rfl ?_
          refine r_Zn (v := (μ.1 27 t)) X 27 (by decide) rfl rfl ht (xdec_at tX5_comes_1 10 rfl) rfl ?_
          refine v_if_ne (tgt := 203) X (xdec_at tX5_comes_1 11 rfl) (by decide) (fun h9 => absurd c_12 h9) (fun _ => ?_)
          refine v_aload_n X (xdec_at tX5_comes_1 12 rfl) rfl rfl ?_
          refine r_A X 8 (by decide) rfl rfl (xdec_at tX5_comes_1 13 rfl) ?_
          refine v_aload_n X (xdec_at tX5_comes_1 14 rfl) rfl rfl ?_
          refine r_A X 19 (by decide) rfl rfl (xdec_at tX5_comes_1 15 rfl) ?_
          refine v_iload_n X (xdec_at tX5_comes_1 16 rfl) rfl rfl ?_
          refine r_In (v := (μ.1 19 t)) X 19 (by decide) rfl rfl ht (xdec_at tX5_comes_1 17 rfl) rfl ?_
          refine v_dup2_11 X (xdec_at tX5_comes_1 18 rfl) rfl rfl ?_
          refine r_L (v := (μ.2 8 (ix (μ.1 19 t)))) X 8 (by decide) rfl rfl (hI.ta ht) (xdec_at tX5_comes_1 19 rfl) rfl ?_
          refine v_lload_n X (xdec_at tX5_comes_1 20 rfl) rfl rfl ?_
          refine v_ladd X (xdec_at tX5_comes_1 21 rfl) ?_
          refine r_PL X 8 (by decide) rfl rfl (hI.ta ht) (xdec_at tX5_comes_1 22 rfl) ?_
          refine v_aload_n X (xdec_at tX5_comes_1 23 rfl) rfl rfl ?_
          refine r_A X 19 (by decide) rfl rfl (xdec_at tX5_comes_1 24 rfl) ?_
          refine v_iload_n X (xdec_at tX5_comes_1 25 rfl) rfl rfl ?_
          refine r_In (v := (μ.1 19 t)) X 19 (by decide) rfl rfl ht (xdec_at tX5_comes_1 26 rfl) rfl ?_
          refine v_aload_n X (xdec_at tX5_comes_1 27 rfl) rfl rfl ?_
          refine r_A X 18 (by decide) rfl rfl (xdec_at tX5_comes_1 28 rfl) ?_
          refine v_iload_n X (xdec_at tX5_comes_1 29 rfl) rfl rfl ?_
          refine r_In (v := (μ.1 18 t)) X 18 (by decide) rfl rfl ht (xdec_at tX5_comes_1 30 rfl) rfl ?_
          refine v_icmp_ne (tgt := 116) X (xdec_at tX5_comes_1 31 rfl) (by decide) (fun h9 => absurd c_42 h9) (fun _ => ?_)
          refine v_iconst (v := 0) X (xdec_at tX5_comes_1 32 rfl) (by decide) ?_
          refine v_goto (tgt := 136) X (xdec_at tX5_comes_1 33 rfl) (by decide) ?_
          refine v_istore (lv' := [some (.ref (lay (100, 0))), some (.int (nI t)), some (.long (M_taxOf μ t)), none, some (.int 0)]) X (xdec_at tX5_comes_2 8 rfl) (by decide) rfl ?_
          refine v_aload_n X (xdec_at tX5_comes_2 9 rfl) rfl rfl ?_
          refine r_A X 21 (by decide) rfl rfl (xdec_at tX5_comes_2 10 rfl) ?_
          refine v_iload_n X (xdec_at tX5_comes_2 11 rfl) rfl rfl ?_
          refine r_Zn (v := (μ.1 21 t)) X 21 (by decide) rfl rfl ht (xdec_at tX5_comes_2 12 rfl) rfl ?_
          refine v_if_eq (tgt := 169) X (xdec_at tX5_comes_2 13 rfl) (by decide) (fun c_144 => ?_) (fun c_144 => ?_)
          · refine v_aload_n X (xdec_at tX5_comes_2 27 rfl) rfl rfl ?_
            refine r_S (v := (μ.1 36 0)) X 36 (by decide) rfl rfl (xdec_at tX5_comes_2 28 rfl) rfl ?_
            refine v_if_eq (tgt := 203) X (xdec_at tX5_comes_2 29 rfl) (by decide) (fun c_173 => ?_) (fun c_173 => ?_)
            · refine v_iconst (v := 1) X (xdec_at tX5_comes_3 9 rfl) (by decide) ?_
              have e9 : M_comes μ t = (1, ((up2 μ.1 23 t 2), (up2 μ.2 8 (ix (μ.1 19 t)) ((μ.2 8 (ix (μ.1 19 t))) + (M_taxOf μ t))))) := by simp [M_comes, up2_at, (eq_true c_12), c_21, c_27, (eq_true c_42), (eq_true c_144), (eq_true c_173)]
              exact v_iret X hr (xdec_at tX5_comes_3 10 rfl) (Nat.le_of_ble_eq_true rfl) (Nat.le_of_ble_eq_true rfl) ⟨rfl, by rw [e9], by rw [e9]⟩
            · refine v_aload_n X (xdec_at tX5_comes_2 30 rfl) rfl rfl ?_
              refine r_A X 9 (by decide) rfl rfl (xdec_at tX5_comes_2 31 rfl) ?_
              refine v_bipush (v := 8) X (xdec_at tX5_comes_2 32 rfl) (by decide) ?_
              refine v_aload_n X (xdec_at tX5_comes_2 33 rfl) rfl rfl ?_
              refine r_A X 18 (by decide) rfl rfl (xdec_at tX5_comes_2 34 rfl) ?_
              refine v_iload_n X (xdec_at tX5_comes_2 35 rfl) rfl rfl ?_
              refine r_In (v := (μ.1 18 t)) X 18 (by decide) rfl rfl ht (xdec_at tX5_comes_2 36 rfl) rfl ?_
              refine v_imul X (xdec_at tX5_comes_2 37 rfl) ?_
              refine v_aload_n X (xdec_at tX5_comes_2 38 rfl) rfl rfl ?_
              refine r_A X 19 (by decide) rfl rfl (xdec_at tX5_comes_2 39 rfl) ?_
              refine v_iload_n X (xdec_at tX5_comes_3 0 rfl) rfl rfl ?_
              refine r_In (v := (μ.1 19 t)) X 19 (by decide) rfl rfl ht (xdec_at tX5_comes_3 1 rfl) rfl ?_
              refine v_iadd X (xdec_at tX5_comes_3 2 rfl) ?_
              refine v_dup2_11 X (xdec_at tX5_comes_3 3 rfl) rfl rfl ?_
              refine r_L (v := (μ.2 9 (ix ((8 * (μ.1 18 t)) + (μ.1 19 t))))) X 9 (by decide) rfl rfl (in_8k (hI.or ht) (hI.ta ht)).1 (xdec_at tX5_comes_3 4 rfl) rfl ?_
              refine v_iload X (xdec_at tX5_comes_3 5 rfl) rfl ?_
              refine v_i2l (v := 0) X (xdec_at tX5_comes_3 6 rfl) (by decide) ?_
              refine v_ladd X (xdec_at tX5_comes_3 7 rfl) ?_
              refine r_PL X 9 (by decide) rfl rfl (in_8k (hI.or ht) (hI.ta ht)).1 (xdec_at tX5_comes_3 8 rfl) ?_
              refine v_iconst (v := 1) X (xdec_at tX5_comes_3 9 rfl) (by decide) ?_
              have e9 : M_comes μ t = (1, ((up2 μ.1 23 t 2), (up2 (up2 μ.2 8 (ix (μ.1 19 t)) ((μ.2 8 (ix (μ.1 19 t))) + (M_taxOf μ t))) 9 (ix ((8 * (μ.1 18 t)) + (μ.1 19 t))) ((μ.2 9 (ix ((8 * (μ.1 18 t)) + (μ.1 19 t)))) + 0)))) := by simp [M_comes, up2_at, (eq_true c_12), c_21, c_27, (eq_true c_42), (eq_true c_144), c_173]
              exact v_iret X hr (xdec_at tX5_comes_3 10 rfl) (Nat.le_of_ble_eq_true rfl) (Nat.le_of_ble_eq_true rfl) ⟨rfl, by rw [e9], by rw [e9]⟩
          · refine v_aload_n X (xdec_at tX5_comes_2 14 rfl) rfl rfl ?_
            refine v_aload_n X (xdec_at tX5_comes_2 15 rfl) rfl rfl ?_
            refine r_A X 18 (by decide) rfl rfl (xdec_at tX5_comes_2 16 rfl) ?_
            refine v_iload_n X (xdec_at tX5_comes_2 17 rfl) rfl rfl ?_
            refine r_In (v := (μ.1 18 t)) X 18 (by decide) rfl rfl ht (xdec_at tX5_comes_2 18 rfl) rfl ?_
            refine v_aload_n X (xdec_at tX5_comes_2 19 rfl) rfl rfl ?_
            refine r_A X 19 (by decide) rfl rfl (xdec_at tX5_comes_2 20 rfl) ?_
            refine v_iload_n X (xdec_at tX5_comes_2 21 rfl) rfl rfl ?_
            refine r_In (v := (μ.1 19 t)) X 19 (by decide) rfl rfl ht (xdec_at tX5_comes_2 22 rfl) rfl ?_
            refine v_iload X (xdec_at tX5_comes_2 23 rfl) rfl ?_
            refine v_i2l (v := 0) X (xdec_at tX5_comes_2 24 rfl) (by decide) ?_
            refine v_callV X myX5_pays [.int (μ.1 18 t), .int (μ.1 19 t), .long 0] [] (c_pays l Z B0 lay ((up2 μ.1 23 t 2), (up2 μ.2 8 (ix (μ.1 19 t)) ((μ.2 8 (ix (μ.1 19 t))) + (M_taxOf μ t)))) r (μ.1 18 t) (μ.1 19 t) (hI.or ht) (hI.ta ht) 0) (xw_at tW_20 24 rfl) (100, 0) cM_0 rfl rfl rfl rfl (by rfl) (Nat.le_of_ble_eq_true rfl) (xdec_at tX5_comes_2 25 rfl) ⟨(Nat.le_of_ble_eq_true rfl), (Nat.le_of_ble_eq_true rfl)⟩ ⟨(Nat.le_of_ble_eq_true rfl), (Nat.le_of_ble_eq_true rfl)⟩ ?_
            rintro v9 lay9 C9 ⟨rfl, rfl, rfl⟩
            refine v_goto (tgt := 203) X (xdec_at tX5_comes_2 26 rfl) (by decide) ?_
            refine v_iconst (v := 1) X (xdec_at tX5_comes_3 9 rfl) (by decide) ?_
            have e9 : M_comes μ t = (1, (M_pays ((up2 μ.1 23 t 2), (up2 μ.2 8 (ix (μ.1 19 t)) ((μ.2 8 (ix (μ.1 19 t))) + (M_taxOf μ t)))) (ix (μ.1 18 t)) (ix (μ.1 19 t)) 0)) := by simp [M_comes, up2_at, (eq_true c_12), c_21, c_27, (eq_true c_42), c_144]
            exact v_iret X hr (xdec_at tX5_comes_3 10 rfl) (Nat.le_of_ble_eq_true rfl) (Nat.le_of_ble_eq_true rfl) ⟨rfl, by rw [e9], by rw [e9]⟩
        · refine v_aload_n X (xdec_at tX5_comes_0 27 rfl) rfl rfl ?_
          refine r_A X 27 (by decide) rfl rfl (xdec_at tX5_comes_0 28 rfl) ?_
          refine v_iload_n X (xdec_at tX5_comes_0 29 rfl) rfl rfl ?_
          refine v_iconst (v := 1) X (xdec_at tX5_comes_0 30 rfl) (by decide) ?_
          refine r_PZn X 27 (by decide) rfl rfl (Or.inr rfl) ht (xdec_at tX5_comes_0 31 rfl) ?_
          refine v_aload_n X (xdec_at tX5_comes_0 32 rfl) rfl rfl ?_
          refine r_A X 19 (by decide) rfl rfl (xdec_at tX5_comes_0 33 rfl) ?_
          refine v_iload_n X (xdec_at tX5_comes_0 34 rfl) rfl rfl ?_
          refine v_aload_n X (xdec_at tX5_comes_0 35 rfl) rfl rfl ?_
          refine r_A X 18 (by decide) rfl rfl (xdec_at tX5_comes_0 36 rfl) ?_
          refine v_iload_n X (xdec_at tX5_comes_0 37 rfl) rfl rfl ?_
          refine r_In (v := (μ.1 18 t)) X 18 (by decide) rfl rfl ht (xdec_at tX5_comes_0 38 rfl) rfl ?_
          refine r_PIn X 19 (by decide) rfl rfl ht (xdec_at tX5_comes_0 39 rfl) ?_
          refine v_iconst (v := 0) X (xdec_at tX5_comes_1 0 rfl) (by decide) ?_
          have e9 : M_comes μ t = (0, ((up2 (up2 μ.1 27 t 1) 19 t (μ.1 18 t)), μ.2)) := by simp [M_comes, up2_at, (eq_true c_12), c_21, c_27, c_42]
          exact v_iret X hr (xdec_at tX5_comes_1 1 rfl) (Nat.le_of_ble_eq_true rfl) (Nat.le_of_ble_eq_true rfl) ⟨rfl, by rw [e9], by rw [e9]⟩
set_option maxRecDepth 100000 in
set_option maxHeartbeats 4000000 in
theorem c_travels (l : Launch) (Z : xZ) (B0 : Nat) (lay : xK → Nat) (μ : Mu) (r : xK → Option xE) (t : Nat) (ht : t < 40) (hI : RI μ) : YM l yX5_travels cX5_travels 2 ((some FieldType.int)) 2 48 0 0 Z B0 [.ref (lay (100, 0)), .int (nI t)] lay (cM Z lay μ r) (fun v lay' C' => lay = lay' ∧ v = some (.int (M_travels μ t).1) ∧ C' = cM Z lay (M_travels μ t).2 r) := by
  refine YM_of myX5_travels.2.2 RX5 rfl [some (.ref (lay (100, 0))), some (.int (nI t))] rfl (Nat.le_of_ble_eq_true rfl) ?_
  intro P1 P2 P3 P4 P5 P6 P7 P8 X hr hnm
  refine v_aload_n X (xdec_at tX5_travels_0 0 rfl) rfl rfl ?_
  refine r_A X 26 (by decide) rfl rfl (xdec_at tX5_travels_0 1 rfl) ?_
  refine v_iload_n X (xdec_at tX5_travels_0 2 rfl) rfl rfl ?_
  refine v_dup2_11 X (xdec_at tX5_travels_0 3 rfl) rfl rfl ?_
  refine r_In (v := (μ.1 26 t)) X 26 (by decide) rfl rfl ht (xdec_at tX5_travels_0 4 rfl) rfl ?_
  refine v_iconst (v := 1) X (xdec_at tX5_travels_0 5 rfl) (by decide) ?_
  refine v_isub X (xdec_at tX5_travels_0 6 rfl) ?_
  refine r_PIn X 26 (by decide) rfl rfl ht (xdec_at tX5_travels_0 7 rfl) ?_
  refine v_aload_n X (xdec_at tX5_travels_0 8 rfl) rfl rfl ?_
  refine r_A X 26 (by decide) rfl rfl (xdec_at tX5_travels_0 9 rfl) ?_
  refine v_iload_n X (xdec_at tX5_travels_0 10 rfl) rfl rfl ?_
  refine r_In (v := ((μ.1 26 t) - 1)) X 26 (by decide) rfl rfl ht (xdec_at tX5_travels_0 11 rfl) (by simp [up2_at]) ?_
  refine v_if_le (tgt := 21) X (xdec_at tX5_travels_0 12 rfl) (by decide) (fun c_16 => ?_) (fun c_16 => ?_)
  · refine v_aload_n X (xdec_at tX5_travels_0 15 rfl) rfl rfl ?_
    refine r_A X 23 (by decide) rfl rfl (xdec_at tX5_travels_0 16 rfl) ?_
    refine v_iload_n X (xdec_at tX5_travels_0 17 rfl) rfl rfl ?_
    refine v_iconst (v := 0) X (xdec_at tX5_travels_0 18 rfl) (by decide) ?_
    refine r_PIn X 23 (by decide) rfl rfl ht (xdec_at tX5_travels_0 19 rfl) ?_
    refine v_aload_n X (xdec_at tX5_travels_0 20 rfl) rfl rfl ?_
    refine r_A X 25 (by decide) rfl rfl (xdec_at tX5_travels_0 21 rfl) ?_
    refine v_iload_n X (xdec_at tX5_travels_0 22 rfl) rfl rfl ?_
    refine v_iconst (v := (-1)) X (xdec_at tX5_travels_0 23 rfl) (by decide) ?_
    refine r_PIn X 25 (by decide) rfl rfl ht (xdec_at tX5_travels_0 24 rfl) ?_
    refine v_aload_n X (xdec_at tX5_travels_0 25 rfl) rfl rfl ?_
    refine v_iload_n X (xdec_at tX5_travels_0 26 rfl) rfl rfl ?_
    refine v_aload_n X (xdec_at tX5_travels_0 27 rfl) rfl rfl ?_
    refine r_A X 24 (by decide) rfl rfl (xdec_at tX5_travels_0 28 rfl) ?_
    refine v_iload_n X (xdec_at tX5_travels_0 29 rfl) rfl rfl ?_
    refine r_In (v := (μ.1 24 t)) X 24 (by decide) rfl rfl ht (xdec_at tX5_travels_0 30 rfl) rfl ?_
    refine v_callV X myX5_signs [.int (nI t), .int (μ.1 24 t)] [] (c_signs l Z B0 lay ((up2 (up2 (up2 μ.1 26 t ((μ.1 26 t) - 1)) 23 t 0) 25 t (-1)), μ.2) r t ht (μ.1 24 t) (RI_up (RI_F (RI_F (A := μ.1) (J := μ.2) hI (j := 26) rfl _ _) (j := 23) rfl _ _) (ok25 (Or.inl rfl)))) (xw_at tW_19 33 rfl) (100, 0) cM_0 rfl rfl rfl rfl (by rfl) (Nat.le_of_ble_eq_true rfl) (xdec_at tX5_travels_0 31 rfl) ⟨(Nat.le_of_ble_eq_true rfl), (Nat.le_of_ble_eq_true rfl)⟩ ⟨(Nat.le_of_ble_eq_true rfl), (Nat.le_of_ble_eq_true rfl)⟩ ?_
    rintro v9 lay9 C9 ⟨rfl, rfl, rfl⟩
    refine v_aload_n X (xdec_at tX5_travels_0 32 rfl) rfl rfl ?_
    refine r_A X 24 (by decide) rfl rfl (xdec_at tX5_travels_0 33 rfl) ?_
    refine v_iload_n X (xdec_at tX5_travels_0 34 rfl) rfl rfl ?_
    refine r_In (v := ((M_signs ((up2 (up2 (up2 μ.1 26 t ((μ.1 26 t) - 1)) 23 t 0) 25 t (-1)), μ.2) t (μ.1 24 t)).1 24 t)) X 24 (by decide) rfl rfl ht (xdec_at tX5_travels_0 35 rfl) rfl ?_
    refine v_aload_n X (xdec_at tX5_travels_0 36 rfl) rfl rfl ?_
    refine r_A X 19 (by decide) rfl rfl (xdec_at tX5_travels_0 37 rfl) ?_
    refine v_iload_n X (xdec_at tX5_travels_0 38 rfl) rfl rfl ?_
    refine r_In (v := ((M_signs ((up2 (up2 (up2 μ.1 26 t ((μ.1 26 t) - 1)) 23 t 0) 25 t (-1)), μ.2) t (μ.1 24 t)).1 19 t)) X 19 (by decide) rfl rfl ht (xdec_at tX5_travels_0 39 rfl) rfl ?_
    refine v_icmp_ne (tgt := 69) X (xdec_at tX5_travels_1 0 rfl) (by decide) (fun c_58 => ?_) (fun c_58 => ?_)
    · refine v_iconst (v := 0) X (xdec_at tX5_travels_1 5 rfl) (by decide) ?_
      have e9 : M_travels μ t = (0, (M_signs ((up2 (up2 (up2 μ.1 26 t ((μ.1 26 t) - 1)) 23 t 0) 25 t (-1)), μ.2) t (μ.1 24 t))) := by simp [M_travels, up2_at, c_16, c_58]
      exact v_iret X hr (xdec_at tX5_travels_1 6 rfl) (Nat.le_of_ble_eq_true rfl) (Nat.le_of_ble_eq_true rfl) ⟨rfl, by rw [e9], by rw [e9]⟩
    · refine v_aload_n X (xdec_at tX5_travels_1 1 rfl) rfl rfl ?_
      refine v_iload_n X (xdec_at tX5_travels_1 2 rfl) rfl rfl ?_
      have hI2 : RI (M_signs ((up2 (up2 (up2 μ.1 26 t ((μ.1 26 t) - 1)) 23 t 0) 25 t (-1)), μ.2) t (μ.1 24 t)) := RI_signs (RI_up (RI_F (RI_F (A := μ.1) (J := μ.2) hI (j := 26) rfl _ _) (j := 23) rfl _ _) (ok25 (Or.inl rfl))) t (μ.1 24 t)
      refine v_callV X myX5_comes [.int (nI t)] [] (c_comes l Z B0 lay (M_signs ((up2 (up2 (up2 μ.1 26 t ((μ.1 26 t) - 1)) 23 t 0) 25 t (-1)), μ.2) t (μ.1 24 t)) r t ht hI2) (xw_at tW_20 17 rfl) (100, 0) cM_0 rfl rfl rfl rfl (by rfl) (Nat.le_of_ble_eq_true rfl) (xdec_at tX5_travels_1 3 rfl) ⟨(Nat.le_of_ble_eq_true rfl), (Nat.le_of_ble_eq_true rfl)⟩ ⟨(Nat.le_of_ble_eq_true rfl), (Nat.le_of_ble_eq_true rfl)⟩ ?_
      rintro v9 lay9 C9 ⟨rfl, rfl, rfl⟩
      refine v_goto (tgt := 70) X (xdec_at tX5_travels_1 4 rfl) (by decide) ?_
      have e9 : M_travels μ t = ((M_comes (M_signs ((up2 (up2 (up2 μ.1 26 t ((μ.1 26 t) - 1)) 23 t 0) 25 t (-1)), μ.2) t (μ.1 24 t)) t).1, (M_comes (M_signs ((up2 (up2 (up2 μ.1 26 t ((μ.1 26 t) - 1)) 23 t 0) 25 t (-1)), μ.2) t (μ.1 24 t)) t).2) := by simp [M_travels, up2_at, c_16, (eq_true c_58)]
      exact v_iret X hr (xdec_at tX5_travels_1 6 rfl) (Nat.le_of_ble_eq_true rfl) (Nat.le_of_ble_eq_true rfl) ⟨rfl, by rw [e9], by rw [e9]⟩
  · refine v_iconst (v := 0) X (xdec_at tX5_travels_0 13 rfl) (by decide) ?_
    have e9 : M_travels μ t = (0, ((up2 μ.1 26 t ((μ.1 26 t) - 1)), μ.2)) := by simp [M_travels, up2_at, c_16]
    exact v_iret X hr (xdec_at tX5_travels_0 14 rfl) (Nat.le_of_ble_eq_true rfl) (Nat.le_of_ble_eq_true rfl) ⟨rfl, by rw [e9], by rw [e9]⟩
