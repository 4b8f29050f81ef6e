set_option maxRecDepth 100000 in
set_option maxHeartbeats 4000000 in
theorem c_next (l : Launch) (Z : xZ) (B0 : Nat) (lay : xK → Nat) (μ : Mu) (r : xK → Option xE) (a b : Int32) (hI : RI μ) : YM l yX5_next cX5_next 3 ((some FieldType.int)) 2 51 0 0 Z B0 [.ref (lay (100, 0)), .int a, .int b] lay (cM Z lay μ r) (fun v lay' C' => lay = lay' ∧ v = some (.int (M_next μ a b).1) ∧ C' = cM Z lay (M_next μ a b).2 r) := by
  refine YM_of myX5_next.2.2 RX5 rfl [some (.ref (lay (100, 0))), some (.int a), some (.int b)] rfl (Nat.le_of_ble_eq_true rfl) ?_
  intro P1 P2 P3 P4 P5 P6 P7 P8 X hr hnm
  refine v_aload_n X (xdec_at tX5_next_0 0 rfl) rfl rfl ?_
  refine v_aload_n X (xdec_at tX5_next_0 1 rfl) rfl rfl ?_
  refine v_iload_n X (xdec_at tX5_next_0 2 rfl) rfl rfl ?_
  refine v_callV X myX5_isPost [.int a] [.ref (lay (100, 0))] (c_isPost l Z B0 lay μ r a) (xw_at tW_17 38 rfl) (100, 0) cM_0 rfl rfl rfl rfl (by rfl) (Nat.le_of_ble_eq_true rfl) (xdec_at tX5_next_0 3 rfl) ⟨(Nat.le_of_ble_eq_true rfl), (Nat.le_of_ble_eq_true rfl)⟩ ⟨(Nat.le_of_ble_eq_true rfl), (Nat.le_of_ble_eq_true rfl)⟩ ?_
  rintro v9 lay9 C9 ⟨rfl, rfl, ⟨rfl, q_3⟩ | ⟨rfl, q_3⟩⟩
  · refine v_if_eq (tgt := 21) X (xdec_at tX5_next_0 4 rfl) (by decide) (fun h9 => absurd h9 (by decide)) (fun _ => ?_)
    refine v_aload_n X (xdec_at tX5_next_0 5 rfl) rfl rfl ?_
    refine v_iload_n X (xdec_at tX5_next_0 6 rfl) rfl rfl ?_
    refine v_callV X myX5_isPost [.int b] [.ref (lay (100, 0))] (c_isPost l Z B0 lay μ r b) (xw_at tW_17 38 rfl) (100, 0) cM_0 rfl rfl rfl rfl (by rfl) (Nat.le_of_ble_eq_true rfl) (xdec_at tX5_next_0 7 rfl) ⟨(Nat.le_of_ble_eq_true rfl), (Nat.le_of_ble_eq_true rfl)⟩ ⟨(Nat.le_of_ble_eq_true rfl), (Nat.le_of_ble_eq_true rfl)⟩ ?_
    rintro v9 lay9 C9 ⟨rfl, rfl, ⟨rfl, q_11⟩ | ⟨rfl, q_11⟩⟩
    · refine v_if_eq (tgt := 21) X (xdec_at tX5_next_0 8 rfl) (by decide) (fun h9 => absurd h9 (by decide)) (fun _ => ?_)
      refine v_iconst (v := 1) X (xdec_at tX5_next_0 9 rfl) (by decide) ?_
      refine v_goto (tgt := 22) X (xdec_at tX5_next_0 10 rfl) (by decide) ?_
      refine v_callV X myX5_asks [.int 1] [] (c_asks1 l Z B0 lay μ r) (xw_at tW_17 31 rfl) (100, 0) cM_0 rfl rfl rfl rfl (by rfl) (Nat.le_of_ble_eq_true rfl) (xdec_at tX5_next_0 12 rfl) ⟨(Nat.le_of_ble_eq_true rfl), (Nat.le_of_ble_eq_true rfl)⟩ ⟨(Nat.le_of_ble_eq_true rfl), (Nat.le_of_ble_eq_true rfl)⟩ ?_
      rintro v9 lay9 C9 ⟨rfl, rfl, rfl⟩
      refine v_if_eq (tgt := 37) X (xdec_at tX5_next_0 13 rfl) (by decide) (fun h9 => absurd h9 (by decide)) (fun _ => ?_)
      refine v_aload_n X (xdec_at tX5_next_0 14 rfl) rfl rfl ?_
      refine v_iload_n X (xdec_at tX5_next_0 15 rfl) rfl rfl ?_
      refine v_iload_n X (xdec_at tX5_next_0 16 rfl) rfl rfl ?_
      refine v_callV X myX5_nextOf [.int a, .int b] [] (c_nextOf l Z B0 lay ((up2 μ.1 38 0 0), μ.2) r a b (hI.P (by assumption)) (RI_th hI 0)) (xw_at tW_19 13 rfl) (100, 0) cM_0 rfl rfl rfl rfl (by rfl) (Nat.le_of_ble_eq_true rfl) (xdec_at tX5_next_0 17 rfl) ⟨(Nat.le_of_ble_eq_true rfl), (Nat.le_of_ble_eq_true rfl)⟩ ⟨(Nat.le_of_ble_eq_true rfl), (Nat.le_of_ble_eq_true rfl)⟩ ?_
      rintro v9 lay9 C9 ⟨rfl, rfl, rfl⟩
      refine v_goto (tgt := 38) X (xdec_at tX5_next_0 18 rfl) (by decide) ?_
      have e9 : M_next μ a b = ((M_nextOf ((up2 μ.1 38 0 0), μ.2) a b).1, (M_nextOf ((up2 μ.1 38 0 0), μ.2) a b).2) := by simp [M_next, up2_at, (eq_true q_3), (eq_true q_11)]
      exact v_iret X hr (xdec_at tX5_next_0 20 rfl) (Nat.le_of_ble_eq_true rfl) (Nat.le_of_ble_eq_true rfl) ⟨rfl, by rw [e9], by rw [e9]⟩
    · refine v_if_eq (tgt := 21) X (xdec_at tX5_next_0 8 rfl) (by decide) (fun _ => ?_) (fun h9 => absurd h9 (by decide))
      refine v_iconst (v := 0) X (xdec_at tX5_next_0 11 rfl) (by decide) ?_
      refine v_callV X myX5_asks [.int 0] [] (c_asks0 l Z B0 lay μ r) (xw_at tW_17 31 rfl) (100, 0) cM_0 rfl rfl rfl rfl (by rfl) (Nat.le_of_ble_eq_true rfl) (xdec_at tX5_next_0 12 rfl) ⟨(Nat.le_of_ble_eq_true rfl), (Nat.le_of_ble_eq_true rfl)⟩ ⟨(Nat.le_of_ble_eq_true rfl), (Nat.le_of_ble_eq_true rfl)⟩ ?_
      rintro v9 lay9 C9 ⟨rfl, rfl, rfl⟩
      refine v_if_eq (tgt := 37) X (xdec_at tX5_next_0 13 rfl) (by decide) (fun _ => ?_) (fun h9 => absurd h9 (by decide))
      refine v_iconst (v := 0) X (xdec_at tX5_next_0 19 rfl) (by decide) ?_
      have e9 : M_next μ a b = (0, ((up2 μ.1 38 0 1), μ.2)) := by simp [M_next, up2_at, (eq_true q_3), q_11]
      exact v_iret X hr (xdec_at tX5_next_0 20 rfl) (Nat.le_of_ble_eq_true rfl) (Nat.le_of_ble_eq_true rfl) ⟨rfl, by rw [e9], by rw [e9]⟩
  · refine v_if_eq (tgt := 21) X (xdec_at tX5_next_0 4 rfl) (by decide) (fun _ => ?_) (fun h9 => absurd h9 (by decide))
    refine v_iconst (v := 0) X (xdec_at tX5_next_0 11 rfl) (by decide) ?_
    refine v_callV X myX5_asks [.int 0] [] (c_asks0 l Z B0 lay μ r) (xw_at tW_17 31 rfl) (100, 0) cM_0 rfl rfl rfl rfl (by rfl) (Nat.le_of_ble_eq_true rfl) (xdec_at tX5_next_0 12 rfl) ⟨(Nat.le_of_ble_eq_true rfl), (Nat.le_of_ble_eq_true rfl)⟩ ⟨(Nat.le_of_ble_eq_true rfl), (Nat.le_of_ble_eq_true rfl)⟩ ?_
    rintro v9 lay9 C9 ⟨rfl, rfl, rfl⟩
    refine v_if_eq (tgt := 37) X (xdec_at tX5_next_0 13 rfl) (by decide) (fun _ => ?_) (fun h9 => absurd h9 (by decide))
    refine v_iconst (v := 0) X (xdec_at tX5_next_0 19 rfl) (by decide) ?_
    have e9 : M_next μ a b = (0, ((up2 μ.1 38 0 1), μ.2)) := by simp [M_next, up2_at, q_3]
    exact v_iret X hr (xdec_at tX5_next_0 20 rfl) (Nat.le_of_ble_eq_true rfl) (Nat.le_of_ble_eq_true rfl) ⟨rfl, by rw [e9], by rw [e9]⟩
set_option maxRecDepth 100000 in
set_option maxHeartbeats 4000000 in
theorem c_leaves (l : Launch) (Z : xZ) (B0 : Nat) (lay : xK → Nat) (μ : Mu) (r : xK → Option xE) (t : Nat) (ht : t < 40) (hI : RI μ) : YM l yX5_leaves cX5_leaves 4 ((none : Option FieldType)) 2 51 0 0 Z B0 [.ref (lay (100, 0)), .int (nI t)] lay (cM Z lay μ r) (fun v lay' C' => lay = lay' ∧ v = none ∧ C' = cM Z lay (M_leaves μ t) r) := by
  refine YM_of myX5_leaves.2.2 RX5 rfl [some (.ref (lay (100, 0))), some (.int (nI t)), none, none] rfl (Nat.le_of_ble_eq_true rfl) ?_
  intro P1 P2 P3 P4 P5 P6 P7 P8 X hr hnm
  refine v_aload_n X (xdec_at tX5_leaves_0 0 rfl) rfl rfl ?_
  refine r_A X 24 (by decide) rfl rfl (xdec_at tX5_leaves_0 1 rfl) ?_
  refine v_iload_n X (xdec_at tX5_leaves_0 2 rfl) rfl rfl ?_
  refine r_In (v := (μ.1 24 t)) X 24 (by decide) rfl rfl ht (xdec_at tX5_leaves_0 3 rfl) rfl ?_
  refine v_istore_n (lv' := [some (.ref (lay (100, 0))), some (.int (nI t)), some (.int (μ.1 24 t)), none]) X (xdec_at tX5_leaves_0 4 rfl) rfl (by decide) rfl ?_
  refine v_aload_n X (xdec_at tX5_leaves_0 5 rfl) rfl rfl ?_
  refine r_A X 6 (by decide) rfl rfl (xdec_at tX5_leaves_0 6 rfl) ?_
  refine v_iload_n X (xdec_at tX5_leaves_0 7 rfl) rfl rfl ?_
  refine r_Z (v := (μ.1 6 (ix (μ.1 24 t)))) X 6 (by decide) rfl rfl (hI.at ht) (xdec_at tX5_leaves_0 8 rfl) rfl ?_
  refine v_if_eq (tgt := 20) X (xdec_at tX5_leaves_0 9 rfl) (by decide) (fun c_13 => ?_) (fun c_13 => ?_)
  · refine v_aload_n X (xdec_at tX5_leaves_0 12 rfl) rfl rfl ?_
    refine v_iload_n X (xdec_at tX5_leaves_0 13 rfl) rfl rfl ?_
    refine v_aload_n X (xdec_at tX5_leaves_0 14 rfl) rfl rfl ?_
    refine r_A X 19 (by decide) rfl rfl (xdec_at tX5_leaves_0 15 rfl) ?_
    refine v_iload_n X (xdec_at tX5_leaves_0 16 rfl) rfl rfl ?_
    refine r_In (v := (μ.1 19 t)) X 19 (by decide) rfl rfl ht (xdec_at tX5_leaves_0 17 rfl) rfl ?_
    refine v_callV X myX5_nextOf [.int (μ.1 24 t), .int (μ.1 19 t)] [] (c_nextOf l Z B0 lay μ r (μ.1 24 t) (μ.1 19 t) (hI.at ht) hI) (xw_at tW_19 13 rfl) (100, 0) cM_0 rfl rfl rfl rfl (by rfl) (Nat.le_of_ble_eq_true rfl) (xdec_at tX5_leaves_0 18 rfl) ⟨(Nat.le_of_ble_eq_true rfl), (Nat.le_of_ble_eq_true rfl)⟩ ⟨(Nat.le_of_ble_eq_true rfl), (Nat.le_of_ble_eq_true rfl)⟩ ?_
    rintro v9 lay9 C9 ⟨rfl, rfl, rfl⟩
    obtain ⟨g, hg⟩ : ∃ z, z = (M_nextOf μ (μ.1 24 t) (μ.1 19 t)).1 := ⟨_, rfl⟩
    obtain ⟨μ1, hm1⟩ : ∃ z, z = (M_nextOf μ (μ.1 24 t) (μ.1 19 t)).2 := ⟨_, rfl⟩
    have hI1 : RI μ1 := by rw [hm1]; exact RI_meas hI _
    have hgin := M_nextOf_in hI (μ.1 24 t) (μ.1 19 t)
    rw [← hg] at hgin
    refine v_mu (μ' := μ1) (by rw [hm1]) ?_
    refine v_st (st' := [.int g]) (by rw [hg] <;> rfl) ?_
    refine v_istore_n (lv' := [some (.ref (lay (100, 0))), some (.int (nI t)), some (.int (μ.1 24 t)), some (.int g)]) X (xdec_at tX5_leaves_0 19 rfl) rfl (by decide) rfl ?_
    refine v_iload_n X (xdec_at tX5_leaves_0 20 rfl) rfl rfl ?_
    refine v_iconst (v := (-1)) X (xdec_at tX5_leaves_0 21 rfl) (by decide) ?_
    refine v_icmp_ne (tgt := 38) X (xdec_at tX5_leaves_0 22 rfl) (by decide) (fun c_34 => ?_) (fun c_34 => ?_)
    · refine v_aload_n X (xdec_at tX5_leaves_0 24 rfl) rfl rfl ?_
      refine r_A X 23 (by decide) rfl rfl (xdec_at tX5_leaves_0 25 rfl) ?_
      refine v_iload_n X (xdec_at tX5_leaves_0 26 rfl) rfl rfl ?_
      refine v_iconst (v := 1) X (xdec_at tX5_leaves_0 27 rfl) (by decide) ?_
      refine r_PIn X 23 (by decide) rfl rfl ht (xdec_at tX5_leaves_0 28 rfl) ?_
      refine v_aload_n X (xdec_at tX5_leaves_0 29 rfl) rfl rfl ?_
      refine r_A X 25 (by decide) rfl rfl (xdec_at tX5_leaves_0 30 rfl) ?_
      refine v_iload_n X (xdec_at tX5_leaves_0 31 rfl) rfl rfl ?_
      refine v_iload_n X (xdec_at tX5_leaves_0 32 rfl) rfl rfl ?_
      refine r_PIn X 25 (by decide) rfl rfl ht (xdec_at tX5_leaves_0 33 rfl) ?_
      refine v_aload_n X (xdec_at tX5_leaves_0 34 rfl) rfl rfl ?_
      refine r_A X 26 (by decide) rfl rfl (xdec_at tX5_leaves_0 35 rfl) ?_
      refine v_iload_n X (xdec_at tX5_leaves_0 36 rfl) rfl rfl ?_
      refine v_aload_n X (xdec_at tX5_leaves_0 37 rfl) rfl rfl ?_
      refine r_A X 13 (by decide) rfl rfl (xdec_at tX5_leaves_0 38 rfl) ?_
      refine v_iload_n X (xdec_at tX5_leaves_0 39 rfl) rfl rfl ?_
      refine r_I (v := (μ1.1 13 (ix g))) X 13 (by decide) rfl rfl (hgin.resolve_left c_34).1 (xdec_at tX5_leaves_1 0 rfl) rfl ?_
      refine r_PIn X 26 (by decide) rfl rfl ht (xdec_at tX5_leaves_1 1 rfl) ?_
      refine v_aload_n X (xdec_at tX5_leaves_1 2 rfl) rfl rfl ?_
      refine r_A X 24 (by decide) rfl rfl (xdec_at tX5_leaves_1 3 rfl) ?_
      refine v_iload_n X (xdec_at tX5_leaves_1 4 rfl) rfl rfl ?_
      refine v_aload_n X (xdec_at tX5_leaves_1 5 rfl) rfl rfl ?_
      refine v_iload_n X (xdec_at tX5_leaves_1 6 rfl) rfl rfl ?_
      refine v_iload_n X (xdec_at tX5_leaves_1 7 rfl) rfl rfl ?_
      have hgv : vp_in g 20 := (hgin.resolve_left c_34).1
      refine v_st (st' := [.int (μ.1 24 t), .int (nI (ix g)), .ref (lay (100, 0)), .int (nI t), .ref (lay (100, 25))]) (by rw [in_eq hgv (by decide)] <;> rfl) ?_
      refine v_callV X myX5_across [.int (nI (ix g)), .int (μ.1 24 t)] [.int (nI t), .ref (lay (100, 25))] (c_across l Z B0 lay ((up2 (up2 (up2 μ1.1 23 t 1) 25 t g) 26 t (μ1.1 13 (ix g))), μ1.2) r (ix g) (in_ix hgv) (μ.1 24 t)) (xw_at tW_19 19 rfl) (100, 0) cM_0 rfl rfl rfl rfl (by rfl) (Nat.le_of_ble_eq_true rfl) (xdec_at tX5_leaves_1 8 rfl) ⟨(Nat.le_of_ble_eq_true rfl), (Nat.le_of_ble_eq_true rfl)⟩ ⟨(Nat.le_of_ble_eq_true rfl), (Nat.le_of_ble_eq_true rfl)⟩ ?_
      rintro v9 lay9 C9 ⟨rfl, rfl, rfl⟩
      refine v_st (st' := [.int (M_across μ1.1 (ix g) (μ.1 24 t)), .int (nI t), .ref (lay (100, 25))]) (by rfl) ?_
      refine r_PIn X 24 (by decide) rfl rfl ht (xdec_at tX5_leaves_1 9 rfl) ?_
      refine v_iload_n X (xdec_at tX5_leaves_1 10 rfl) rfl rfl ?_
      refine v_aload_n X (xdec_at tX5_leaves_1 11 rfl) rfl rfl ?_
      refine r_A X 18 (by decide) rfl rfl (xdec_at tX5_leaves_1 12 rfl) ?_
      refine v_iload_n X (xdec_at tX5_leaves_1 13 rfl) rfl rfl ?_
      refine r_In (v := (μ1.1 18 t)) X 18 (by decide) rfl rfl ht (xdec_at tX5_leaves_1 14 rfl) rfl ?_
      refine v_icmp_eq (tgt := 118) X (xdec_at tX5_leaves_1 15 rfl) (by decide) (fun c_83 => ?_) (fun c_83 => ?_)
      · have e9 : M_leaves μ t = ((up2 (up2 (up2 (up2 μ1.1 23 t 1) 25 t g) 26 t (μ1.1 13 (ix g))) 24 t (M_across μ1.1 (ix g) (μ.1 24 t))), μ1.2) := by unfold M_leaves; simp only [← hg, ← hm1]; simp [(eq_true c_13), c_34, (eq_true c_83)]
        exact v_vret X hr (xdec_at tX5_leaves_1 38 rfl) (Nat.le_of_ble_eq_true rfl) (Nat.le_of_ble_eq_true rfl) ⟨rfl, rfl, by rw [e9]⟩
      · refine v_aload_n X (xdec_at tX5_leaves_1 16 rfl) rfl rfl ?_
        refine v_aload_n X (xdec_at tX5_leaves_1 17 rfl) rfl rfl ?_
        refine r_A X 18 (by decide) rfl rfl (xdec_at tX5_leaves_1 18 rfl) ?_
        refine v_iload_n X (xdec_at tX5_leaves_1 19 rfl) rfl rfl ?_
        refine r_In (v := (μ1.1 18 t)) X 18 (by decide) rfl rfl ht (xdec_at tX5_leaves_1 20 rfl) rfl ?_
        refine v_iload_n X (xdec_at tX5_leaves_1 21 rfl) rfl rfl ?_
        refine v_aload_n X (xdec_at tX5_leaves_1 22 rfl) rfl rfl ?_
        refine r_A X 4 (by decide) rfl rfl (xdec_at tX5_leaves_1 23 rfl) ?_
        refine v_iload_n X (xdec_at tX5_leaves_1 24 rfl) rfl rfl ?_
        refine r_I (v := (μ1.1 4 (ix (μ.1 24 t)))) X 4 (by decide) rfl rfl (hI.at ht) (xdec_at tX5_leaves_1 25 rfl) rfl ?_
        refine v_i2l X (xdec_at tX5_leaves_1 26 rfl) rfl ?_
        refine v_aload_n X (xdec_at tX5_leaves_1 27 rfl) rfl rfl ?_
        refine r_A X 20 (by decide) rfl rfl (xdec_at tX5_leaves_1 28 rfl) ?_
        refine v_iload_n X (xdec_at tX5_leaves_1 29 rfl) rfl rfl ?_
        refine r_In (v := (μ1.1 20 t)) X 20 (by decide) rfl rfl ht (xdec_at tX5_leaves_1 30 rfl) rfl ?_
        refine v_bipush (v := 9) X (xdec_at tX5_leaves_1 31 rfl) (by decide) ?_
        refine v_iadd X (xdec_at tX5_leaves_1 32 rfl) ?_
        refine v_bipush (v := 10) X (xdec_at tX5_leaves_1 33 rfl) (by decide) ?_
        refine v_idiv X (xdec_at tX5_leaves_1 34 rfl) (by decide) ?_
        refine v_i2l X (xdec_at tX5_leaves_1 35 rfl) rfl ?_
        refine v_lmul X (xdec_at tX5_leaves_1 36 rfl) ?_
        refine v_callV X myX5_pays [.int (μ1.1 18 t), .int (μ.1 24 t), .long (((μ1.1 4 (ix (μ.1 24 t)))).toInt64 * ((((μ1.1 20 t) + 9) / 10)).toInt64)] [] (c_pays l Z B0 lay ((up2 (up2 (up2 (up2 μ1.1 23 t 1) 25 t g) 26 t (μ1.1 13 (ix g))) 24 t (M_across μ1.1 (ix g) (μ.1 24 t))), μ1.2) r (μ1.1 18 t) (μ.1 24 t) (hI1.or ht) (hI.at ht) (((μ1.1 4 (ix (μ.1 24 t)))).toInt64 * ((((μ1.1 20 t) + 9) / 10)).toInt64)) (xw_at tW_20 24 rfl) (100, 0) cM_0 rfl rfl rfl rfl (by rfl) (Nat.le_of_ble_eq_true rfl) (xdec_at tX5_leaves_1 37 rfl) ⟨(Nat.le_of_ble_eq_true rfl), (Nat.le_of_ble_eq_true rfl)⟩ ⟨(Nat.le_of_ble_eq_true rfl), (Nat.le_of_ble_eq_true rfl)⟩ ?_
        rintro v9 lay9 C9 ⟨rfl, rfl, rfl⟩
        have e9 : M_leaves μ t = (M_pays ((up2 (up2 (up2 (up2 μ1.1 23 t 1) 25 t g) 26 t (μ1.1 13 (ix g))) 24 t (M_across μ1.1 (ix g) (μ.1 24 t))), μ1.2) (ix (μ1.1 18 t)) (ix (μ.1 24 t)) (((μ1.1 4 (ix (μ.1 24 t)))).toInt64 * ((((μ1.1 20 t) + 9) / 10)).toInt64)) := by unfold M_leaves; simp only [← hg, ← hm1]; simp [(eq_true c_13), c_34, c_83]
        exact v_vret X hr (xdec_at tX5_leaves_1 38 rfl) (Nat.le_of_ble_eq_true rfl) (Nat.le_of_ble_eq_true rfl) ⟨rfl, rfl, by rw [e9]⟩
    · have e9 : M_leaves μ t = μ1 := by unfold M_leaves; simp only [← hg, ← hm1]; simp [(eq_true c_13), (eq_true c_34)]
      exact v_vret X hr (xdec_at tX5_leaves_0 23 rfl) (Nat.le_of_ble_eq_true rfl) (Nat.le_of_ble_eq_true rfl) ⟨rfl, rfl, by rw [e9]⟩
  · refine v_iconst (v := (-1)) X (xdec_at tX5_leaves_0 10 rfl) (by decide) ?_
    refine v_goto (tgt := 31) X (xdec_at tX5_leaves_0 11 rfl) (by decide) ?_
    refine v_istore_n (lv' := [some (.ref (lay (100, 0))), some (.int (nI t)), some (.int (μ.1 24 t)), some (.int (-1))]) X (xdec_at tX5_leaves_0 19 rfl) rfl (by decide) rfl ?_
    refine v_iload_n X (xdec_at tX5_leaves_0 20 rfl) rfl rfl ?_
    refine v_iconst (v := (-1)) X (xdec_at tX5_leaves_0 21 rfl) (by decide) ?_
    refine v_icmp_ne (tgt := 38) X (xdec_at tX5_leaves_0 22 rfl) (by decide) (fun h9 => absurd h9 (by decide)) (fun _ => ?_)
    have e9 : M_leaves μ t = μ := by unfold M_leaves; simp [c_13]
    exact v_vret X hr (xdec_at tX5_leaves_0 23 rfl) (Nat.le_of_ble_eq_true rfl) (Nat.le_of_ble_eq_true rfl) ⟨rfl, rfl, by rw [e9]⟩
set_option maxRecDepth 100000 in
set_option maxHeartbeats 4000000 in
theorem c_go (l : Launch) (Z : xZ) (B0 : Nat) (lay : xK → Nat) (μ : Mu) (r : xK → Option xE) (d : Int32) (hI : RI μ) : YM l yX5_go cX5_go 5 ((some FieldType.int)) 3 74 0 0 Z B0 [.ref (lay (100, 0)), .int d] lay (cM Z lay μ r) (fun v lay' C' => lay = lay' ∧ v = some (.int (M_go μ d).1) ∧ C' = cM Z lay (M_go μ d).2 r) := by
  refine YM_of myX5_go.2.2 RX5 rfl [some (.ref (lay (100, 0))), some (.int d), none, none, none] rfl (Nat.le_of_ble_eq_true rfl) ?_
  intro P1 P2 P3 P4 P5 P6 P7 P8 X hr hnm
  obtain ⟨tn, htn, eT⟩ := hI.2.2.1
  refine v_aload_n X (xdec_at tX5_go_0 0 rfl) rfl rfl ?_
  refine v_iload_n X (xdec_at tX5_go_0 1 rfl) rfl rfl ?_
  refine v_iconst (v := 1) X (xdec_at tX5_go_0 2 rfl) (by decide) ?_
  refine v_sipush (v := 200) X (xdec_at tX5_go_0 3 rfl) (by decide) ?_
  refine v_callS X myX5_in [.int d, .int 1, .int 200] [.ref (lay (100, 0))] (c_in l Z B0 lay (cM Z lay μ r) d 1 200) (xw_at tW_18 1 rfl) rfl rfl (by rfl) (Nat.le_of_ble_eq_true rfl) (xdec_at tX5_go_0 4 rfl) ⟨(Nat.le_of_ble_eq_true rfl), (Nat.le_of_ble_eq_true rfl)⟩ ⟨(Nat.le_of_ble_eq_true rfl), (Nat.le_of_ble_eq_true rfl)⟩ ?_
  rintro v9 lay9 C9 ⟨rfl, rfl, ⟨rfl, q_6⟩ | ⟨rfl, q_6⟩⟩
  · refine v_callV X myX5_asks [.int 1] [] (c_asks1 l Z B0 lay μ r) (xw_at tW_17 31 rfl) (100, 0) cM_0 rfl rfl rfl rfl (by rfl) (Nat.le_of_ble_eq_true rfl) (xdec_at tX5_go_0 5 rfl) ⟨(Nat.le_of_ble_eq_true rfl), (Nat.le_of_ble_eq_true rfl)⟩ ⟨(Nat.le_of_ble_eq_true rfl), (Nat.le_of_ble_eq_true rfl)⟩ ?_
    rintro v9 lay9 C9 ⟨rfl, rfl, rfl⟩
    refine v_if_ne (tgt := 17) X (xdec_at tX5_go_0 6 rfl) (by decide) (fun _ => ?_) (fun h9 => absurd h9 (by decide))
    refine v_iconst (v := 0) X (xdec_at tX5_go_0 9 rfl) (by decide) ?_
    refine v_istore_n (lv' := [some (.ref (lay (100, 0))), some (.int d), some (.int 0), none, none]) X (xdec_at tX5_go_0 10 rfl) rfl (by decide) rfl ?_
    refine v_iconst (v := 0) X (xdec_at tX5_go_0 11 rfl) (by decide) ?_
    refine v_istore_n (lv' := [some (.ref (lay (100, 0))), some (.int d), some (.int 0), some (.int 0), none]) X (xdec_at tX5_go_0 12 rfl) rfl (by decide) rfl ?_
    obtain ⟨ed0, hd1, hd2⟩ := inR_ix (M := 200) (by decide) q_6
    obtain ⟨nd, hnd⟩ : ∃ z, z = ix d := ⟨_, rfl⟩
    have ed : d = nI nd := by rw [hnd]; exact ed0
    have hnd2 : nd ≤ 200 := by omega
    refine v_for nd (fun j9 => cM Z lay (M_days j9 (0, th μ 0)).2 r) (fun j9 => [some (.ref (lay (100, 0))), some (.int d), some (.int (M_days j9 (0, th μ 0)).1), some (.int (nI j9)), none]) 21 [] (fun i1 hi1 ih1 => ?_) ?_
    · obtain ⟨q, hq⟩ : ∃ q, q = M_days i1 (0, th μ 0) := ⟨_, rfl⟩
      have hIq : RI q.2 := by rw [hq]; exact RI_days (RI_th hI 0) i1
      have hq16 : q.2.1 16 0 = nI tn := by rw [hq, kep_days _ rfl]; exact eT
      refine v_mu (μ' := q.2) (by rw [hq]) ?_
      refine v_le (lv' := [some (.ref (lay (100, 0))), some (.int d), some (.int q.1), some (.int (nI i1)), none]) (by simp [xle, hq]) ?_
      refine v_iload_n X (xdec_at tX5_go_0 13 rfl) rfl rfl ?_
      refine v_iload_n X (xdec_at tX5_go_0 14 rfl) rfl rfl ?_
      refine v_icmp_ge (tgt := 108) X (xdec_at tX5_go_0 15 rfl) (by decide) (fun c_23 => ?_) (fun c_23 => ?_)
      · exact absurd c_23 (by rw [ed]; exact nI_ge hi1 (by omega))
      · refine v_iconst (v := 0) X (xdec_at tX5_go_0 16 rfl) (by decide) ?_
        refine v_istore (lv' := [some (.ref (lay (100, 0))), some (.int d), some (.int q.1), some (.int (nI i1)), some (.int 0)]) X (xdec_at tX5_go_0 17 rfl) (by decide) rfl ?_
        refine v_for tn (fun j9 => cM Z lay (M_g1 tn j9 q).2 r) (fun j9 => [some (.ref (lay (100, 0))), some (.int d), some (.int (M_g1 tn j9 q).1), some (.int (nI i1)), some (.int (nI j9))]) 29 [] (fun i2 hi2 ih2 => ?_) ?_
        · obtain ⟨u, hu⟩ : ∃ u, u = M_g1 tn i2 q := ⟨_, rfl⟩
          have hIu : RI u.2 := by rw [hu]; exact RI_g1 hIq tn i2 (by omega)
          have hu16 : u.2.1 16 0 = nI tn := by rw [hu, kep_g1 _ _ rfl]; exact hq16
          have ht2 : i2 < 40 := by omega
          refine v_mu (μ' := u.2) (by rw [hu]) ?_
          refine v_le (lv' := [some (.ref (lay (100, 0))), some (.int d), some (.int u.1), some (.int (nI i1)), some (.int (nI i2))]) (by simp [xle, hu]) ?_
          refine v_iload X (xdec_at tX5_go_0 18 rfl) rfl ?_
          refine v_aload_n X (xdec_at tX5_go_0 19 rfl) rfl rfl ?_
          refine r_S (v := (u.2.1 16 0)) X 16 (by decide) rfl rfl (xdec_at tX5_go_0 20 rfl) rfl ?_
          refine v_icmp_ge (tgt := 68) X (xdec_at tX5_go_0 21 rfl) (by decide) (fun c_35 => ?_) (fun c_35 => ?_)
          · exact absurd c_35 (by rw [hu16]; exact nI_ge hi2 (by omega))
          · refine v_iload_n X (xdec_at tX5_go_0 22 rfl) rfl rfl ?_
            refine v_aload_n X (xdec_at tX5_go_0 23 rfl) rfl rfl ?_
            refine r_A X 23 (by decide) rfl rfl (xdec_at tX5_go_0 24 rfl) ?_
            refine v_iload X (xdec_at tX5_go_0 25 rfl) rfl ?_
            refine r_In (v := (u.2.1 23 i2)) X 23 (by decide) rfl rfl ht2 (xdec_at tX5_go_0 26 rfl) rfl ?_
            refine v_iconst (v := 1) X (xdec_at tX5_go_0 27 rfl) (by decide) ?_
            refine v_icmp_ne (tgt := 59) X (xdec_at tX5_go_0 28 rfl) (by decide) (fun c_47 => ?_) (fun c_47 => ?_)
            · refine v_iconst (v := 0) X (xdec_at tX5_go_0 33 rfl) (by decide) ?_
              refine v_iadd X (xdec_at tX5_go_0 34 rfl) ?_
              refine v_istore_n (lv' := [some (.ref (lay (100, 0))), some (.int d), some (.int (u.1 + 0)), some (.int (nI i1)), some (.int (nI i2))]) X (xdec_at tX5_go_0 35 rfl) rfl (by decide) rfl ?_
              refine v_iinc (v := (nI (i2 + 1))) (lv' := [some (.ref (lay (100, 0))), some (.int d), some (.int (u.1 + 0)), some (.int (nI i1)), some (.int (nI (i2 + 1)))]) X (xdec_at tX5_go_0 36 rfl) rfl (nI_1 _) (by decide) rfl ?_
              refine v_goto (tgt := 29) X (xdec_at tX5_go_0 37 rfl) (by decide) ?_
              refine v_le (lv' := [some (.ref (lay (100, 0))), some (.int d), some (.int (M_g1 tn (i2 + 1) q).1), some (.int (nI i1)), some (.int (nI (i2 + 1)))]) (by simp only [xle, M_g1, ← hu, and_true, true_and]; simp [c_47]) ?_
              exact v_mu (μ' := (M_g1 tn (i2 + 1) q).2) (by rw [M_g1]; simp only [← hu]; simp [c_47]) ih2
            · refine v_aload_n X (xdec_at tX5_go_0 29 rfl) rfl rfl ?_
              refine v_iload X (xdec_at tX5_go_0 30 rfl) rfl ?_
              refine v_callV X myX5_travels [.int (nI i2)] [.int u.1] (c_travels l Z B0 lay u.2 r i2 ht2 hIu) (xw_at tW_20 14 rfl) (100, 0) cM_0 rfl rfl rfl rfl (by rfl) (Nat.le_of_ble_eq_true rfl) (xdec_at tX5_go_0 31 rfl) ⟨(Nat.le_of_ble_eq_true rfl), (Nat.le_of_ble_eq_true rfl)⟩ ⟨(Nat.le_of_ble_eq_true rfl), (Nat.le_of_ble_eq_true rfl)⟩ ?_
              rintro v9 lay9 C9 ⟨rfl, rfl, rfl⟩
              refine v_goto (tgt := 60) X (xdec_at tX5_go_0 32 rfl) (by decide) ?_
              refine v_iadd X (xdec_at tX5_go_0 34 rfl) ?_
              refine v_istore_n (lv' := [some (.ref (lay (100, 0))), some (.int d), some (.int (u.1 + (M_travels u.2 i2).1)), some (.int (nI i1)), some (.int (nI i2))]) X (xdec_at tX5_go_0 35 rfl) rfl (by decide) rfl ?_
              refine v_iinc (v := (nI (i2 + 1))) (lv' := [some (.ref (lay (100, 0))), some (.int d), some (.int (u.1 + (M_travels u.2 i2).1)), some (.int (nI i1)), some (.int (nI (i2 + 1)))]) X (xdec_at tX5_go_0 36 rfl) rfl (nI_1 _) (by decide) rfl ?_
              refine v_goto (tgt := 29) X (xdec_at tX5_go_0 37 rfl) (by decide) ?_
              refine v_le (lv' := [some (.ref (lay (100, 0))), some (.int d), some (.int (M_g1 tn (i2 + 1) q).1), some (.int (nI i1)), some (.int (nI (i2 + 1)))]) (by simp only [xle, M_g1, ← hu, and_true, true_and]; simp [c_47]) ?_
              exact v_mu (μ' := (M_g1 tn (i2 + 1) q).2) (by rw [M_g1]; simp only [← hu]; simp [c_47]) ih2
        · obtain ⟨u, hP⟩ : ∃ u, u = M_g1 tn tn q := ⟨_, rfl⟩
          have hIu : RI u.2 := by rw [hP]; exact RI_g1 hIq tn tn (by omega)
          have hu16 : u.2.1 16 0 = nI tn := by rw [hP, kep_g1 _ _ rfl]; exact hq16
          refine v_mu (μ' := u.2) (by rw [hP]) ?_
          refine v_le (lv' := [some (.ref (lay (100, 0))), some (.int d), some (.int u.1), some (.int (nI i1)), some (.int (nI tn))]) (by simp [xle, hP]) ?_
          refine v_iload X (xdec_at tX5_go_0 18 rfl) rfl ?_
          refine v_aload_n X (xdec_at tX5_go_0 19 rfl) rfl rfl ?_
          refine r_S (v := (u.2.1 16 0)) X 16 (by decide) rfl rfl (xdec_at tX5_go_0 20 rfl) rfl ?_
          refine v_icmp_ge (tgt := 68) X (xdec_at tX5_go_0 21 rfl) (by decide) (fun c_35 => ?_) (fun c_35 => ?_)
          · refine v_iconst (v := 0) X (xdec_at tX5_go_0 38 rfl) (by decide) ?_
            refine v_istore (lv' := [some (.ref (lay (100, 0))), some (.int d), some (.int u.1), some (.int (nI i1)), some (.int 0)]) X (xdec_at tX5_go_0 39 rfl) (by decide) rfl ?_
            refine v_for tn (fun j9 => cM Z lay (M_g2 j9 u.2) r) (fun j9 => [some (.ref (lay (100, 0))), some (.int d), some (.int u.1), some (.int (nI i1)), some (.int (nI j9))]) 71 [] (fun i3 hi3 ih3 => ?_) ?_
            · obtain ⟨n, hn⟩ : ∃ n, n = M_g2 i3 u.2 := ⟨_, rfl⟩
              have hIn : RI n := by rw [hn]; exact RI_g2 hIu i3 (by omega)
              have hn16 : n.1 16 0 = nI tn := by rw [hn, kep_g2 _ rfl]; exact hu16
              have ht3 : i3 < 40 := by omega
              refine v_mu (μ' := n) (by rw [hn]) ?_
              refine v_iload X (xdec_at tX5_go_1 0 rfl) rfl ?_
              refine v_aload_n X (xdec_at tX5_go_1 1 rfl) rfl rfl ?_
              refine r_S (v := (n.1 16 0)) X 16 (by decide) rfl rfl (xdec_at tX5_go_1 2 rfl) rfl ?_
              refine v_icmp_ge (tgt := 102) X (xdec_at tX5_go_1 3 rfl) (by decide) (fun c_77 => ?_) (fun c_77 => ?_)
              · exact absurd c_77 (by rw [hn16]; exact nI_ge hi3 (by omega))
              · refine v_aload_n X (xdec_at tX5_go_1 4 rfl) rfl rfl ?_
                refine r_A X 23 (by decide) rfl rfl (xdec_at tX5_go_1 5 rfl) ?_
                refine v_iload X (xdec_at tX5_go_1 6 rfl) rfl ?_
                refine r_In (v := (n.1 23 i3)) X 23 (by decide) rfl rfl ht3 (xdec_at tX5_go_1 7 rfl) rfl ?_
                refine v_if_ne (tgt := 96) X (xdec_at tX5_go_1 8 rfl) (by decide) (fun c_87 => ?_) (fun c_87 => ?_)
                · refine v_iinc (v := (nI (i3 + 1))) (lv' := [some (.ref (lay (100, 0))), some (.int d), some (.int u.1), some (.int (nI i1)), some (.int (nI (i3 + 1)))]) X (xdec_at tX5_go_1 12 rfl) rfl (nI_1 _) (by decide) rfl ?_
                  refine v_goto (tgt := 71) X (xdec_at tX5_go_1 13 rfl) (by decide) ?_
                  refine v_le (lv' := [some (.ref (lay (100, 0))), some (.int d), some (.int u.1), some (.int (nI i1)), some (.int (nI (i3 + 1)))]) (by simp [xle]) ?_
                  exact v_mu (μ' := (M_g2 (i3 + 1) u.2)) (by rw [M_g2]; simp only [← hn]; simp [c_87]) ih3
                · refine v_aload_n X (xdec_at tX5_go_1 9 rfl) rfl rfl ?_
                  refine v_iload X (xdec_at tX5_go_1 10 rfl) rfl ?_
                  refine v_callV X myX5_leaves [.int (nI i3)] [] (c_leaves l Z B0 lay n r i3 ht3 hIn) (xw_at tW_20 27 rfl) (100, 0) cM_0 rfl rfl rfl rfl (by rfl) (Nat.le_of_ble_eq_true rfl) (xdec_at tX5_go_1 11 rfl) ⟨(Nat.le_of_ble_eq_true rfl), (Nat.le_of_ble_eq_true rfl)⟩ ⟨(Nat.le_of_ble_eq_true rfl), (Nat.le_of_ble_eq_true rfl)⟩ ?_
                  rintro v9 lay9 C9 ⟨rfl, rfl, rfl⟩
                  refine v_iinc (v := (nI (i3 + 1))) (lv' := [some (.ref (lay (100, 0))), some (.int d), some (.int u.1), some (.int (nI i1)), some (.int (nI (i3 + 1)))]) X (xdec_at tX5_go_1 12 rfl) rfl (nI_1 _) (by decide) rfl ?_
                  refine v_goto (tgt := 71) X (xdec_at tX5_go_1 13 rfl) (by decide) ?_
                  refine v_le (lv' := [some (.ref (lay (100, 0))), some (.int d), some (.int u.1), some (.int (nI i1)), some (.int (nI (i3 + 1)))]) (by simp [xle]) ?_
                  exact v_mu (μ' := (M_g2 (i3 + 1) u.2)) (by rw [M_g2]; simp only [← hn]; simp [c_87]) ih3
            · obtain ⟨n, hN⟩ : ∃ n, n = M_g2 tn u.2 := ⟨_, rfl⟩
              have hn16 : n.1 16 0 = nI tn := by rw [hN, kep_g2 _ rfl]; exact hu16
              refine v_mu (μ' := n) (by rw [hN]) ?_
              refine v_iload X (xdec_at tX5_go_1 0 rfl) rfl ?_
              refine v_aload_n X (xdec_at tX5_go_1 1 rfl) rfl rfl ?_
              refine r_S (v := (n.1 16 0)) X 16 (by decide) rfl rfl (xdec_at tX5_go_1 2 rfl) rfl ?_
              refine v_icmp_ge (tgt := 102) X (xdec_at tX5_go_1 3 rfl) (by decide) (fun c_77 => ?_) (fun c_77 => ?_)
              · refine v_iinc (v := (nI (i1 + 1))) (lv' := [some (.ref (lay (100, 0))), some (.int d), some (.int u.1), some (.int (nI (i1 + 1))), some (.int (nI tn))]) X (xdec_at tX5_go_1 14 rfl) rfl (nI_1 _) (by decide) rfl ?_
                refine v_goto (tgt := 21) X (xdec_at tX5_go_1 15 rfl) (by decide) ?_
                refine v_le (lv' := [some (.ref (lay (100, 0))), some (.int d), some (.int (M_days (i1 + 1) (0, th μ 0)).1), some (.int (nI (i1 + 1))), none]) (by simp only [xle, M_days, ← hq, M_day, hq16, ix_nI (show tn < 2 ^ 31 by omega), hP, and_self]) ?_
                exact v_mu (μ' := (M_days (i1 + 1) (0, th μ 0)).2) (by rw [M_days, ← hq]; simp only [M_day, hq16, ix_nI (show tn < 2 ^ 31 by omega)]; rw [hN, hP]) ih1
              · exact absurd (show n.1 16 0 ≤ nI tn by rw [hn16]; exact Int32.le_refl _) c_77
          · exact absurd (show u.2.1 16 0 ≤ nI tn by rw [hu16]; exact Int32.le_refl _) c_35
    · refine v_iload_n X (xdec_at tX5_go_0 13 rfl) rfl rfl ?_
      refine v_iload_n X (xdec_at tX5_go_0 14 rfl) rfl rfl ?_
      refine v_icmp_ge (tgt := 108) X (xdec_at tX5_go_0 15 rfl) (by decide) (fun c_23 => ?_) (fun c_23 => ?_)
      · refine v_iload_n X (xdec_at tX5_go_1 16 rfl) rfl rfl ?_
        have e9 : M_go μ d = M_days nd (0, th μ 0) := by rw [M_go, if_pos q_6, ← hnd]
        exact v_iret X hr (xdec_at tX5_go_1 17 rfl) (Nat.le_of_ble_eq_true rfl) (Nat.le_of_ble_eq_true rfl) ⟨rfl, by rw [e9], by rw [e9]⟩
      · exact absurd (show d ≤ nI nd by rw [← ed]; exact Int32.le_refl _) c_23
  · refine v_callV X myX5_asks [.int 0] [] (c_asks0 l Z B0 lay μ r) (xw_at tW_17 31 rfl) (100, 0) cM_0 rfl rfl rfl rfl (by rfl) (Nat.le_of_ble_eq_true rfl) (xdec_at tX5_go_0 5 rfl) ⟨(Nat.le_of_ble_eq_true rfl), (Nat.le_of_ble_eq_true rfl)⟩ ⟨(Nat.le_of_ble_eq_true rfl), (Nat.le_of_ble_eq_true rfl)⟩ ?_
    rintro v9 lay9 C9 ⟨rfl, rfl, rfl⟩
    refine v_if_ne (tgt := 17) X (xdec_at tX5_go_0 6 rfl) (by decide) (fun h9 => absurd h9 (by decide)) (fun _ => ?_)
    refine v_iconst (v := 0) X (xdec_at tX5_go_0 7 rfl) (by decide) ?_
    have e9 : M_go μ d = (0, ((up2 μ.1 38 0 1), μ.2)) := by simp [M_go, q_6]
    exact v_iret X hr (xdec_at tX5_go_0 8 rfl) (Nat.le_of_ble_eq_true rfl) (Nat.le_of_ble_eq_true rfl) ⟨rfl, by rw [e9], by rw [e9]⟩
set_option maxRecDepth 100000 in
set_option maxHeartbeats 4000000 in
theorem c_mail (l : Launch) (Z : xZ) (B0 : Nat) (lay : xK → Nat) (μ : Mu) (r : xK → Option xE) (k a b g pd rg : Int32) (hI : RI μ) (hrg : rg = 0 ∨ rg = 1) : YM l yX5_mail cX5_mail 9 ((some FieldType.int)) 2 43 0 0 Z B0 [.ref (lay (100, 0)), .int k, .int a, .int b, .int g, .int pd, .int rg] lay (cM Z lay μ r) (fun v lay' C' => lay = lay' ∧ v = some (.int (M_mail μ k a b g pd rg).1) ∧ C' = cM Z lay (M_mail μ k a b g pd rg).2 r) := by
  refine YM_of myX5_mail.2.2 RX5 rfl [some (.ref (lay (100, 0))), some (.int k), some (.int a), some (.int b), some (.int g), some (.int pd), some (.int rg), none, none] rfl (Nat.le_of_ble_eq_true rfl) ?_
  intro P1 P2 P3 P4 P5 P6 P7 P8 X hr hnm
  refine v_aload_n X (xdec_at tX5_mail_0 0 rfl) rfl rfl ?_
  refine v_aload_n X (xdec_at tX5_mail_0 1 rfl) rfl rfl ?_
  refine v_iload_n X (xdec_at tX5_mail_0 2 rfl) rfl rfl ?_
  refine v_callV X myX5_isPost [.int a] [.ref (lay (100, 0))] (c_isPost l Z B0 lay μ r a) (xw_at tW_17 38 rfl) (100, 0) cM_0 rfl rfl rfl rfl (by rfl) (Nat.le_of_ble_eq_true rfl) (xdec_at tX5_mail_0 3 rfl) ⟨(Nat.le_of_ble_eq_true rfl), (Nat.le_of_ble_eq_true rfl)⟩ ⟨(Nat.le_of_ble_eq_true rfl), (Nat.le_of_ble_eq_true rfl)⟩ ?_
  rintro v9 lay9 C9 ⟨rfl, rfl, ⟨rfl, q_3⟩ | ⟨rfl, q_3⟩⟩
  · refine v_if_eq (tgt := 21) X (xdec_at tX5_mail_0 4 rfl) (by decide) (fun h9 => absurd h9 (by decide)) (fun _ => ?_)
    refine v_aload_n X (xdec_at tX5_mail_0 5 rfl) rfl rfl ?_
    refine v_iload_n X (xdec_at tX5_mail_0 6 rfl) rfl rfl ?_
    refine v_callV X myX5_isPost [.int b] [.ref (lay (100, 0))] (c_isPost l Z B0 lay μ r b) (xw_at tW_17 38 rfl) (100, 0) cM_0 rfl rfl rfl rfl (by rfl) (Nat.le_of_ble_eq_true rfl) (xdec_at tX5_mail_0 7 rfl) ⟨(Nat.le_of_ble_eq_true rfl), (Nat.le_of_ble_eq_true rfl)⟩ ⟨(Nat.le_of_ble_eq_true rfl), (Nat.le_of_ble_eq_true rfl)⟩ ?_
    rintro v9 lay9 C9 ⟨rfl, rfl, ⟨rfl, q_11⟩ | ⟨rfl, q_11⟩⟩
    · refine v_if_eq (tgt := 21) X (xdec_at tX5_mail_0 8 rfl) (by decide) (fun h9 => absurd h9 (by decide)) (fun _ => ?_)
      refine v_iconst (v := 1) X (xdec_at tX5_mail_0 9 rfl) (by decide) ?_
      refine v_goto (tgt := 22) X (xdec_at tX5_mail_0 10 rfl) (by decide) ?_
      refine v_callV X myX5_asks [.int 1] [] (c_asks1 l Z B0 lay μ r) (xw_at tW_17 31 rfl) (100, 0) cM_0 rfl rfl rfl rfl (by rfl) (Nat.le_of_ble_eq_true rfl) (xdec_at tX5_mail_0 12 rfl) ⟨(Nat.le_of_ble_eq_true rfl), (Nat.le_of_ble_eq_true rfl)⟩ ⟨(Nat.le_of_ble_eq_true rfl), (Nat.le_of_ble_eq_true rfl)⟩ ?_
      rintro v9 lay9 C9 ⟨rfl, rfl, rfl⟩
      refine v_if_ne (tgt := 30) X (xdec_at tX5_mail_0 13 rfl) (by decide) (fun _ => ?_) (fun h9 => absurd h9 (by decide))
      refine v_iload_n X (xdec_at tX5_mail_0 16 rfl) rfl rfl ?_
      refine v_callS X myX5_isKind [.int k] [] (c_isKind l Z B0 lay (cM Z lay ((up2 μ.1 38 0 0), μ.2) r) k) (xw_at tW_18 4 rfl) rfl rfl (by rfl) (Nat.le_of_ble_eq_true rfl) (xdec_at tX5_mail_0 17 rfl) ⟨(Nat.le_of_ble_eq_true rfl), (Nat.le_of_ble_eq_true rfl)⟩ ⟨(Nat.le_of_ble_eq_true rfl), (Nat.le_of_ble_eq_true rfl)⟩ ?_
      rintro v9 lay9 C9 ⟨rfl, rfl, ⟨rfl, q_31⟩ | ⟨rfl, q_31⟩⟩
      · refine v_if_eq (tgt := 62) X (xdec_at tX5_mail_0 18 rfl) (by decide) (fun h9 => absurd h9 (by decide)) (fun _ => ?_)
        refine v_iload_n X (xdec_at tX5_mail_0 19 rfl) rfl rfl ?_
        refine v_iload X (xdec_at tX5_mail_0 20 rfl) rfl ?_
        refine v_callS X myX5_areGrams [.int k, .int g] [] (c_areGrams l Z B0 lay (cM Z lay ((up2 μ.1 38 0 0), μ.2) r) k g) (xw_at tW_19 26 rfl) rfl rfl (by rfl) (Nat.le_of_ble_eq_true rfl) (xdec_at tX5_mail_0 21 rfl) ⟨(Nat.le_of_ble_eq_true rfl), (Nat.le_of_ble_eq_true rfl)⟩ ⟨(Nat.le_of_ble_eq_true rfl), (Nat.le_of_ble_eq_true rfl)⟩ ?_
        rintro v9 lay9 C9 ⟨rfl, rfl, ⟨rfl, q_40⟩ | ⟨rfl, q_40⟩⟩
        · refine v_if_eq (tgt := 62) X (xdec_at tX5_mail_0 22 rfl) (by decide) (fun h9 => absurd h9 (by decide)) (fun _ => ?_)
          refine v_iload X (xdec_at tX5_mail_0 23 rfl) rfl ?_
          refine v_iconst (v := 0) X (xdec_at tX5_mail_0 24 rfl) (by decide) ?_
          refine v_ldc (v := 100000) X (xw_at tW_19 29 rfl) (xdec_at tX5_mail_0 25 rfl) ?_
          refine v_callS X myX5_in [.int pd, .int 0, .int 100000] [] (c_in l Z B0 lay (cM Z lay ((up2 μ.1 38 0 0), μ.2) r) pd 0 100000) (xw_at tW_18 1 rfl) rfl rfl (by rfl) (Nat.le_of_ble_eq_true rfl) (xdec_at tX5_mail_0 26 rfl) ⟨(Nat.le_of_ble_eq_true rfl), (Nat.le_of_ble_eq_true rfl)⟩ ⟨(Nat.le_of_ble_eq_true rfl), (Nat.le_of_ble_eq_true rfl)⟩ ?_
          rintro v9 lay9 C9 ⟨rfl, rfl, ⟨rfl, q_51⟩ | ⟨rfl, q_51⟩⟩
          · refine v_if_eq (tgt := 62) X (xdec_at tX5_mail_0 27 rfl) (by decide) (fun h9 => absurd h9 (by decide)) (fun _ => ?_)
            refine v_iload_n X (xdec_at tX5_mail_0 28 rfl) rfl rfl ?_
            refine v_iload_n X (xdec_at tX5_mail_0 29 rfl) rfl rfl ?_
            refine v_icmp_ne (tgt := 68) X (xdec_at tX5_mail_0 30 rfl) (by decide) (fun c_59 => ?_) (fun c_59 => ?_)
            · refine v_aload_n X (xdec_at tX5_mail_0 35 rfl) rfl rfl ?_
              refine r_S (v := (μ.1 16 0)) X 16 (by decide) rfl rfl (xdec_at tX5_mail_0 36 rfl) rfl ?_
              refine v_bipush (v := 40) X (xdec_at tX5_mail_0 37 rfl) (by decide) ?_
              refine v_icmp_ne (tgt := 83) X (xdec_at tX5_mail_0 38 rfl) (by decide) (fun c_74 => ?_) (fun c_74 => ?_)
              · refine v_aload_n X (xdec_at tX5_mail_1 3 rfl) rfl rfl ?_
                refine r_S (v := (μ.1 16 0)) X 16 (by decide) rfl rfl (xdec_at tX5_mail_1 4 rfl) rfl ?_
                refine v_istore (lv' := [some (.ref (lay (100, 0))), some (.int k), some (.int a), some (.int b), some (.int g), some (.int pd), some (.int rg), some (.int (μ.1 16 0)), none]) X (xdec_at tX5_mail_1 5 rfl) (by decide) rfl ?_
                refine v_aload_n X (xdec_at tX5_mail_1 6 rfl) rfl rfl ?_
                refine v_iload_n X (xdec_at tX5_mail_1 7 rfl) rfl rfl ?_
                refine v_iload_n X (xdec_at tX5_mail_1 8 rfl) rfl rfl ?_
                refine v_iload X (xdec_at tX5_mail_1 9 rfl) rfl ?_
                refine v_iload X (xdec_at tX5_mail_1 10 rfl) rfl ?_
                refine v_callV X myX5_rateOf [.int k, .int a, .int g, .int rg] [] (c_rateOf l Z B0 lay ((up2 μ.1 38 0 0), μ.2) r k a g rg (hI.PK q_3 q_31)) (xw_at tW_19 30 rfl) (100, 0) cM_0 rfl rfl rfl rfl (by rfl) (Nat.le_of_ble_eq_true rfl) (xdec_at tX5_mail_1 11 rfl) ⟨(Nat.le_of_ble_eq_true rfl), (Nat.le_of_ble_eq_true rfl)⟩ ⟨(Nat.le_of_ble_eq_true rfl), (Nat.le_of_ble_eq_true rfl)⟩ ?_
                rintro v9 lay9 C9 ⟨rfl, rfl, rfl⟩
                refine v_istore (lv' := [some (.ref (lay (100, 0))), some (.int k), some (.int a), some (.int b), some (.int g), some (.int pd), some (.int rg), some (.int (μ.1 16 0)), some (.int (M_rateOf ((up2 μ.1 38 0 0), μ.2) k a g rg))]) X (xdec_at tX5_mail_1 12 rfl) (by decide) rfl ?_
                refine v_aload_n X (xdec_at tX5_mail_1 13 rfl) rfl rfl ?_
                refine r_A X 17 (by decide) rfl rfl (xdec_at tX5_mail_1 14 rfl) ?_
                refine v_iload X (xdec_at tX5_mail_1 15 rfl) rfl ?_
                refine v_iload_n X (xdec_at tX5_mail_1 16 rfl) rfl rfl ?_
                refine r_PI X 17 (by decide) rfl rfl (hI.t c_74) (xdec_at tX5_mail_1 17 rfl) ?_
                refine v_aload_n X (xdec_at tX5_mail_1 18 rfl) rfl rfl ?_
                refine r_A X 18 (by decide) rfl rfl (xdec_at tX5_mail_1 19 rfl) ?_
                refine v_iload X (xdec_at tX5_mail_1 20 rfl) rfl ?_
                refine v_iload_n X (xdec_at tX5_mail_1 21 rfl) rfl rfl ?_
                refine r_PI X 18 (by decide) rfl rfl (hI.t c_74) (xdec_at tX5_mail_1 22 rfl) ?_
                refine v_aload_n X (xdec_at tX5_mail_1 23 rfl) rfl rfl ?_
                refine r_A X 19 (by decide) rfl rfl (xdec_at tX5_mail_1 24 rfl) ?_
                refine v_iload X (xdec_at tX5_mail_1 25 rfl) rfl ?_
                refine v_iload_n X (xdec_at tX5_mail_1 26 rfl) rfl rfl ?_
                refine r_PI X 19 (by decide) rfl rfl (hI.t c_74) (xdec_at tX5_mail_1 27 rfl) ?_
                refine v_aload_n X (xdec_at tX5_mail_1 28 rfl) rfl rfl ?_
                refine r_A X 20 (by decide) rfl rfl (xdec_at tX5_mail_1 29 rfl) ?_
                refine v_iload X (xdec_at tX5_mail_1 30 rfl) rfl ?_
                refine v_iload X (xdec_at tX5_mail_1 31 rfl) rfl ?_
                refine r_PI X 20 (by decide) rfl rfl (hI.t c_74) (xdec_at tX5_mail_1 32 rfl) ?_
                refine v_aload_n X (xdec_at tX5_mail_1 33 rfl) rfl rfl ?_
                refine r_A X 21 (by decide) rfl rfl (xdec_at tX5_mail_1 34 rfl) ?_
                refine v_iload X (xdec_at tX5_mail_1 35 rfl) rfl ?_
                refine v_iload X (xdec_at tX5_mail_1 36 rfl) rfl ?_
                refine r_PZ X 21 (by decide) rfl rfl hrg (hI.t c_74) (xdec_at tX5_mail_1 37 rfl) ?_
                refine v_aload_n X (xdec_at tX5_mail_1 38 rfl) rfl rfl ?_
                refine r_A X 22 (by decide) rfl rfl (xdec_at tX5_mail_1 39 rfl) ?_
                refine v_iload X (xdec_at tX5_mail_2 0 rfl) rfl ?_
                refine v_iload X (xdec_at tX5_mail_2 1 rfl) rfl ?_
                refine v_iload X (xdec_at tX5_mail_2 2 rfl) rfl ?_
                refine v_icmp_le (tgt := 164) X (xdec_at tX5_mail_2 3 rfl) (by decide) (fun c_153 => ?_) (fun c_153 => ?_)
                · refine v_iconst (v := 0) X (xdec_at tX5_mail_2 8 rfl) (by decide) ?_
                  refine r_PI X 22 (by decide) rfl rfl (hI.t c_74) (xdec_at tX5_mail_2 9 rfl) ?_
                  refine v_aload_n X (xdec_at tX5_mail_2 10 rfl) rfl rfl ?_
                  refine r_A X 23 (by decide) rfl rfl (xdec_at tX5_mail_2 11 rfl) ?_
                  refine v_iload X (xdec_at tX5_mail_2 12 rfl) rfl ?_
                  refine v_iconst (v := 0) X (xdec_at tX5_mail_2 13 rfl) (by decide) ?_
                  refine r_PI X 23 (by decide) rfl rfl (hI.t c_74) (xdec_at tX5_mail_2 14 rfl) ?_
                  refine v_aload_n X (xdec_at tX5_mail_2 15 rfl) rfl rfl ?_
                  refine r_A X 24 (by decide) rfl rfl (xdec_at tX5_mail_2 16 rfl) ?_
                  refine v_iload X (xdec_at tX5_mail_2 17 rfl) rfl ?_
                  refine v_iload_n X (xdec_at tX5_mail_2 18 rfl) rfl rfl ?_
                  refine r_PI X 24 (by decide) rfl rfl (hI.t c_74) (xdec_at tX5_mail_2 19 rfl) ?_
                  refine v_aload_n X (xdec_at tX5_mail_2 20 rfl) rfl rfl ?_
                  refine r_A X 25 (by decide) rfl rfl (xdec_at tX5_mail_2 21 rfl) ?_
                  refine v_iload X (xdec_at tX5_mail_2 22 rfl) rfl ?_
                  refine v_iconst (v := (-1)) X (xdec_at tX5_mail_2 23 rfl) (by decide) ?_
                  refine r_PI X 25 (by decide) rfl rfl (hI.t c_74) (xdec_at tX5_mail_2 24 rfl) ?_
                  refine v_aload_n X (xdec_at tX5_mail_2 25 rfl) rfl rfl ?_
                  refine r_A X 8 (by decide) rfl rfl (xdec_at tX5_mail_2 26 rfl) ?_
                  refine v_iload_n X (xdec_at tX5_mail_2 27 rfl) rfl rfl ?_
                  refine v_dup2_11 X (xdec_at tX5_mail_2 28 rfl) rfl rfl ?_
                  refine r_L (v := (μ.2 8 (ix a))) X 8 (by decide) rfl rfl (hI.P q_3) (xdec_at tX5_mail_2 29 rfl) rfl ?_
                  refine v_iload X (xdec_at tX5_mail_2 30 rfl) rfl ?_
                  refine v_i2l X (xdec_at tX5_mail_2 31 rfl) rfl ?_
                  refine v_ladd X (xdec_at tX5_mail_2 32 rfl) ?_
                  refine r_PL X 8 (by decide) rfl rfl (hI.P q_3) (xdec_at tX5_mail_2 33 rfl) ?_
                  refine v_aload_n X (xdec_at tX5_mail_2 34 rfl) rfl rfl ?_
                  refine v_iload X (xdec_at tX5_mail_2 35 rfl) rfl ?_
                  refine v_iload_n X (xdec_at tX5_mail_2 36 rfl) rfl rfl ?_
                  refine v_st (st' := [.int a, .int (nI (ix (μ.1 16 0))), .ref (lay (100, 0))]) (by rw [in_eq (hI.t c_74) (by decide)] <;> rfl) ?_
                  refine v_callV X myX5_signs [.int (nI (ix (μ.1 16 0))), .int a] [] (c_signs l Z B0 lay ((up2 (up2 (up2 (up2 (up2 (up2 (up2 (up2 (up2 (up2 μ.1 38 0 0) 17 (ix (μ.1 16 0)) k) 18 (ix (μ.1 16 0)) a) 19 (ix (μ.1 16 0)) b) 20 (ix (μ.1 16 0)) g) 21 (ix (μ.1 16 0)) rg) 22 (ix (μ.1 16 0)) 0) 23 (ix (μ.1 16 0)) 0) 24 (ix (μ.1 16 0)) a) 25 (ix (μ.1 16 0)) (-1)), (up2 μ.2 8 (ix a) ((μ.2 8 (ix a)) + (pd).toInt64))) r (ix (μ.1 16 0)) (in_ix (hI.t c_74)) a (RI_up (RI_up (RI_F (RI_F (RI_up (RI_F (RI_up (RI_up (RI_up (RI_F (A := μ.1) (J := up2 μ.2 8 (ix a) (μ.2 8 (ix a) + pd.toInt64)) hI (j := 38) rfl 0 0) (ok17 (isK_in q_31))) (ok8 (j := 18) (by simp) (hI.P q_3))) (ok8 (j := 19) (by simp) (hI.P q_11))) (j := 20) rfl _ _) (okb (j := 21) (by simp) hrg)) (j := 22) rfl _ _) (j := 23) rfl _ _) (ok8 (j := 24) (by simp) (hI.P q_3))) (ok25 (Or.inl rfl)))) (xw_at tW_19 33 rfl) (100, 0) cM_0 rfl rfl rfl rfl (by rfl) (Nat.le_of_ble_eq_true rfl) (xdec_at tX5_mail_2 37 rfl) ⟨(Nat.le_of_ble_eq_true rfl), (Nat.le_of_ble_eq_true rfl)⟩ ⟨(Nat.le_of_ble_eq_true rfl), (Nat.le_of_ble_eq_true rfl)⟩ ?_
                  rintro v9 lay9 C9 ⟨rfl, rfl, rfl⟩
                  refine v_aload_n X (xdec_at tX5_mail_2 38 rfl) rfl rfl ?_
                  refine v_dup X (xdec_at tX5_mail_2 39 rfl) rfl ?_
                  refine r_S (v := ((M_signs ((up2 (up2 (up2 (up2 (up2 (up2 (up2 (up2 (up2 (up2 μ.1 38 0 0) 17 (ix (μ.1 16 0)) k) 18 (ix (μ.1 16 0)) a) 19 (ix (μ.1 16 0)) b) 20 (ix (μ.1 16 0)) g) 21 (ix (μ.1 16 0)) rg) 22 (ix (μ.1 16 0)) 0) 23 (ix (μ.1 16 0)) 0) 24 (ix (μ.1 16 0)) a) 25 (ix (μ.1 16 0)) (-1)), (up2 μ.2 8 (ix a) ((μ.2 8 (ix a)) + (pd).toInt64))) (ix (μ.1 16 0)) a).1 16 0)) X 16 (by decide) rfl rfl (xdec_at tX5_mail_3 0 rfl) rfl ?_
                  refine v_iconst (v := 1) X (xdec_at tX5_mail_3 1 rfl) (by decide) ?_
                  refine v_iadd X (xdec_at tX5_mail_3 2 rfl) ?_
                  refine r_PS X 16 (by decide) rfl (by decide) rfl (xdec_at tX5_mail_3 3 rfl) ?_
                  refine v_iload X (xdec_at tX5_mail_3 4 rfl) rfl ?_
                  have e9 : M_mail μ k a b g pd rg = ((μ.1 16 0), ((up2 (M_signs ((up2 (up2 (up2 (up2 (up2 (up2 (up2 (up2 (up2 (up2 μ.1 38 0 0) 17 (ix (μ.1 16 0)) k) 18 (ix (μ.1 16 0)) a) 19 (ix (μ.1 16 0)) b) 20 (ix (μ.1 16 0)) g) 21 (ix (μ.1 16 0)) rg) 22 (ix (μ.1 16 0)) 0) 23 (ix (μ.1 16 0)) 0) 24 (ix (μ.1 16 0)) a) 25 (ix (μ.1 16 0)) (-1)), (up2 μ.2 8 (ix a) ((μ.2 8 (ix a)) + (pd).toInt64))) (ix (μ.1 16 0)) a).1 16 0 (((M_signs ((up2 (up2 (up2 (up2 (up2 (up2 (up2 (up2 (up2 (up2 μ.1 38 0 0) 17 (ix (μ.1 16 0)) k) 18 (ix (μ.1 16 0)) a) 19 (ix (μ.1 16 0)) b) 20 (ix (μ.1 16 0)) g) 21 (ix (μ.1 16 0)) rg) 22 (ix (μ.1 16 0)) 0) 23 (ix (μ.1 16 0)) 0) 24 (ix (μ.1 16 0)) a) 25 (ix (μ.1 16 0)) (-1)), (up2 μ.2 8 (ix a) ((μ.2 8 (ix a)) + (pd).toInt64))) (ix (μ.1 16 0)) a).1 16 0) + 1)), (M_signs ((up2 (up2 (up2 (up2 (up2 (up2 (up2 (up2 (up2 (up2 μ.1 38 0 0) 17 (ix (μ.1 16 0)) k) 18 (ix (μ.1 16 0)) a) 19 (ix (μ.1 16 0)) b) 20 (ix (μ.1 16 0)) g) 21 (ix (μ.1 16 0)) rg) 22 (ix (μ.1 16 0)) 0) 23 (ix (μ.1 16 0)) 0) 24 (ix (μ.1 16 0)) a) 25 (ix (μ.1 16 0)) (-1)), (up2 μ.2 8 (ix a) ((μ.2 8 (ix a)) + (pd).toInt64))) (ix (μ.1 16 0)) a).2)) := by simp [M_mail, up2_at, (eq_true q_3), (eq_true q_11), (eq_true q_31), (eq_true q_40), (eq_true q_51), c_59, c_74, c_153, M_mailS]
                  exact v_iret X hr (xdec_at tX5_mail_3 5 rfl) (Nat.le_of_ble_eq_true rfl) (Nat.le_of_ble_eq_true rfl) ⟨rfl, by rw [e9], by rw [e9]⟩
                · refine v_iload X (xdec_at tX5_mail_2 4 rfl) rfl ?_
                  refine v_iload X (xdec_at tX5_mail_2 5 rfl) rfl ?_
                  refine v_isub X (xdec_at tX5_mail_2 6 rfl) ?_
                  refine v_goto (tgt := 165) X (xdec_at tX5_mail_2 7 rfl) (by decide) ?_
                  refine r_PI X 22 (by decide) rfl rfl (hI.t c_74) (xdec_at tX5_mail_2 9 rfl) ?_
                  refine v_aload_n X (xdec_at tX5_mail_2 10 rfl) rfl rfl ?_
                  refine r_A X 23 (by decide) rfl rfl (xdec_at tX5_mail_2 11 rfl) ?_
                  refine v_iload X (xdec_at tX5_mail_2 12 rfl) rfl ?_
                  refine v_iconst (v := 0) X (xdec_at tX5_mail_2 13 rfl) (by decide) ?_
                  refine r_PI X 23 (by decide) rfl rfl (hI.t c_74) (xdec_at tX5_mail_2 14 rfl) ?_
                  refine v_aload_n X (xdec_at tX5_mail_2 15 rfl) rfl rfl ?_
                  refine r_A X 24 (by decide) rfl rfl (xdec_at tX5_mail_2 16 rfl) ?_
                  refine v_iload X (xdec_at tX5_mail_2 17 rfl) rfl ?_
                  refine v_iload_n X (xdec_at tX5_mail_2 18 rfl) rfl rfl ?_
                  refine r_PI X 24 (by decide) rfl rfl (hI.t c_74) (xdec_at tX5_mail_2 19 rfl) ?_
                  refine v_aload_n X (xdec_at tX5_mail_2 20 rfl) rfl rfl ?_
                  refine r_A X 25 (by decide) rfl rfl (xdec_at tX5_mail_2 21 rfl) ?_
                  refine v_iload X (xdec_at tX5_mail_2 22 rfl) rfl ?_
                  refine v_iconst (v := (-1)) X (xdec_at tX5_mail_2 23 rfl) (by decide) ?_
                  refine r_PI X 25 (by decide) rfl rfl (hI.t c_74) (xdec_at tX5_mail_2 24 rfl) ?_
                  refine v_aload_n X (xdec_at tX5_mail_2 25 rfl) rfl rfl ?_
                  refine r_A X 8 (by decide) rfl rfl (xdec_at tX5_mail_2 26 rfl) ?_
                  refine v_iload_n X (xdec_at tX5_mail_2 27 rfl) rfl rfl ?_
                  refine v_dup2_11 X (xdec_at tX5_mail_2 28 rfl) rfl rfl ?_
                  refine r_L (v := (μ.2 8 (ix a))) X 8 (by decide) rfl rfl (hI.P q_3) (xdec_at tX5_mail_2 29 rfl) rfl ?_
                  refine v_iload X (xdec_at tX5_mail_2 30 rfl) rfl ?_
                  refine v_i2l X (xdec_at tX5_mail_2 31 rfl) rfl ?_
                  refine v_ladd X (xdec_at tX5_mail_2 32 rfl) ?_
                  refine r_PL X 8 (by decide) rfl rfl (hI.P q_3) (xdec_at tX5_mail_2 33 rfl) ?_
                  refine v_aload_n X (xdec_at tX5_mail_2 34 rfl) rfl rfl ?_
                  refine v_iload X (xdec_at tX5_mail_2 35 rfl) rfl ?_
                  refine v_iload_n X (xdec_at tX5_mail_2 36 rfl) rfl rfl ?_
                  refine v_st (st' := [.int a, .int (nI (ix (μ.1 16 0))), .ref (lay (100, 0))]) (by rw [in_eq (hI.t c_74) (by decide)] <;> rfl) ?_
                  refine v_callV X myX5_signs [.int (nI (ix (μ.1 16 0))), .int a] [] (c_signs l Z B0 lay ((up2 (up2 (up2 (up2 (up2 (up2 (up2 (up2 (up2 (up2 μ.1 38 0 0) 17 (ix (μ.1 16 0)) k) 18 (ix (μ.1 16 0)) a) 19 (ix (μ.1 16 0)) b) 20 (ix (μ.1 16 0)) g) 21 (ix (μ.1 16 0)) rg) 22 (ix (μ.1 16 0)) ((M_rateOf ((up2 μ.1 38 0 0), μ.2) k a g rg) - pd)) 23 (ix (μ.1 16 0)) 0) 24 (ix (μ.1 16 0)) a) 25 (ix (μ.1 16 0)) (-1)), (up2 μ.2 8 (ix a) ((μ.2 8 (ix a)) + (pd).toInt64))) r (ix (μ.1 16 0)) (in_ix (hI.t c_74)) a (RI_up (RI_up (RI_F (RI_F (RI_up (RI_F (RI_up (RI_up (RI_up (RI_F (A := μ.1) (J := up2 μ.2 8 (ix a) (μ.2 8 (ix a) + pd.toInt64)) hI (j := 38) rfl 0 0) (ok17 (isK_in q_31))) (ok8 (j := 18) (by simp) (hI.P q_3))) (ok8 (j := 19) (by simp) (hI.P q_11))) (j := 20) rfl _ _) (okb (j := 21) (by simp) hrg)) (j := 22) rfl _ _) (j := 23) rfl _ _) (ok8 (j := 24) (by simp) (hI.P q_3))) (ok25 (Or.inl rfl)))) (xw_at tW_19 33 rfl) (100, 0) cM_0 rfl rfl rfl rfl (by rfl) (Nat.le_of_ble_eq_true rfl) (xdec_at tX5_mail_2 37 rfl) ⟨(Nat.le_of_ble_eq_true rfl), (Nat.le_of_ble_eq_true rfl)⟩ ⟨(Nat.le_of_ble_eq_true rfl), (Nat.le_of_ble_eq_true rfl)⟩ ?_
                  rintro v9 lay9 C9 ⟨rfl, rfl, rfl⟩
                  refine v_aload_n X (xdec_at tX5_mail_2 38 rfl) rfl rfl ?_
                  refine v_dup X (xdec_at tX5_mail_2 39 rfl) rfl ?_
                  refine r_S (v := ((M_signs ((up2 (up2 (up2 (up2 (up2 (up2 (up2 (up2 (up2 (up2 μ.1 38 0 0) 17 (ix (μ.1 16 0)) k) 18 (ix (μ.1 16 0)) a) 19 (ix (μ.1 16 0)) b) 20 (ix (μ.1 16 0)) g) 21 (ix (μ.1 16 0)) rg) 22 (ix (μ.1 16 0)) ((M_rateOf ((up2 μ.1 38 0 0), μ.2) k a g rg) - pd)) 23 (ix (μ.1 16 0)) 0) 24 (ix (μ.1 16 0)) a) 25 (ix (μ.1 16 0)) (-1)), (up2 μ.2 8 (ix a) ((μ.2 8 (ix a)) + (pd).toInt64))) (ix (μ.1 16 0)) a).1 16 0)) X 16 (by decide) rfl rfl (xdec_at tX5_mail_3 0 rfl) rfl ?_
                  refine v_iconst (v := 1) X (xdec_at tX5_mail_3 1 rfl) (by decide) ?_
                  refine v_iadd X (xdec_at tX5_mail_3 2 rfl) ?_
                  refine r_PS X 16 (by decide) rfl (by decide) rfl (xdec_at tX5_mail_3 3 rfl) ?_
                  refine v_iload X (xdec_at tX5_mail_3 4 rfl) rfl ?_
                  have e9 : M_mail μ k a b g pd rg = ((μ.1 16 0), ((up2 (M_signs ((up2 (up2 (up2 (up2 (up2 (up2 (up2 (up2 (up2 (up2 μ.1 38 0 0) 17 (ix (μ.1 16 0)) k) 18 (ix (μ.1 16 0)) a) 19 (ix (μ.1 16 0)) b) 20 (ix (μ.1 16 0)) g) 21 (ix (μ.1 16 0)) rg) 22 (ix (μ.1 16 0)) ((M_rateOf ((up2 μ.1 38 0 0), μ.2) k a g rg) - pd)) 23 (ix (μ.1 16 0)) 0) 24 (ix (μ.1 16 0)) a) 25 (ix (μ.1 16 0)) (-1)), (up2 μ.2 8 (ix a) ((μ.2 8 (ix a)) + (pd).toInt64))) (ix (μ.1 16 0)) a).1 16 0 (((M_signs ((up2 (up2 (up2 (up2 (up2 (up2 (up2 (up2 (up2 (up2 μ.1 38 0 0) 17 (ix (μ.1 16 0)) k) 18 (ix (μ.1 16 0)) a) 19 (ix (μ.1 16 0)) b) 20 (ix (μ.1 16 0)) g) 21 (ix (μ.1 16 0)) rg) 22 (ix (μ.1 16 0)) ((M_rateOf ((up2 μ.1 38 0 0), μ.2) k a g rg) - pd)) 23 (ix (μ.1 16 0)) 0) 24 (ix (μ.1 16 0)) a) 25 (ix (μ.1 16 0)) (-1)), (up2 μ.2 8 (ix a) ((μ.2 8 (ix a)) + (pd).toInt64))) (ix (μ.1 16 0)) a).1 16 0) + 1)), (M_signs ((up2 (up2 (up2 (up2 (up2 (up2 (up2 (up2 (up2 (up2 μ.1 38 0 0) 17 (ix (μ.1 16 0)) k) 18 (ix (μ.1 16 0)) a) 19 (ix (μ.1 16 0)) b) 20 (ix (μ.1 16 0)) g) 21 (ix (μ.1 16 0)) rg) 22 (ix (μ.1 16 0)) ((M_rateOf ((up2 μ.1 38 0 0), μ.2) k a g rg) - pd)) 23 (ix (μ.1 16 0)) 0) 24 (ix (μ.1 16 0)) a) 25 (ix (μ.1 16 0)) (-1)), (up2 μ.2 8 (ix a) ((μ.2 8 (ix a)) + (pd).toInt64))) (ix (μ.1 16 0)) a).2)) := by simp [M_mail, up2_at, (eq_true q_3), (eq_true q_11), (eq_true q_31), (eq_true q_40), (eq_true q_51), c_59, c_74, c_153, M_mailS]
                  exact v_iret X hr (xdec_at tX5_mail_3 5 rfl) (Nat.le_of_ble_eq_true rfl) (Nat.le_of_ble_eq_true rfl) ⟨rfl, by rw [e9], by rw [e9]⟩
              · refine v_aload_n X (xdec_at tX5_mail_0 39 rfl) rfl rfl ?_
                refine v_iconst (v := 3) X (xdec_at tX5_mail_1 0 rfl) (by decide) ?_
                refine v_callV X myX5_fails [.int 3] [] (c_fails l Z B0 lay ((up2 μ.1 38 0 0), μ.2) r 3) (xw_at tW_18 11 rfl) (100, 0) cM_0 rfl rfl rfl rfl (by rfl) (Nat.le_of_ble_eq_true rfl) (xdec_at tX5_mail_1 1 rfl) ⟨(Nat.le_of_ble_eq_true rfl), (Nat.le_of_ble_eq_true rfl)⟩ ⟨(Nat.le_of_ble_eq_true rfl), (Nat.le_of_ble_eq_true rfl)⟩ ?_
                rintro v9 lay9 C9 ⟨rfl, rfl, rfl⟩
                have e9 : M_mail μ k a b g pd rg = (0, ((up2 (up2 μ.1 38 0 0) 38 0 3), μ.2)) := by simp [M_mail, up2_at, (eq_true q_3), (eq_true q_11), (eq_true q_31), (eq_true q_40), (eq_true q_51), c_59, (eq_true c_74), M_mailS]
                exact v_iret X hr (xdec_at tX5_mail_1 2 rfl) (Nat.le_of_ble_eq_true rfl) (Nat.le_of_ble_eq_true rfl) ⟨rfl, by rw [e9], by rw [e9]⟩
            · refine v_aload_n X (xdec_at tX5_mail_0 31 rfl) rfl rfl ?_
              refine v_iconst (v := 2) X (xdec_at tX5_mail_0 32 rfl) (by decide) ?_
              refine v_callV X myX5_fails [.int 2] [] (c_fails l Z B0 lay ((up2 μ.1 38 0 0), μ.2) r 2) (xw_at tW_18 11 rfl) (100, 0) cM_0 rfl rfl rfl rfl (by rfl) (Nat.le_of_ble_eq_true rfl) (xdec_at tX5_mail_0 33 rfl) ⟨(Nat.le_of_ble_eq_true rfl), (Nat.le_of_ble_eq_true rfl)⟩ ⟨(Nat.le_of_ble_eq_true rfl), (Nat.le_of_ble_eq_true rfl)⟩ ?_
              rintro v9 lay9 C9 ⟨rfl, rfl, rfl⟩
              have e9 : M_mail μ k a b g pd rg = (0, ((up2 (up2 μ.1 38 0 0) 38 0 2), μ.2)) := by simp [M_mail, up2_at, (eq_true q_3), (eq_true q_11), (eq_true q_31), (eq_true q_40), (eq_true q_51), (eq_true c_59), M_mailS]
              exact v_iret X hr (xdec_at tX5_mail_0 34 rfl) (Nat.le_of_ble_eq_true rfl) (Nat.le_of_ble_eq_true rfl) ⟨rfl, by rw [e9], by rw [e9]⟩
          · refine v_if_eq (tgt := 62) X (xdec_at tX5_mail_0 27 rfl) (by decide) (fun _ => ?_) (fun h9 => absurd h9 (by decide))
            refine v_aload_n X (xdec_at tX5_mail_0 31 rfl) rfl rfl ?_
            refine v_iconst (v := 2) X (xdec_at tX5_mail_0 32 rfl) (by decide) ?_
            refine v_callV X myX5_fails [.int 2] [] (c_fails l Z B0 lay ((up2 μ.1 38 0 0), μ.2) r 2) (xw_at tW_18 11 rfl) (100, 0) cM_0 rfl rfl rfl rfl (by rfl) (Nat.le_of_ble_eq_true rfl) (xdec_at tX5_mail_0 33 rfl) ⟨(Nat.le_of_ble_eq_true rfl), (Nat.le_of_ble_eq_true rfl)⟩ ⟨(Nat.le_of_ble_eq_true rfl), (Nat.le_of_ble_eq_true rfl)⟩ ?_
            rintro v9 lay9 C9 ⟨rfl, rfl, rfl⟩
            have e9 : M_mail μ k a b g pd rg = (0, ((up2 (up2 μ.1 38 0 0) 38 0 2), μ.2)) := by simp [M_mail, up2_at, (eq_true q_3), (eq_true q_11), (eq_true q_31), (eq_true q_40), q_51, M_mailS]
            exact v_iret X hr (xdec_at tX5_mail_0 34 rfl) (Nat.le_of_ble_eq_true rfl) (Nat.le_of_ble_eq_true rfl) ⟨rfl, by rw [e9], by rw [e9]⟩
        · refine v_if_eq (tgt := 62) X (xdec_at tX5_mail_0 22 rfl) (by decide) (fun _ => ?_) (fun h9 => absurd h9 (by decide))
          refine v_aload_n X (xdec_at tX5_mail_0 31 rfl) rfl rfl ?_
          refine v_iconst (v := 2) X (xdec_at tX5_mail_0 32 rfl) (by decide) ?_
          refine v_callV X myX5_fails [.int 2] [] (c_fails l Z B0 lay ((up2 μ.1 38 0 0), μ.2) r 2) (xw_at tW_18 11 rfl) (100, 0) cM_0 rfl rfl rfl rfl (by rfl) (Nat.le_of_ble_eq_true rfl) (xdec_at tX5_mail_0 33 rfl) ⟨(Nat.le_of_ble_eq_true rfl), (Nat.le_of_ble_eq_true rfl)⟩ ⟨(Nat.le_of_ble_eq_true rfl), (Nat.le_of_ble_eq_true rfl)⟩ ?_
          rintro v9 lay9 C9 ⟨rfl, rfl, rfl⟩
          have e9 : M_mail μ k a b g pd rg = (0, ((up2 (up2 μ.1 38 0 0) 38 0 2), μ.2)) := by simp [M_mail, up2_at, (eq_true q_3), (eq_true q_11), (eq_true q_31), q_40, M_mailS]
          exact v_iret X hr (xdec_at tX5_mail_0 34 rfl) (Nat.le_of_ble_eq_true rfl) (Nat.le_of_ble_eq_true rfl) ⟨rfl, by rw [e9], by rw [e9]⟩
      · refine v_if_eq (tgt := 62) X (xdec_at tX5_mail_0 18 rfl) (by decide) (fun _ => ?_) (fun h9 => absurd h9 (by decide))
        refine v_aload_n X (xdec_at tX5_mail_0 31 rfl) rfl rfl ?_
        refine v_iconst (v := 2) X (xdec_at tX5_mail_0 32 rfl) (by decide) ?_
        refine v_callV X myX5_fails [.int 2] [] (c_fails l Z B0 lay ((up2 μ.1 38 0 0), μ.2) r 2) (xw_at tW_18 11 rfl) (100, 0) cM_0 rfl rfl rfl rfl (by rfl) (Nat.le_of_ble_eq_true rfl) (xdec_at tX5_mail_0 33 rfl) ⟨(Nat.le_of_ble_eq_true rfl), (Nat.le_of_ble_eq_true rfl)⟩ ⟨(Nat.le_of_ble_eq_true rfl), (Nat.le_of_ble_eq_true rfl)⟩ ?_
        rintro v9 lay9 C9 ⟨rfl, rfl, rfl⟩
        have e9 : M_mail μ k a b g pd rg = (0, ((up2 (up2 μ.1 38 0 0) 38 0 2), μ.2)) := by simp [M_mail, up2_at, (eq_true q_3), (eq_true q_11), q_31, M_mailS]
        exact v_iret X hr (xdec_at tX5_mail_0 34 rfl) (Nat.le_of_ble_eq_true rfl) (Nat.le_of_ble_eq_true rfl) ⟨rfl, by rw [e9], by rw [e9]⟩
    · refine v_if_eq (tgt := 21) X (xdec_at tX5_mail_0 8 rfl) (by decide) (fun _ => ?_) (fun h9 => absurd h9 (by decide))
      refine v_iconst (v := 0) X (xdec_at tX5_mail_0 11 rfl) (by decide) ?_
      refine v_callV X myX5_asks [.int 0] [] (c_asks0 l Z B0 lay μ r) (xw_at tW_17 31 rfl) (100, 0) cM_0 rfl rfl rfl rfl (by rfl) (Nat.le_of_ble_eq_true rfl) (xdec_at tX5_mail_0 12 rfl) ⟨(Nat.le_of_ble_eq_true rfl), (Nat.le_of_ble_eq_true rfl)⟩ ⟨(Nat.le_of_ble_eq_true rfl), (Nat.le_of_ble_eq_true rfl)⟩ ?_
      rintro v9 lay9 C9 ⟨rfl, rfl, rfl⟩
      refine v_if_ne (tgt := 30) X (xdec_at tX5_mail_0 13 rfl) (by decide) (fun h9 => absurd h9 (by decide)) (fun _ => ?_)
      refine v_iconst (v := 0) X (xdec_at tX5_mail_0 14 rfl) (by decide) ?_
      have e9 : M_mail μ k a b g pd rg = (0, ((up2 μ.1 38 0 1), μ.2)) := by simp [M_mail, up2_at, (eq_true q_3), q_11, M_mailS]
      exact v_iret X hr (xdec_at tX5_mail_0 15 rfl) (Nat.le_of_ble_eq_true rfl) (Nat.le_of_ble_eq_true rfl) ⟨rfl, by rw [e9], by rw [e9]⟩
  · refine v_if_eq (tgt := 21) X (xdec_at tX5_mail_0 4 rfl) (by decide) (fun _ => ?_) (fun h9 => absurd h9 (by decide))
    refine v_iconst (v := 0) X (xdec_at tX5_mail_0 11 rfl) (by decide) ?_
    refine v_callV X myX5_asks [.int 0] [] (c_asks0 l Z B0 lay μ r) (xw_at tW_17 31 rfl) (100, 0) cM_0 rfl rfl rfl rfl (by rfl) (Nat.le_of_ble_eq_true rfl) (xdec_at tX5_mail_0 12 rfl) ⟨(Nat.le_of_ble_eq_true rfl), (Nat.le_of_ble_eq_true rfl)⟩ ⟨(Nat.le_of_ble_eq_true rfl), (Nat.le_of_ble_eq_true rfl)⟩ ?_
    rintro v9 lay9 C9 ⟨rfl, rfl, rfl⟩
    refine v_if_ne (tgt := 30) X (xdec_at tX5_mail_0 13 rfl) (by decide) (fun h9 => absurd h9 (by decide)) (fun _ => ?_)
    refine v_iconst (v := 0) X (xdec_at tX5_mail_0 14 rfl) (by decide) ?_
    have e9 : M_mail μ k a b g pd rg = (0, ((up2 μ.1 38 0 1), μ.2)) := by simp [M_mail, up2_at, q_3, M_mailS]
    exact v_iret X hr (xdec_at tX5_mail_0 15 rfl) (Nat.le_of_ble_eq_true rfl) (Nat.le_of_ble_eq_true rfl) ⟨rfl, by rw [e9], by rw [e9]⟩
set_option maxRecDepth 100000 in
set_option maxHeartbeats 4000000 in
theorem c_paysFor (l : Launch) (Z : xZ) (B0 : Nat) (lay : xK → Nat) (μ : Mu) (r : xK → Option xE) (t : Nat) (ht : t < 40) (a : Int32) (ha : vp_in a 8) (h18 : vp_in (μ.1 18 t) 8) (k : Int32) : YM l yX5_paysFor cX5_paysFor 4 ((some FieldType.int)) 1 24 0 0 Z B0 [.ref (lay (100, 0)), .int (nI t), .int a, .int k] lay (cM Z lay μ r) (fun v lay' C' => lay = lay' ∧ v = some (.int (M_paysFor μ t a k).1) ∧ C' = cM Z lay (M_paysFor μ t a k).2 r) := by
  refine YM_of myX5_paysFor.2.2 RX5 rfl [some (.ref (lay (100, 0))), some (.int (nI t)), some (.int a), some (.int k)] rfl (Nat.le_of_ble_eq_true rfl) ?_
  intro P1 P2 P3 P4 P5 P6 P7 P8 X hr hnm
  refine v_iload_n X (xdec_at tX5_paysFor_0 0 rfl) rfl rfl ?_
  refine v_aload_n X (xdec_at tX5_paysFor_0 1 rfl) rfl rfl ?_
  refine r_A X 18 (by decide) rfl rfl (xdec_at tX5_paysFor_0 2 rfl) ?_
  refine v_iload_n X (xdec_at tX5_paysFor_0 3 rfl) rfl rfl ?_
  refine r_In (v := (μ.1 18 t)) X 18 (by decide) rfl rfl ht (xdec_at tX5_paysFor_0 4 rfl) rfl ?_
  refine v_icmp_ne (tgt := 12) X (xdec_at tX5_paysFor_0 5 rfl) (by decide) (fun c_7 => ?_) (fun c_7 => ?_)
  · refine v_aload_n X (xdec_at tX5_paysFor_0 8 rfl) rfl rfl ?_
    refine v_iload_n X (xdec_at tX5_paysFor_0 9 rfl) rfl rfl ?_
    refine v_aload_n X (xdec_at tX5_paysFor_0 10 rfl) rfl rfl ?_
    refine r_A X 18 (by decide) rfl rfl (xdec_at tX5_paysFor_0 11 rfl) ?_
    refine v_iload_n X (xdec_at tX5_paysFor_0 12 rfl) rfl rfl ?_
    refine r_In (v := (μ.1 18 t)) X 18 (by decide) rfl rfl ht (xdec_at tX5_paysFor_0 13 rfl) rfl ?_
    refine v_iload_n X (xdec_at tX5_paysFor_0 14 rfl) rfl rfl ?_
    refine v_i2l X (xdec_at tX5_paysFor_0 15 rfl) rfl ?_
    refine v_callV X myX5_pays [.int a, .int (μ.1 18 t), .long (k).toInt64] [] (c_pays l Z B0 lay μ r a (μ.1 18 t) ha h18 ((k).toInt64)) (xw_at tW_20 24 rfl) (100, 0) cM_0 rfl rfl rfl rfl (by rfl) (Nat.le_of_ble_eq_true rfl) (xdec_at tX5_paysFor_0 16 rfl) ⟨(Nat.le_of_ble_eq_true rfl), (Nat.le_of_ble_eq_true rfl)⟩ ⟨(Nat.le_of_ble_eq_true rfl), (Nat.le_of_ble_eq_true rfl)⟩ ?_
    rintro v9 lay9 C9 ⟨rfl, rfl, rfl⟩
    refine v_iload_n X (xdec_at tX5_paysFor_0 17 rfl) rfl rfl ?_
    have e9 : M_paysFor μ t a k = (k, (M_pays μ (ix a) (ix (μ.1 18 t)) ((k).toInt64))) := by simp [M_paysFor, up2_at, c_7]
    exact v_iret X hr (xdec_at tX5_paysFor_0 18 rfl) (Nat.le_of_ble_eq_true rfl) (Nat.le_of_ble_eq_true rfl) ⟨rfl, by rw [e9], by rw [e9]⟩
  · refine v_iconst (v := 0) X (xdec_at tX5_paysFor_0 6 rfl) (by decide) ?_
    have e9 : M_paysFor μ t a k = (0, μ) := by simp [M_paysFor, up2_at, (eq_true c_7)]
    exact v_iret X hr (xdec_at tX5_paysFor_0 7 rfl) (Nat.le_of_ble_eq_true rfl) (Nat.le_of_ble_eq_true rfl) ⟨rfl, by rw [e9], by rw [e9]⟩
set_option maxRecDepth 100000 in
set_option maxHeartbeats 4000000 in
theorem c_claim (l : Launch) (Z : xZ) (B0 : Nat) (lay : xK → Nat) (μ : Mu) (r : xK → Option xE) (t : Int32) (hI : RI μ) : YM l yX5_claim cX5_claim 2 ((some FieldType.int)) 2 47 0 0 Z B0 [.ref (lay (100, 0)), .int t] lay (cM Z lay μ r) (fun v lay' C' => lay = lay' ∧ v = some (.int (M_claim μ t).1) ∧ C' = cM Z lay (M_claim μ t).2 r) := by
  refine YM_of myX5_claim.2.2 RX5 rfl [some (.ref (lay (100, 0))), some (.int t)] rfl (Nat.le_of_ble_eq_true rfl) ?_
  intro P1 P2 P3 P4 P5 P6 P7 P8 X hr hnm
  refine v_aload_n X (xdec_at tX5_claim_0 0 rfl) rfl rfl ?_
  refine v_aload_n X (xdec_at tX5_claim_0 1 rfl) rfl rfl ?_
  refine v_iload_n X (xdec_at tX5_claim_0 2 rfl) rfl rfl ?_
  refine v_callV X myX5_isThing [.int t] [.ref (lay (100, 0))] (c_isThing l Z B0 lay μ r t) (xw_at tW_20 0 rfl) (100, 0) cM_0 rfl rfl rfl rfl (by rfl) (Nat.le_of_ble_eq_true rfl) (xdec_at tX5_claim_0 3 rfl) ⟨(Nat.le_of_ble_eq_true rfl), (Nat.le_of_ble_eq_true rfl)⟩ ⟨(Nat.le_of_ble_eq_true rfl), (Nat.le_of_ble_eq_true rfl)⟩ ?_
  rintro v9 lay9 C9 ⟨rfl, rfl, ⟨rfl, q_3⟩ | ⟨rfl, q_3⟩⟩
  · refine v_callV X myX5_asks [.int 1] [] (c_asks1 l Z B0 lay μ r) (xw_at tW_17 31 rfl) (100, 0) cM_0 rfl rfl rfl rfl (by rfl) (Nat.le_of_ble_eq_true rfl) (xdec_at tX5_claim_0 4 rfl) ⟨(Nat.le_of_ble_eq_true rfl), (Nat.le_of_ble_eq_true rfl)⟩ ⟨(Nat.le_of_ble_eq_true rfl), (Nat.le_of_ble_eq_true rfl)⟩ ?_
    rintro v9 lay9 C9 ⟨rfl, rfl, rfl⟩
    refine v_if_ne (tgt := 14) X (xdec_at tX5_claim_0 5 rfl) (by decide) (fun _ => ?_) (fun h9 => absurd h9 (by decide))
    refine v_aload_n X (xdec_at tX5_claim_0 8 rfl) rfl rfl ?_
    refine r_A X 23 (by decide) rfl rfl (xdec_at tX5_claim_0 9 rfl) ?_
    refine v_iload_n X (xdec_at tX5_claim_0 10 rfl) rfl rfl ?_
    refine r_I (v := (μ.1 23 (ix t))) X 23 (by decide) rfl rfl (hI.T q_3) (xdec_at tX5_claim_0 11 rfl) rfl ?_
    refine v_iconst (v := 3) X (xdec_at tX5_claim_0 12 rfl) (by decide) ?_
    refine v_icmp_ne (tgt := 42) X (xdec_at tX5_claim_0 13 rfl) (by decide) (fun c_21 => ?_) (fun c_21 => ?_)
    · refine v_aload_n X (xdec_at tX5_claim_0 24 rfl) rfl rfl ?_
      refine v_iconst (v := 2) X (xdec_at tX5_claim_0 25 rfl) (by decide) ?_
      refine v_callV X myX5_fails [.int 2] [] (c_fails l Z B0 lay ((up2 μ.1 38 0 0), μ.2) r 2) (xw_at tW_18 11 rfl) (100, 0) cM_0 rfl rfl rfl rfl (by rfl) (Nat.le_of_ble_eq_true rfl) (xdec_at tX5_claim_0 26 rfl) ⟨(Nat.le_of_ble_eq_true rfl), (Nat.le_of_ble_eq_true rfl)⟩ ⟨(Nat.le_of_ble_eq_true rfl), (Nat.le_of_ble_eq_true rfl)⟩ ?_
      rintro v9 lay9 C9 ⟨rfl, rfl, rfl⟩
      have e9 : M_claim μ t = (0, ((up2 (up2 μ.1 38 0 0) 38 0 2), μ.2)) := by simp [M_claim, M_claimS, up2_at, (eq_true q_3), c_21]
      exact v_iret X hr (xdec_at tX5_claim_0 27 rfl) (Nat.le_of_ble_eq_true rfl) (Nat.le_of_ble_eq_true rfl) ⟨rfl, by rw [e9], by rw [e9]⟩
    · refine v_aload_n X (xdec_at tX5_claim_0 14 rfl) rfl rfl ?_
      refine r_A X 21 (by decide) rfl rfl (xdec_at tX5_claim_0 15 rfl) ?_
      refine v_iload_n X (xdec_at tX5_claim_0 16 rfl) rfl rfl ?_
      refine r_Z (v := (μ.1 21 (ix t))) X 21 (by decide) rfl rfl (hI.T q_3) (xdec_at tX5_claim_0 17 rfl) rfl ?_
      refine v_if_eq (tgt := 42) X (xdec_at tX5_claim_0 18 rfl) (by decide) (fun c_30 => ?_) (fun c_30 => ?_)
      · refine v_aload_n X (xdec_at tX5_claim_0 24 rfl) rfl rfl ?_
        refine v_iconst (v := 2) X (xdec_at tX5_claim_0 25 rfl) (by decide) ?_
        refine v_callV X myX5_fails [.int 2] [] (c_fails l Z B0 lay ((up2 μ.1 38 0 0), μ.2) r 2) (xw_at tW_18 11 rfl) (100, 0) cM_0 rfl rfl rfl rfl (by rfl) (Nat.le_of_ble_eq_true rfl) (xdec_at tX5_claim_0 26 rfl) ⟨(Nat.le_of_ble_eq_true rfl), (Nat.le_of_ble_eq_true rfl)⟩ ⟨(Nat.le_of_ble_eq_true rfl), (Nat.le_of_ble_eq_true rfl)⟩ ?_
        rintro v9 lay9 C9 ⟨rfl, rfl, rfl⟩
        have e9 : M_claim μ t = (0, ((up2 (up2 μ.1 38 0 0) 38 0 2), μ.2)) := by simp [M_claim, M_claimS, up2_at, (eq_true q_3), (eq_true c_21), (eq_true c_30)]
        exact v_iret X hr (xdec_at tX5_claim_0 27 rfl) (Nat.le_of_ble_eq_true rfl) (Nat.le_of_ble_eq_true rfl) ⟨rfl, by rw [e9], by rw [e9]⟩
      · refine v_aload_n X (xdec_at tX5_claim_0 19 rfl) rfl rfl ?_
        refine r_A X 29 (by decide) rfl rfl (xdec_at tX5_claim_0 20 rfl) ?_
        refine v_iload_n X (xdec_at tX5_claim_0 21 rfl) rfl rfl ?_
        refine r_Z (v := (μ.1 29 (ix t))) X 29 (by decide) rfl rfl (hI.T q_3) (xdec_at tX5_claim_0 22 rfl) rfl ?_
        refine v_if_eq (tgt := 48) X (xdec_at tX5_claim_0 23 rfl) (by decide) (fun c_39 => ?_) (fun c_39 => ?_)
        · refine v_aload_n X (xdec_at tX5_claim_0 28 rfl) rfl rfl ?_
          refine r_A X 29 (by decide) rfl rfl (xdec_at tX5_claim_0 29 rfl) ?_
          refine v_iload_n X (xdec_at tX5_claim_0 30 rfl) rfl rfl ?_
          refine v_iconst (v := 1) X (xdec_at tX5_claim_0 31 rfl) (by decide) ?_
          refine r_PZ X 29 (by decide) rfl rfl (Or.inr rfl) (hI.T q_3) (xdec_at tX5_claim_0 32 rfl) ?_
          refine v_aload_n X (xdec_at tX5_claim_0 33 rfl) rfl rfl ?_
          refine r_A X 8 (by decide) rfl rfl (xdec_at tX5_claim_0 34 rfl) ?_
          refine v_aload_n X (xdec_at tX5_claim_0 35 rfl) rfl rfl ?_
          refine r_A X 18 (by decide) rfl rfl (xdec_at tX5_claim_0 36 rfl) ?_
          refine v_iload_n X (xdec_at tX5_claim_0 37 rfl) rfl rfl ?_
          refine r_I (v := (μ.1 18 (ix t))) X 18 (by decide) rfl rfl (hI.T q_3) (xdec_at tX5_claim_0 38 rfl) rfl ?_
          refine v_dup2_11 X (xdec_at tX5_claim_0 39 rfl) rfl rfl ?_
          refine r_L (v := (μ.2 8 (ix (μ.1 18 (ix t))))) X 8 (by decide) rfl rfl (hI.or (in_ix (hI.T q_3))) (xdec_at tX5_claim_1 0 rfl) rfl ?_
          refine v_ldc2 (v := 4000) X (xw_at tW_20 38 rfl) (xdec_at tX5_claim_1 1 rfl) ?_
          refine v_lsub X (xdec_at tX5_claim_1 2 rfl) ?_
          refine r_PL X 8 (by decide) rfl rfl (hI.or (in_ix (hI.T q_3))) (xdec_at tX5_claim_1 3 rfl) ?_
          refine v_aload_n X (xdec_at tX5_claim_1 4 rfl) rfl rfl ?_
          refine r_A X 25 (by decide) rfl rfl (xdec_at tX5_claim_1 5 rfl) ?_
          refine v_iload_n X (xdec_at tX5_claim_1 6 rfl) rfl rfl ?_
          refine r_I (v := (μ.1 25 (ix t))) X 25 (by decide) rfl rfl (hI.T q_3) (xdec_at tX5_claim_1 7 rfl) rfl ?_
          refine v_iconst (v := (-1)) X (xdec_at tX5_claim_1 8 rfl) (by decide) ?_
          refine v_icmp_ne (tgt := 97) X (xdec_at tX5_claim_1 9 rfl) (by decide) (fun c_79 => ?_) (fun c_79 => ?_)
          · refine v_aload_n X (xdec_at tX5_claim_1 19 rfl) rfl rfl ?_
            refine v_iload_n X (xdec_at tX5_claim_1 20 rfl) rfl rfl ?_
            refine v_aload_n X (xdec_at tX5_claim_1 21 rfl) rfl rfl ?_
            refine r_A X 11 (by decide) rfl rfl (xdec_at tX5_claim_1 22 rfl) ?_
            refine v_aload_n X (xdec_at tX5_claim_1 23 rfl) rfl rfl ?_
            refine r_A X 25 (by decide) rfl rfl (xdec_at tX5_claim_1 24 rfl) ?_
            refine v_iload_n X (xdec_at tX5_claim_1 25 rfl) rfl rfl ?_
            refine r_I (v := (μ.1 25 (ix t))) X 25 (by decide) rfl rfl (hI.T q_3) (xdec_at tX5_claim_1 26 rfl) rfl ?_
            refine r_I (v := (μ.1 11 (ix (μ.1 25 (ix t))))) X 11 (by decide) rfl rfl ((hI.on (in_ix (hI.T q_3))).resolve_left c_79) (xdec_at tX5_claim_1 27 rfl) rfl ?_
            refine v_sipush (v := 2000) X (xdec_at tX5_claim_1 28 rfl) (by decide) ?_
            refine v_st (st' := [.int 2000, .int (μ.1 11 (ix (μ.1 25 (ix t)))), .int (nI (ix t)), .ref (lay (100, 0))]) (by rw [in_eq (hI.T q_3) (by decide)] <;> rfl) ?_
            refine v_callV X myX5_paysFor [.int (nI (ix t)), .int (μ.1 11 (ix (μ.1 25 (ix t)))), .int 2000] [] (c_paysFor l Z B0 lay ((up2 (up2 μ.1 38 0 0) 29 (ix t) 1), (up2 μ.2 8 (ix (μ.1 18 (ix t))) ((μ.2 8 (ix (μ.1 18 (ix t)))) - 4000))) r (ix t) (in_ix (hI.T q_3)) (μ.1 11 (ix (μ.1 25 (ix t)))) (hI.o1 (in_ix ((hI.on (in_ix (hI.T q_3))).resolve_left c_79))) (hI.or (in_ix (hI.T q_3))) 2000) (xw_at tW_20 39 rfl) (100, 0) cM_0 rfl rfl rfl rfl (by rfl) (Nat.le_of_ble_eq_true rfl) (xdec_at tX5_claim_1 29 rfl) ⟨(Nat.le_of_ble_eq_true rfl), (Nat.le_of_ble_eq_true rfl)⟩ ⟨(Nat.le_of_ble_eq_true rfl), (Nat.le_of_ble_eq_true rfl)⟩ ?_
            rintro v9 lay9 C9 ⟨rfl, rfl, rfl⟩
            have e1 : (M_paysFor ((up2 (up2 μ.1 38 0 0) 29 (ix t) 1), (up2 μ.2 8 (ix (μ.1 18 (ix t))) ((μ.2 8 (ix (μ.1 18 (ix t)))) - 4000))) (ix t) (μ.1 11 (ix (μ.1 25 (ix t)))) 2000).2.1 = (up2 (up2 μ.1 38 0 0) 29 (ix t) 1) := M_paysFor_1 _ _ _ _
            have hon2 : vp_in ((M_paysFor ((up2 (up2 μ.1 38 0 0) 29 (ix t) 1), (up2 μ.2 8 (ix (μ.1 18 (ix t))) ((μ.2 8 (ix (μ.1 18 (ix t)))) - 4000))) (ix t) (μ.1 11 (ix (μ.1 25 (ix t)))) 2000).2.1 25 (ix t)) 20 := by rw [e1]; exact (hI.on (in_ix (hI.T q_3))).resolve_left c_79
            have ho2 : vp_in ((M_paysFor ((up2 (up2 μ.1 38 0 0) 29 (ix t) 1), (up2 μ.2 8 (ix (μ.1 18 (ix t))) ((μ.2 8 (ix (μ.1 18 (ix t)))) - 4000))) (ix t) (μ.1 11 (ix (μ.1 25 (ix t)))) 2000).2.1 12 (ix ((M_paysFor ((up2 (up2 μ.1 38 0 0) 29 (ix t) 1), (up2 μ.2 8 (ix (μ.1 18 (ix t))) ((μ.2 8 (ix (μ.1 18 (ix t)))) - 4000))) (ix t) (μ.1 11 (ix (μ.1 25 (ix t)))) 2000).2.1 25 (ix t)))) 8 := by rw [e1]; exact hI.o2 (in_ix ((hI.on (in_ix (hI.T q_3))).resolve_left c_79))
            have h18b : vp_in ((M_paysFor ((up2 (up2 μ.1 38 0 0) 29 (ix t) 1), (up2 μ.2 8 (ix (μ.1 18 (ix t))) ((μ.2 8 (ix (μ.1 18 (ix t)))) - 4000))) (ix t) (μ.1 11 (ix (μ.1 25 (ix t)))) 2000).2.1 18 (ix t)) 8 := by rw [e1]; exact hI.or (in_ix (hI.T q_3))
            refine v_aload_n X (xdec_at tX5_claim_1 30 rfl) rfl rfl ?_
            refine v_iload_n X (xdec_at tX5_claim_1 31 rfl) rfl rfl ?_
            refine v_aload_n X (xdec_at tX5_claim_1 32 rfl) rfl rfl ?_
            refine r_A X 12 (by decide) rfl rfl (xdec_at tX5_claim_1 33 rfl) ?_
            refine v_aload_n X (xdec_at tX5_claim_1 34 rfl) rfl rfl ?_
            refine r_A X 25 (by decide) rfl rfl (xdec_at tX5_claim_1 35 rfl) ?_
            refine v_iload_n X (xdec_at tX5_claim_1 36 rfl) rfl rfl ?_
            refine r_I (v := ((M_paysFor ((up2 (up2 μ.1 38 0 0) 29 (ix t) 1), (up2 μ.2 8 (ix (μ.1 18 (ix t))) ((μ.2 8 (ix (μ.1 18 (ix t)))) - 4000))) (ix t) (μ.1 11 (ix (μ.1 25 (ix t)))) 2000).2.1 25 (ix t))) X 25 (by decide) rfl rfl (hI.T q_3) (xdec_at tX5_claim_1 37 rfl) rfl ?_
            refine r_I (v := ((M_paysFor ((up2 (up2 μ.1 38 0 0) 29 (ix t) 1), (up2 μ.2 8 (ix (μ.1 18 (ix t))) ((μ.2 8 (ix (μ.1 18 (ix t)))) - 4000))) (ix t) (μ.1 11 (ix (μ.1 25 (ix t)))) 2000).2.1 12 (ix ((M_paysFor ((up2 (up2 μ.1 38 0 0) 29 (ix t) 1), (up2 μ.2 8 (ix (μ.1 18 (ix t))) ((μ.2 8 (ix (μ.1 18 (ix t)))) - 4000))) (ix t) (μ.1 11 (ix (μ.1 25 (ix t)))) 2000).2.1 25 (ix t))))) X 12 (by decide) rfl rfl hon2 (xdec_at tX5_claim_1 38 rfl) rfl ?_
            refine v_sipush (v := 2000) X (xdec_at tX5_claim_1 39 rfl) (by decide) ?_
            refine v_st (st' := [.int 2000, .int ((M_paysFor ((up2 (up2 μ.1 38 0 0) 29 (ix t) 1), (up2 μ.2 8 (ix (μ.1 18 (ix t))) ((μ.2 8 (ix (μ.1 18 (ix t)))) - 4000))) (ix t) (μ.1 11 (ix (μ.1 25 (ix t)))) 2000).2.1 12 (ix ((M_paysFor ((up2 (up2 μ.1 38 0 0) 29 (ix t) 1), (up2 μ.2 8 (ix (μ.1 18 (ix t))) ((μ.2 8 (ix (μ.1 18 (ix t)))) - 4000))) (ix t) (μ.1 11 (ix (μ.1 25 (ix t)))) 2000).2.1 25 (ix t)))), .int (nI (ix t)), .ref (lay (100, 0)), .int (M_paysFor ((up2 (up2 μ.1 38 0 0) 29 (ix t) 1), (up2 μ.2 8 (ix (μ.1 18 (ix t))) ((μ.2 8 (ix (μ.1 18 (ix t)))) - 4000))) (ix t) (μ.1 11 (ix (μ.1 25 (ix t)))) 2000).1]) (by rw [in_eq (hI.T q_3) (by decide)] <;> rfl) ?_
            refine v_callV X myX5_paysFor [.int (nI (ix t)), .int ((M_paysFor ((up2 (up2 μ.1 38 0 0) 29 (ix t) 1), (up2 μ.2 8 (ix (μ.1 18 (ix t))) ((μ.2 8 (ix (μ.1 18 (ix t)))) - 4000))) (ix t) (μ.1 11 (ix (μ.1 25 (ix t)))) 2000).2.1 12 (ix ((M_paysFor ((up2 (up2 μ.1 38 0 0) 29 (ix t) 1), (up2 μ.2 8 (ix (μ.1 18 (ix t))) ((μ.2 8 (ix (μ.1 18 (ix t)))) - 4000))) (ix t) (μ.1 11 (ix (μ.1 25 (ix t)))) 2000).2.1 25 (ix t)))), .int 2000] [.int (M_paysFor ((up2 (up2 μ.1 38 0 0) 29 (ix t) 1), (up2 μ.2 8 (ix (μ.1 18 (ix t))) ((μ.2 8 (ix (μ.1 18 (ix t)))) - 4000))) (ix t) (μ.1 11 (ix (μ.1 25 (ix t)))) 2000).1] (c_paysFor l Z B0 lay (M_paysFor ((up2 (up2 μ.1 38 0 0) 29 (ix t) 1), (up2 μ.2 8 (ix (μ.1 18 (ix t))) ((μ.2 8 (ix (μ.1 18 (ix t)))) - 4000))) (ix t) (μ.1 11 (ix (μ.1 25 (ix t)))) 2000).2 r (ix t) (in_ix (hI.T q_3)) ((M_paysFor ((up2 (up2 μ.1 38 0 0) 29 (ix t) 1), (up2 μ.2 8 (ix (μ.1 18 (ix t))) ((μ.2 8 (ix (μ.1 18 (ix t)))) - 4000))) (ix t) (μ.1 11 (ix (μ.1 25 (ix t)))) 2000).2.1 12 (ix ((M_paysFor ((up2 (up2 μ.1 38 0 0) 29 (ix t) 1), (up2 μ.2 8 (ix (μ.1 18 (ix t))) ((μ.2 8 (ix (μ.1 18 (ix t)))) - 4000))) (ix t) (μ.1 11 (ix (μ.1 25 (ix t)))) 2000).2.1 25 (ix t)))) ho2 h18b 2000) (xw_at tW_20 39 rfl) (100, 0) cM_0 rfl rfl rfl rfl (by rfl) (Nat.le_of_ble_eq_true rfl) (xdec_at tX5_claim_2 0 rfl) ⟨(Nat.le_of_ble_eq_true rfl), (Nat.le_of_ble_eq_true rfl)⟩ ⟨(Nat.le_of_ble_eq_true rfl), (Nat.le_of_ble_eq_true rfl)⟩ ?_
            rintro v9 lay9 C9 ⟨rfl, rfl, rfl⟩
            refine v_iadd X (xdec_at tX5_claim_2 1 rfl) ?_
            have e9 : M_claim μ t = (((M_paysFor ((up2 (up2 μ.1 38 0 0) 29 (ix t) 1), (up2 μ.2 8 (ix (μ.1 18 (ix t))) ((μ.2 8 (ix (μ.1 18 (ix t)))) - 4000))) (ix t) (μ.1 11 (ix (μ.1 25 (ix t)))) 2000).1 + (M_paysFor (M_paysFor ((up2 (up2 μ.1 38 0 0) 29 (ix t) 1), (up2 μ.2 8 (ix (μ.1 18 (ix t))) ((μ.2 8 (ix (μ.1 18 (ix t)))) - 4000))) (ix t) (μ.1 11 (ix (μ.1 25 (ix t)))) 2000).2 (ix t) ((M_paysFor ((up2 (up2 μ.1 38 0 0) 29 (ix t) 1), (up2 μ.2 8 (ix (μ.1 18 (ix t))) ((μ.2 8 (ix (μ.1 18 (ix t)))) - 4000))) (ix t) (μ.1 11 (ix (μ.1 25 (ix t)))) 2000).2.1 12 (ix ((M_paysFor ((up2 (up2 μ.1 38 0 0) 29 (ix t) 1), (up2 μ.2 8 (ix (μ.1 18 (ix t))) ((μ.2 8 (ix (μ.1 18 (ix t)))) - 4000))) (ix t) (μ.1 11 (ix (μ.1 25 (ix t)))) 2000).2.1 25 (ix t)))) 2000).1), (M_paysFor (M_paysFor ((up2 (up2 μ.1 38 0 0) 29 (ix t) 1), (up2 μ.2 8 (ix (μ.1 18 (ix t))) ((μ.2 8 (ix (μ.1 18 (ix t)))) - 4000))) (ix t) (μ.1 11 (ix (μ.1 25 (ix t)))) 2000).2 (ix t) ((M_paysFor ((up2 (up2 μ.1 38 0 0) 29 (ix t) 1), (up2 μ.2 8 (ix (μ.1 18 (ix t))) ((μ.2 8 (ix (μ.1 18 (ix t)))) - 4000))) (ix t) (μ.1 11 (ix (μ.1 25 (ix t)))) 2000).2.1 12 (ix ((M_paysFor ((up2 (up2 μ.1 38 0 0) 29 (ix t) 1), (up2 μ.2 8 (ix (μ.1 18 (ix t))) ((μ.2 8 (ix (μ.1 18 (ix t)))) - 4000))) (ix t) (μ.1 11 (ix (μ.1 25 (ix t)))) 2000).2.1 25 (ix t)))) 2000).2) := by simp [M_claim, M_claimS, up2_at, (eq_true q_3), (eq_true c_21), c_30, (eq_true c_39), c_79]
            exact v_iret X hr (xdec_at tX5_claim_2 2 rfl) (Nat.le_of_ble_eq_true rfl) (Nat.le_of_ble_eq_true rfl) ⟨rfl, by rw [e9], by rw [e9]⟩
          · refine v_aload_n X (xdec_at tX5_claim_1 10 rfl) rfl rfl ?_
            refine v_iload_n X (xdec_at tX5_claim_1 11 rfl) rfl rfl ?_
            refine v_aload_n X (xdec_at tX5_claim_1 12 rfl) rfl rfl ?_
            refine r_A X 24 (by decide) rfl rfl (xdec_at tX5_claim_1 13 rfl) ?_
            refine v_iload_n X (xdec_at tX5_claim_1 14 rfl) rfl rfl ?_
            refine r_I (v := (μ.1 24 (ix t))) X 24 (by decide) rfl rfl (hI.T q_3) (xdec_at tX5_claim_1 15 rfl) rfl ?_
            refine v_sipush (v := 4000) X (xdec_at tX5_claim_1 16 rfl) (by decide) ?_
            refine v_st (st' := [.int 4000, .int (μ.1 24 (ix t)), .int (nI (ix t)), .ref (lay (100, 0))]) (by rw [in_eq (hI.T q_3) (by decide)] <;> rfl) ?_
            refine v_callV X myX5_paysFor [.int (nI (ix t)), .int (μ.1 24 (ix t)), .int 4000] [] (c_paysFor l Z B0 lay ((up2 (up2 μ.1 38 0 0) 29 (ix t) 1), (up2 μ.2 8 (ix (μ.1 18 (ix t))) ((μ.2 8 (ix (μ.1 18 (ix t)))) - 4000))) r (ix t) (in_ix (hI.T q_3)) (μ.1 24 (ix t)) (hI.at (in_ix (hI.T q_3))) (hI.or (in_ix (hI.T q_3))) 4000) (xw_at tW_20 39 rfl) (100, 0) cM_0 rfl rfl rfl rfl (by rfl) (Nat.le_of_ble_eq_true rfl) (xdec_at tX5_claim_1 17 rfl) ⟨(Nat.le_of_ble_eq_true rfl), (Nat.le_of_ble_eq_true rfl)⟩ ⟨(Nat.le_of_ble_eq_true rfl), (Nat.le_of_ble_eq_true rfl)⟩ ?_
            rintro v9 lay9 C9 ⟨rfl, rfl, rfl⟩
            have e1 : (M_paysFor ((up2 (up2 μ.1 38 0 0) 29 (ix t) 1), (up2 μ.2 8 (ix (μ.1 18 (ix t))) ((μ.2 8 (ix (μ.1 18 (ix t)))) - 4000))) (ix t) (μ.1 24 (ix t)) 4000).2.1 = (up2 (up2 μ.1 38 0 0) 29 (ix t) 1) := M_paysFor_1 _ _ _ _
            have e9 : M_claim μ t = ((M_paysFor ((up2 (up2 μ.1 38 0 0) 29 (ix t) 1), (up2 μ.2 8 (ix (μ.1 18 (ix t))) ((μ.2 8 (ix (μ.1 18 (ix t)))) - 4000))) (ix t) (μ.1 24 (ix t)) 4000).1, (M_paysFor ((up2 (up2 μ.1 38 0 0) 29 (ix t) 1), (up2 μ.2 8 (ix (μ.1 18 (ix t))) ((μ.2 8 (ix (μ.1 18 (ix t)))) - 4000))) (ix t) (μ.1 24 (ix t)) 4000).2) := by simp [M_claim, M_claimS, up2_at, (eq_true q_3), (eq_true c_21), c_30, (eq_true c_39), (eq_true c_79)]
            exact v_iret X hr (xdec_at tX5_claim_1 18 rfl) (Nat.le_of_ble_eq_true rfl) (Nat.le_of_ble_eq_true rfl) ⟨rfl, by rw [e9], by rw [e9]⟩
        · refine v_aload_n X (xdec_at tX5_claim_0 24 rfl) rfl rfl ?_
          refine v_iconst (v := 2) X (xdec_at tX5_claim_0 25 rfl) (by decide) ?_
          refine v_callV X myX5_fails [.int 2] [] (c_fails l Z B0 lay ((up2 μ.1 38 0 0), μ.2) r 2) (xw_at tW_18 11 rfl) (100, 0) cM_0 rfl rfl rfl rfl (by rfl) (Nat.le_of_ble_eq_true rfl) (xdec_at tX5_claim_0 26 rfl) ⟨(Nat.le_of_ble_eq_true rfl), (Nat.le_of_ble_eq_true rfl)⟩ ⟨(Nat.le_of_ble_eq_true rfl), (Nat.le_of_ble_eq_true rfl)⟩ ?_
          rintro v9 lay9 C9 ⟨rfl, rfl, rfl⟩
          have e9 : M_claim μ t = (0, ((up2 (up2 μ.1 38 0 0) 38 0 2), μ.2)) := by simp [M_claim, M_claimS, up2_at, (eq_true q_3), (eq_true c_21), c_30, c_39]
          exact v_iret X hr (xdec_at tX5_claim_0 27 rfl) (Nat.le_of_ble_eq_true rfl) (Nat.le_of_ble_eq_true rfl) ⟨rfl, by rw [e9], by rw [e9]⟩
  · refine v_callV X myX5_asks [.int 0] [] (c_asks0 l Z B0 lay μ r) (xw_at tW_17 31 rfl) (100, 0) cM_0 rfl rfl rfl rfl (by rfl) (Nat.le_of_ble_eq_true rfl) (xdec_at tX5_claim_0 4 rfl) ⟨(Nat.le_of_ble_eq_true rfl), (Nat.le_of_ble_eq_true rfl)⟩ ⟨(Nat.le_of_ble_eq_true rfl), (Nat.le_of_ble_eq_true rfl)⟩ ?_
    rintro v9 lay9 C9 ⟨rfl, rfl, rfl⟩
    refine v_if_ne (tgt := 14) X (xdec_at tX5_claim_0 5 rfl) (by decide) (fun h9 => absurd h9 (by decide)) (fun _ => ?_)
    refine v_iconst (v := 0) X (xdec_at tX5_claim_0 6 rfl) (by decide) ?_
    have e9 : M_claim μ t = (0, ((up2 μ.1 38 0 1), μ.2)) := by simp [M_claim, M_claimS, up2_at, q_3]
    exact v_iret X hr (xdec_at tX5_claim_0 7 rfl) (Nat.le_of_ble_eq_true rfl) (Nat.le_of_ble_eq_true rfl) ⟨rfl, by rw [e9], by rw [e9]⟩
set_option maxRecDepth 100000 in
set_option maxHeartbeats 4000000 in
theorem c_settle (l : Launch) (Z : xZ) (B0 : Nat) (lay : xK → Nat) (μ : Mu) (r : xK → Option xE) (f : Int32) : YM l yX5_settle cX5_settle 7 ((some FieldType.long)) 1 24 0 0 Z B0 [.ref (lay (100, 0)), .int f] lay (cM Z lay μ r) (fun v lay' C' => lay = lay' ∧ v = some (.long (M_settle μ f).1) ∧ C' = cM Z lay (M_settle μ f).2 r) := by
  refine YM_of myX5_settle.2.2 RX5 rfl [some (.ref (lay (100, 0))), some (.int f), none, none, none, none, none] rfl (Nat.le_of_ble_eq_true rfl) ?_
  intro P1 P2 P3 P4 P5 P6 P7 P8 X hr hnm
  refine v_aload_n X (xdec_at tX5_settle_0 0 rfl) rfl rfl ?_
  refine v_iload_n X (xdec_at tX5_settle_0 1 rfl) rfl rfl ?_
  refine v_iconst (v := 1) X (xdec_at tX5_settle_0 2 rfl) (by decide) ?_
  refine v_sipush (v := 1000) X (xdec_at tX5_settle_0 3 rfl) (by decide) ?_
  refine v_callS X myX5_in [.int f, .int 1, .int 1000] [.ref (lay (100, 0))] (c_in l Z B0 lay (cM Z lay μ r) f 1 1000) (xw_at tW_18 1 rfl) rfl rfl (by rfl) (Nat.le_of_ble_eq_true rfl) (xdec_at tX5_settle_0 4 rfl) ⟨(Nat.le_of_ble_eq_true rfl), (Nat.le_of_ble_eq_true rfl)⟩ ⟨(Nat.le_of_ble_eq_true rfl), (Nat.le_of_ble_eq_true rfl)⟩ ?_
  rintro v9 lay9 C9 ⟨rfl, rfl, ⟨rfl, q_6⟩ | ⟨rfl, q_6⟩⟩
  · refine v_callV X myX5_asks [.int 1] [] (c_asks1 l Z B0 lay μ r) (xw_at tW_17 31 rfl) (100, 0) cM_0 rfl rfl rfl rfl (by rfl) (Nat.le_of_ble_eq_true rfl) (xdec_at tX5_settle_0 5 rfl) ⟨(Nat.le_of_ble_eq_true rfl), (Nat.le_of_ble_eq_true rfl)⟩ ⟨(Nat.le_of_ble_eq_true rfl), (Nat.le_of_ble_eq_true rfl)⟩ ?_
    rintro v9 lay9 C9 ⟨rfl, rfl, rfl⟩
    refine v_if_ne (tgt := 17) X (xdec_at tX5_settle_0 6 rfl) (by decide) (fun _ => ?_) (fun h9 => absurd h9 (by decide))
    refine v_lconst (v := 0) X (xdec_at tX5_settle_0 9 rfl) (by decide) ?_
    refine v_lstore_n (lv' := [some (.ref (lay (100, 0))), some (.int f), some (.long 0), none, none, none, none]) X (xdec_at tX5_settle_0 10 rfl) rfl (by decide) rfl ?_
    refine v_iconst (v := 0) X (xdec_at tX5_settle_0 11 rfl) (by decide) ?_
    refine v_istore (lv' := [some (.ref (lay (100, 0))), some (.int f), some (.long 0), none, some (.int 0), none, none]) X (xdec_at tX5_settle_0 12 rfl) (by decide) rfl ?_
    refine v_for 64 (fun j9 => cM Z lay (M_st1 f j9 (0, th μ 0)).2 r) (fun j9 => [some (.ref (lay (100, 0))), some (.int f), some (.long (M_st1 f j9 (0, th μ 0)).1), none, some (.int (nI j9)), none, none]) 22 [] (fun i1 hi1 ih1 => ?_) ?_
    · obtain ⟨q, hq⟩ : ∃ q, q = M_st1 f i1 (0, th μ 0) := ⟨_, rfl⟩
      refine v_mu (μ' := q.2) (by rw [hq]) ?_
      refine v_le (lv' := [some (.ref (lay (100, 0))), some (.int f), some (.long q.1), none, some (.int (nI i1)), none, none]) (by simp [xle, hq]) ?_
      refine v_iload X (xdec_at tX5_settle_0 13 rfl) rfl ?_
      refine v_bipush (v := 64) X (xdec_at tX5_settle_0 14 rfl) (by decide) ?_
      refine v_icmp_ge (tgt := 76) X (xdec_at tX5_settle_0 15 rfl) (by decide) (fun c_26 => ?_) (fun c_26 => ?_)
      · exact absurd c_26 (nI_ge (b := 64) hi1 (by decide))
      · refine v_aload_n X (xdec_at tX5_settle_0 16 rfl) rfl rfl ?_
        refine r_A X 9 (by decide) rfl rfl (xdec_at tX5_settle_0 17 rfl) ?_
        refine v_iload X (xdec_at tX5_settle_0 18 rfl) rfl ?_
        refine r_Ln (v := (q.2.2 9 i1)) X 9 (by decide) rfl rfl hi1 (xdec_at tX5_settle_0 19 rfl) rfl ?_
        refine v_iload_n X (xdec_at tX5_settle_0 20 rfl) rfl rfl ?_
        refine v_i2l X (xdec_at tX5_settle_0 21 rfl) rfl ?_
        refine v_lmul X (xdec_at tX5_settle_0 22 rfl) ?_
        refine v_lstore (lv' := [some (.ref (lay (100, 0))), some (.int f), some (.long q.1), none, some (.int (nI i1)), some (.long ((q.2.2 9 i1) * (f).toInt64)), none]) X (xdec_at tX5_settle_0 23 rfl) (by decide) rfl ?_
        refine v_aload_n X (xdec_at tX5_settle_0 24 rfl) rfl rfl ?_
        refine v_iload X (xdec_at tX5_settle_0 25 rfl) rfl ?_
        refine v_bipush (v := 8) X (xdec_at tX5_settle_0 26 rfl) (by decide) ?_
        refine v_idiv X (xdec_at tX5_settle_0 27 rfl) (by decide) ?_
        refine v_iload X (xdec_at tX5_settle_0 28 rfl) rfl ?_
        refine v_bipush (v := 8) X (xdec_at tX5_settle_0 29 rfl) (by decide) ?_
        refine v_irem X (xdec_at tX5_settle_0 30 rfl) (by decide) ?_
        refine v_lload X (xdec_at tX5_settle_0 31 rfl) rfl ?_
        refine v_st (st' := [.long ((q.2.2 9 i1) * (f).toInt64), .int (nI (i1 % 8)), .int (nI (i1 / 8)), .ref (lay (100, 0))]) (by rw [r8 hi1, d8 hi1] <;> rfl) ?_
        refine v_callV X myX5_pays [.int (nI (i1 / 8)), .int (nI (i1 % 8)), .long ((q.2.2 9 i1) * (f).toInt64)] [] (c_pays l Z B0 lay q.2 r (nI (i1 / 8)) (nI (i1 % 8)) (vp_in_nI (by omega) (by decide)) (vp_in_nI (by omega) (by decide)) ((q.2.2 9 i1) * (f).toInt64)) (xw_at tW_20 24 rfl) (100, 0) cM_0 rfl rfl rfl rfl (by rfl) (Nat.le_of_ble_eq_true rfl) (xdec_at tX5_settle_0 32 rfl) ⟨(Nat.le_of_ble_eq_true rfl), (Nat.le_of_ble_eq_true rfl)⟩ ⟨(Nat.le_of_ble_eq_true rfl), (Nat.le_of_ble_eq_true rfl)⟩ ?_
        rw [ix_nI (show i1 / 8 < 2 ^ 31 by omega), ix_nI (show i1 % 8 < 2 ^ 31 by omega)]
        rintro v9 lay9 C9 ⟨rfl, rfl, rfl⟩
        refine v_lload_n X (xdec_at tX5_settle_0 33 rfl) rfl rfl ?_
        refine v_lload X (xdec_at tX5_settle_0 34 rfl) rfl ?_
        refine v_ladd X (xdec_at tX5_settle_0 35 rfl) ?_
        refine v_lstore_n (lv' := [some (.ref (lay (100, 0))), some (.int f), some (.long (q.1 + ((q.2.2 9 i1) * (f).toInt64))), none, some (.int (nI i1)), some (.long ((q.2.2 9 i1) * (f).toInt64)), none]) X (xdec_at tX5_settle_0 36 rfl) rfl (by decide) rfl ?_
        refine v_aload_n X (xdec_at tX5_settle_0 37 rfl) rfl rfl ?_
        refine r_A X 9 (by decide) rfl rfl (xdec_at tX5_settle_0 38 rfl) ?_
        refine v_iload X (xdec_at tX5_settle_0 39 rfl) rfl ?_
        refine v_lconst (v := 0) X (xdec_at tX5_settle_1 0 rfl) (by decide) ?_
        refine r_PLn X 9 (by decide) rfl rfl hi1 (xdec_at tX5_settle_1 1 rfl) ?_
        refine v_iinc (v := (nI (i1 + 1))) (lv' := [some (.ref (lay (100, 0))), some (.int f), some (.long (q.1 + ((q.2.2 9 i1) * (f).toInt64))), none, some (.int (nI (i1 + 1))), some (.long ((q.2.2 9 i1) * (f).toInt64)), none]) X (xdec_at tX5_settle_1 2 rfl) rfl (nI_1 _) (by decide) rfl ?_
        refine v_goto (tgt := 22) X (xdec_at tX5_settle_1 3 rfl) (by decide) ?_
        refine v_le (lv' := [some (.ref (lay (100, 0))), some (.int f), some (.long (M_st1 f (i1 + 1) (0, th μ 0)).1), none, some (.int (nI (i1 + 1))), none, none]) (by simp [xle, M_st1, ← hq]) ?_
        exact v_mu (μ' := (M_st1 f (i1 + 1) (0, th μ 0)).2) (by rw [M_st1]; simp only [← hq]) ih1
    · refine v_iload X (xdec_at tX5_settle_0 13 rfl) rfl ?_
      refine v_bipush (v := 64) X (xdec_at tX5_settle_0 14 rfl) (by decide) ?_
      refine v_icmp_ge (tgt := 76) X (xdec_at tX5_settle_0 15 rfl) (by decide) (fun c_26 => ?_) (fun c_26 => ?_)
      · refine v_lload_n X (xdec_at tX5_settle_1 4 rfl) rfl rfl ?_
        have e9 : M_settle μ f = M_st1 f 64 (0, th μ 0) := by rw [M_settle, if_pos q_6]
        exact v_lret X hr (xdec_at tX5_settle_1 5 rfl) (Nat.le_of_ble_eq_true rfl) (Nat.le_of_ble_eq_true rfl) ⟨rfl, by rw [e9], by rw [e9]⟩
      · exact absurd (show (64 : Int32) ≤ nI 64 by decide) c_26
  · refine v_callV X myX5_asks [.int 0] [] (c_asks0 l Z B0 lay μ r) (xw_at tW_17 31 rfl) (100, 0) cM_0 rfl rfl rfl rfl (by rfl) (Nat.le_of_ble_eq_true rfl) (xdec_at tX5_settle_0 5 rfl) ⟨(Nat.le_of_ble_eq_true rfl), (Nat.le_of_ble_eq_true rfl)⟩ ⟨(Nat.le_of_ble_eq_true rfl), (Nat.le_of_ble_eq_true rfl)⟩ ?_
    rintro v9 lay9 C9 ⟨rfl, rfl, rfl⟩
    refine v_if_ne (tgt := 17) X (xdec_at tX5_settle_0 6 rfl) (by decide) (fun h9 => absurd h9 (by decide)) (fun _ => ?_)
    refine v_lconst (v := 0) X (xdec_at tX5_settle_0 7 rfl) (by decide) ?_
    have e9 : M_settle μ f = (0, ((up2 μ.1 38 0 1), μ.2)) := by simp [M_settle, q_6]
    exact v_lret X hr (xdec_at tX5_settle_0 8 rfl) (Nat.le_of_ble_eq_true rfl) (Nat.le_of_ble_eq_true rfl) ⟨rfl, by rw [e9], by rw [e9]⟩
set_option maxRecDepth 100000 in
set_option maxHeartbeats 4000000 in
theorem c_hand (l : Launch) (Z : xZ) (B0 : Nat) (lay : xK → Nat) (μ : Mu) (r : xK → Option xE) (t n : Int32) (hI : RI μ) (hch : ∀ j : Nat, (j : Int) < (μ.1 35 (ix t)).toInt → vp_in (M_hd μ.1 (μ.1 33 (ix t)) j) 80000) : YM l yX5_hand cX5_hand 5 ((some FieldType.int)) 2 43 0 0 Z B0 [.ref (lay (100, 0)), .int t, .int n] lay (cM Z lay μ r) (fun v lay' C' => lay = lay' ∧ v = some (.int (M_hand μ t n).1) ∧ C' = cM Z lay (M_hand μ t n).2 r) := by
  refine YM_of myX5_hand.2.2 RX5 rfl [some (.ref (lay (100, 0))), some (.int t), some (.int n), none, none] rfl (Nat.le_of_ble_eq_true rfl) ?_
  intro P1 P2 P3 P4 P5 P6 P7 P8 X hr hnm
  refine v_aload_n X (xdec_at tX5_hand_0 0 rfl) rfl rfl ?_
  refine v_aload_n X (xdec_at tX5_hand_0 1 rfl) rfl rfl ?_
  refine v_iload_n X (xdec_at tX5_hand_0 2 rfl) rfl rfl ?_
  refine v_callV X myX5_isThing [.int t] [.ref (lay (100, 0))] (c_isThing l Z B0 lay μ r t) (xw_at tW_20 0 rfl) (100, 0) cM_0 rfl rfl rfl rfl (by rfl) (Nat.le_of_ble_eq_true rfl) (xdec_at tX5_hand_0 3 rfl) ⟨(Nat.le_of_ble_eq_true rfl), (Nat.le_of_ble_eq_true rfl)⟩ ⟨(Nat.le_of_ble_eq_true rfl), (Nat.le_of_ble_eq_true rfl)⟩ ?_
  rintro v9 lay9 C9 ⟨rfl, rfl, ⟨rfl, q_3⟩ | ⟨rfl, q_3⟩⟩
  · refine v_if_eq (tgt := 27) X (xdec_at tX5_hand_0 4 rfl) (by decide) (fun h9 => absurd h9 (by decide)) (fun _ => ?_)
    refine v_iload_n X (xdec_at tX5_hand_0 5 rfl) rfl rfl ?_
    refine v_if_lt (tgt := 27) X (xdec_at tX5_hand_0 6 rfl) (by decide) (fun c_10 => ?_) (fun c_10 => ?_)
    · refine v_iconst (v := 0) X (xdec_at tX5_hand_0 15 rfl) (by decide) ?_
      refine v_callV X myX5_asks [.int 0] [] (c_asks0 l Z B0 lay μ r) (xw_at tW_17 31 rfl) (100, 0) cM_0 rfl rfl rfl rfl (by rfl) (Nat.le_of_ble_eq_true rfl) (xdec_at tX5_hand_0 16 rfl) ⟨(Nat.le_of_ble_eq_true rfl), (Nat.le_of_ble_eq_true rfl)⟩ ⟨(Nat.le_of_ble_eq_true rfl), (Nat.le_of_ble_eq_true rfl)⟩ ?_
      rintro v9 lay9 C9 ⟨rfl, rfl, rfl⟩
      refine v_if_ne (tgt := 36) X (xdec_at tX5_hand_0 17 rfl) (by decide) (fun h9 => absurd h9 (by decide)) (fun _ => ?_)
      refine v_iconst (v := 0) X (xdec_at tX5_hand_0 18 rfl) (by decide) ?_
      have e9 : M_hand μ t n = (0, ((up2 μ.1 38 0 1), μ.2)) := by simp [M_hand, (eq_true q_3), c_10]
      exact v_iret X hr (xdec_at tX5_hand_0 19 rfl) (Nat.le_of_ble_eq_true rfl) (Nat.le_of_ble_eq_true rfl) ⟨rfl, by rw [e9], by rw [e9]⟩
    · refine v_iload_n X (xdec_at tX5_hand_0 7 rfl) rfl rfl ?_
      refine v_aload_n X (xdec_at tX5_hand_0 8 rfl) rfl rfl ?_
      refine r_A X 35 (by decide) rfl rfl (xdec_at tX5_hand_0 9 rfl) ?_
      refine v_iload_n X (xdec_at tX5_hand_0 10 rfl) rfl rfl ?_
      refine r_I (v := (μ.1 35 (ix t))) X 35 (by decide) rfl rfl (hI.T q_3) (xdec_at tX5_hand_0 11 rfl) rfl ?_
      refine v_icmp_ge (tgt := 27) X (xdec_at tX5_hand_0 12 rfl) (by decide) (fun c_20 => ?_) (fun c_20 => ?_)
      · refine v_iconst (v := 0) X (xdec_at tX5_hand_0 15 rfl) (by decide) ?_
        refine v_callV X myX5_asks [.int 0] [] (c_asks0 l Z B0 lay μ r) (xw_at tW_17 31 rfl) (100, 0) cM_0 rfl rfl rfl rfl (by rfl) (Nat.le_of_ble_eq_true rfl) (xdec_at tX5_hand_0 16 rfl) ⟨(Nat.le_of_ble_eq_true rfl), (Nat.le_of_ble_eq_true rfl)⟩ ⟨(Nat.le_of_ble_eq_true rfl), (Nat.le_of_ble_eq_true rfl)⟩ ?_
        rintro v9 lay9 C9 ⟨rfl, rfl, rfl⟩
        refine v_if_ne (tgt := 36) X (xdec_at tX5_hand_0 17 rfl) (by decide) (fun h9 => absurd h9 (by decide)) (fun _ => ?_)
        refine v_iconst (v := 0) X (xdec_at tX5_hand_0 18 rfl) (by decide) ?_
        have e9 : M_hand μ t n = (0, ((up2 μ.1 38 0 1), μ.2)) := by simp [M_hand, (eq_true q_3), c_10, c_20]
        exact v_iret X hr (xdec_at tX5_hand_0 19 rfl) (Nat.le_of_ble_eq_true rfl) (Nat.le_of_ble_eq_true rfl) ⟨rfl, by rw [e9], by rw [e9]⟩
      · refine v_iconst (v := 1) X (xdec_at tX5_hand_0 13 rfl) (by decide) ?_
        refine v_goto (tgt := 28) X (xdec_at tX5_hand_0 14 rfl) (by decide) ?_
        refine v_callV X myX5_asks [.int 1] [] (c_asks1 l Z B0 lay μ r) (xw_at tW_17 31 rfl) (100, 0) cM_0 rfl rfl rfl rfl (by rfl) (Nat.le_of_ble_eq_true rfl) (xdec_at tX5_hand_0 16 rfl) ⟨(Nat.le_of_ble_eq_true rfl), (Nat.le_of_ble_eq_true rfl)⟩ ⟨(Nat.le_of_ble_eq_true rfl), (Nat.le_of_ble_eq_true rfl)⟩ ?_
        rintro v9 lay9 C9 ⟨rfl, rfl, rfl⟩
        refine v_if_ne (tgt := 36) X (xdec_at tX5_hand_0 17 rfl) (by decide) (fun _ => ?_) (fun h9 => absurd h9 (by decide))
        refine v_aload_n X (xdec_at tX5_hand_0 20 rfl) rfl rfl ?_
        refine r_A X 33 (by decide) rfl rfl (xdec_at tX5_hand_0 21 rfl) ?_
        refine v_iload_n X (xdec_at tX5_hand_0 22 rfl) rfl rfl ?_
        refine r_I (v := (μ.1 33 (ix t))) X 33 (by decide) rfl rfl (hI.T q_3) (xdec_at tX5_hand_0 23 rfl) rfl ?_
        refine v_istore_n (lv' := [some (.ref (lay (100, 0))), some (.int t), some (.int n), some (.int (μ.1 33 (ix t))), none]) X (xdec_at tX5_hand_0 24 rfl) rfl (by decide) rfl ?_
        refine v_iconst (v := 0) X (xdec_at tX5_hand_0 25 rfl) (by decide) ?_
        refine v_istore (lv' := [some (.ref (lay (100, 0))), some (.int t), some (.int n), some (.int (μ.1 33 (ix t))), some (.int 0)]) X (xdec_at tX5_hand_0 26 rfl) (by decide) rfl ?_
        obtain ⟨nn, hnn, en, hnx⟩ : ∃ j : Nat, j < 2 ^ 31 ∧ n = nI j ∧ ix n = j := by obtain ⟨j, h1, h2⟩ := nI_of c_10; exact ⟨j, h1, h2, by rw [h2, ix_nI h1]⟩
        have hlt : (nn : Int) < (μ.1 35 (ix t)).toInt := by have h8 := Int32.lt_iff_toInt_lt.mp (Int32.not_le.mp c_20); rw [en, nI_toInt hnn] at h8; exact h8
        refine v_for nn (fun j9 => cM Z lay ((up2 μ.1 38 0 0), μ.2) r) (fun j9 => [some (.ref (lay (100, 0))), some (.int t), some (.int n), some (.int (M_hd μ.1 (μ.1 33 (ix t)) j9)), some (.int (nI j9))]) 46 [] (fun i1 hi1 ih1 => ?_) ?_
        · refine v_iload X (xdec_at tX5_hand_0 27 rfl) rfl ?_
          refine v_iload_n X (xdec_at tX5_hand_0 28 rfl) rfl rfl ?_
          refine v_icmp_ge (tgt := 65) X (xdec_at tX5_hand_0 29 rfl) (by decide) (fun c_49 => ?_) (fun c_49 => ?_)
          · exact absurd c_49 (by rw [en]; exact nI_ge hi1 hnn)
          · refine v_aload_n X (xdec_at tX5_hand_0 30 rfl) rfl rfl ?_
            refine r_A X 32 (by decide) rfl rfl (xdec_at tX5_hand_0 31 rfl) ?_
            refine v_iload_n X (xdec_at tX5_hand_0 32 rfl) rfl rfl ?_
            refine r_I (v := (μ.1 32 (ix (M_hd μ.1 (μ.1 33 (ix t)) i1)))) X 32 (by decide) rfl rfl (hch _ (by omega)) (xdec_at tX5_hand_0 33 rfl) rfl ?_
            refine v_istore_n (lv' := [some (.ref (lay (100, 0))), some (.int t), some (.int n), some (.int (μ.1 32 (ix (M_hd μ.1 (μ.1 33 (ix t)) i1)))), some (.int (nI i1))]) X (xdec_at tX5_hand_0 34 rfl) rfl (by decide) rfl ?_
            refine v_iinc (v := (nI (i1 + 1))) (lv' := [some (.ref (lay (100, 0))), some (.int t), some (.int n), some (.int (μ.1 32 (ix (M_hd μ.1 (μ.1 33 (ix t)) i1)))), some (.int (nI (i1 + 1)))]) X (xdec_at tX5_hand_0 35 rfl) rfl (nI_1 _) (by decide) rfl ?_
            refine v_goto (tgt := 46) X (xdec_at tX5_hand_0 36 rfl) (by decide) ?_
            refine v_le (lv' := [some (.ref (lay (100, 0))), some (.int t), some (.int n), some (.int (M_hd μ.1 (μ.1 33 (ix t)) (i1 + 1))), some (.int (nI (i1 + 1)))]) (by simp [xle, M_hd]) ?_
            exact v_mu (μ' := ((up2 μ.1 38 0 0), μ.2)) (by rfl) ih1
        · refine v_iload X (xdec_at tX5_hand_0 27 rfl) rfl ?_
          refine v_iload_n X (xdec_at tX5_hand_0 28 rfl) rfl rfl ?_
          refine v_icmp_ge (tgt := 65) X (xdec_at tX5_hand_0 29 rfl) (by decide) (fun c_49 => ?_) (fun c_49 => ?_)
          · refine v_aload_n X (xdec_at tX5_hand_0 37 rfl) rfl rfl ?_
            refine r_A X 31 (by decide) rfl rfl (xdec_at tX5_hand_0 38 rfl) ?_
            refine v_iload_n X (xdec_at tX5_hand_0 39 rfl) rfl rfl ?_
            refine r_I (v := (μ.1 31 (ix (M_hd μ.1 (μ.1 33 (ix t)) nn)))) X 31 (by decide) rfl rfl (hch _ (by omega)) (xdec_at tX5_hand_1 0 rfl) rfl ?_
            have e9 : M_hand μ t n = ((μ.1 31 (ix (M_hd μ.1 (μ.1 33 (ix t)) nn))), ((up2 μ.1 38 0 0), μ.2)) := by rw [M_hand, if_pos ⟨q_3, c_10, c_20⟩, hnx]
            exact v_iret X hr (xdec_at tX5_hand_1 1 rfl) (Nat.le_of_ble_eq_true rfl) (Nat.le_of_ble_eq_true rfl) ⟨rfl, by rw [e9], by rw [e9]⟩
          · exact absurd (show n ≤ nI nn by rw [← en]; exact Int32.le_refl _) c_49
  · refine v_if_eq (tgt := 27) X (xdec_at tX5_hand_0 4 rfl) (by decide) (fun _ => ?_) (fun h9 => absurd h9 (by decide))
    refine v_iconst (v := 0) X (xdec_at tX5_hand_0 15 rfl) (by decide) ?_
    refine v_callV X myX5_asks [.int 0] [] (c_asks0 l Z B0 lay μ r) (xw_at tW_17 31 rfl) (100, 0) cM_0 rfl rfl rfl rfl (by rfl) (Nat.le_of_ble_eq_true rfl) (xdec_at tX5_hand_0 16 rfl) ⟨(Nat.le_of_ble_eq_true rfl), (Nat.le_of_ble_eq_true rfl)⟩ ⟨(Nat.le_of_ble_eq_true rfl), (Nat.le_of_ble_eq_true rfl)⟩ ?_
    rintro v9 lay9 C9 ⟨rfl, rfl, rfl⟩
    refine v_if_ne (tgt := 36) X (xdec_at tX5_hand_0 17 rfl) (by decide) (fun h9 => absurd h9 (by decide)) (fun _ => ?_)
    refine v_iconst (v := 0) X (xdec_at tX5_hand_0 18 rfl) (by decide) ?_
    have e9 : M_hand μ t n = (0, ((up2 μ.1 38 0 1), μ.2)) := by simp [M_hand, q_3]
    exact v_iret X hr (xdec_at tX5_hand_0 19 rfl) (Nat.le_of_ble_eq_true rfl) (Nat.le_of_ble_eq_true rfl) ⟨rfl, by rw [e9], by rw [e9]⟩
set_option maxRecDepth 100000 in
set_option maxHeartbeats 4000000 in
theorem c_gain (l : Launch) (Z : xZ) (B0 : Nat) (lay : xK → Nat) (μ : Mu) (r : xK → Option xE) (w : Int32) (hI : RI μ) : YM l yX5_gain cX5_gain 5 ((some FieldType.int)) 1 22 0 0 Z B0 [.ref (lay (100, 0)), .int w] lay (cM Z lay μ r) (fun v lay' C' => lay = lay' ∧ v = some (.int (M_gain μ w).1) ∧ C' = cM Z lay (M_gain μ w).2 r) := by
  refine YM_of myX5_gain.2.2 RX5 rfl [some (.ref (lay (100, 0))), some (.int w), none, none, none] rfl (Nat.le_of_ble_eq_true rfl) ?_
  intro P1 P2 P3 P4 P5 P6 P7 P8 X hr hnm
  obtain ⟨nP, hnP, eP⟩ := hI.1
  have hixP : ix (μ.1 0 0) = nP := by rw [eP, ix_nI (by omega)]
  refine v_aload_n X (xdec_at tX5_gain_0 0 rfl) rfl rfl ?_
  refine v_iload_n X (xdec_at tX5_gain_0 1 rfl) rfl rfl ?_
  refine v_iconst (v := 0) X (xdec_at tX5_gain_0 2 rfl) (by decide) ?_
  refine v_iconst (v := 2) X (xdec_at tX5_gain_0 3 rfl) (by decide) ?_
  refine v_callS X myX5_in [.int w, .int 0, .int 2] [.ref (lay (100, 0))] (c_in l Z B0 lay (cM Z lay μ r) w 0 2) (xw_at tW_18 1 rfl) rfl rfl (by rfl) (Nat.le_of_ble_eq_true rfl) (xdec_at tX5_gain_0 4 rfl) ⟨(Nat.le_of_ble_eq_true rfl), (Nat.le_of_ble_eq_true rfl)⟩ ⟨(Nat.le_of_ble_eq_true rfl), (Nat.le_of_ble_eq_true rfl)⟩ ?_
  rintro v9 lay9 C9 ⟨rfl, rfl, ⟨rfl, q_4⟩ | ⟨rfl, q_4⟩⟩
  · refine v_callV X myX5_asks [.int 1] [] (c_asks1 l Z B0 lay μ r) (xw_at tW_17 31 rfl) (100, 0) cM_0 rfl rfl rfl rfl (by rfl) (Nat.le_of_ble_eq_true rfl) (xdec_at tX5_gain_0 5 rfl) ⟨(Nat.le_of_ble_eq_true rfl), (Nat.le_of_ble_eq_true rfl)⟩ ⟨(Nat.le_of_ble_eq_true rfl), (Nat.le_of_ble_eq_true rfl)⟩ ?_
    rintro v9 lay9 C9 ⟨rfl, rfl, rfl⟩
    refine v_if_ne (tgt := 15) X (xdec_at tX5_gain_0 6 rfl) (by decide) (fun _ => ?_) (fun h9 => absurd h9 (by decide))
    refine v_aload_n X (xdec_at tX5_gain_0 9 rfl) rfl rfl ?_
    refine r_A X 37 (by decide) rfl rfl (xdec_at tX5_gain_0 10 rfl) ?_
    refine v_iconst (v := 0) X (xdec_at tX5_gain_0 11 rfl) (by decide) ?_
    refine v_iconst (v := 0) X (xdec_at tX5_gain_0 12 rfl) (by decide) ?_
    refine v_st (st' := [.int 0, .int (nI 0), .ref (lay (100, 38))]) (by rfl) ?_
    refine r_PIn X 37 (by decide) rfl rfl (by decide) (xdec_at tX5_gain_0 13 rfl) ?_
    refine v_iconst (v := 0) X (xdec_at tX5_gain_0 14 rfl) (by decide) ?_
    refine v_istore_n (lv' := [some (.ref (lay (100, 0))), some (.int w), some (.int 0), none, none]) X (xdec_at tX5_gain_0 15 rfl) rfl (by decide) rfl ?_
    refine v_for nP (fun j9 => cM Z lay ((M_g4 nP j9 (up2 (up2 μ.1 38 0 0) 37 0 0)), μ.2) r) (fun j9 => [some (.ref (lay (100, 0))), some (.int w), some (.int (nI j9)), none, none]) 24 [] (fun i1 hi1 ih1 => ?_) ?_
    · obtain ⟨A, hA⟩ : ∃ A, A = M_g4 nP i1 (up2 (up2 μ.1 38 0 0) 37 0 0) := ⟨_, rfl⟩
      have hkA : ∀ j, j ≠ 37 → A j = (up2 μ.1 38 0 0) j := fun j hj => by rw [hA, M_g4_ne _ _ _ hj, up2_ne _ _ _ _ _ hj]
      have hAP : A 0 0 = nI nP := by rw [hkA 0 (by decide)]; exact eP
      have h8a : i1 < 8 := by omega
      refine v_mu (μ' := (A, μ.2)) (by rw [hA]) ?_
      refine v_iload_n X (xdec_at tX5_gain_0 16 rfl) rfl rfl ?_
      refine v_aload_n X (xdec_at tX5_gain_0 17 rfl) rfl rfl ?_
      refine r_S (v := (A 0 0)) X 0 (by decide) rfl rfl (xdec_at tX5_gain_0 18 rfl) rfl ?_
      refine v_icmp_ge (tgt := 118) X (xdec_at tX5_gain_0 19 rfl) (by decide) (fun c_29 => ?_) (fun c_29 => ?_)
      · exact absurd c_29 (by rw [hAP]; exact nI_ge hi1 (by omega))
      · refine v_iconst (v := 0) X (xdec_at tX5_gain_0 20 rfl) (by decide) ?_
        refine v_istore_n (lv' := [some (.ref (lay (100, 0))), some (.int w), some (.int (nI i1)), some (.int 0), none]) X (xdec_at tX5_gain_0 21 rfl) rfl (by decide) rfl ?_
        refine v_for nP (fun j9 => cM Z lay ((M_g3 i1 j9 A), μ.2) r) (fun j9 => [some (.ref (lay (100, 0))), some (.int w), some (.int (nI i1)), some (.int (nI j9)), none]) 34 [] (fun i2 hi2 ih2 => ?_) ?_
        · obtain ⟨B, hB⟩ : ∃ B, B = M_g3 i1 i2 A := ⟨_, rfl⟩
          have hBP : B 0 0 = nI nP := by rw [hB, M_g3_ne _ _ _ (by decide)]; exact hAP
          have h8b : i2 < 8 := by omega
          refine v_mu (μ' := (B, μ.2)) (by rw [hB]) ?_
          refine v_iload_n X (xdec_at tX5_gain_0 22 rfl) rfl rfl ?_
          refine v_aload_n X (xdec_at tX5_gain_0 23 rfl) rfl rfl ?_
          refine r_S (v := (B 0 0)) X 0 (by decide) rfl rfl (xdec_at tX5_gain_0 24 rfl) rfl ?_
          refine v_icmp_ge (tgt := 112) X (xdec_at tX5_gain_0 25 rfl) (by decide) (fun c_39 => ?_) (fun c_39 => ?_)
          · exact absurd c_39 (by rw [hBP]; exact nI_ge hi2 (by omega))
          · refine v_aload_n X (xdec_at tX5_gain_0 26 rfl) rfl rfl ?_
            refine r_A X 1 (by decide) rfl rfl (xdec_at tX5_gain_0 27 rfl) ?_
            refine v_iconst (v := 3) X (xdec_at tX5_gain_0 28 rfl) (by decide) ?_
            refine v_iload_n X (xdec_at tX5_gain_0 29 rfl) rfl rfl ?_
            refine v_imul X (xdec_at tX5_gain_0 30 rfl) ?_
            refine v_st (st' := [.int (nI (3 * i2)), .ref (lay (100, 2))]) (by rw [n3, pk_mul] <;> rfl) ?_
            refine r_In (v := (B 1 (3 * i2))) X 1 (by decide) rfl rfl (show 3 * i2 < 24 by omega) (xdec_at tX5_gain_0 31 rfl) rfl ?_
            refine v_aload_n X (xdec_at tX5_gain_0 32 rfl) rfl rfl ?_
            refine r_A X 5 (by decide) rfl rfl (xdec_at tX5_gain_0 33 rfl) ?_
            refine v_iload_n X (xdec_at tX5_gain_0 34 rfl) rfl rfl ?_
            refine r_In (v := (B 5 i1)) X 5 (by decide) rfl rfl h8a (xdec_at tX5_gain_0 35 rfl) rfl ?_
            refine v_isub X (xdec_at tX5_gain_0 36 rfl) ?_
            refine v_istore (lv' := [some (.ref (lay (100, 0))), some (.int w), some (.int (nI i1)), some (.int (nI i2)), some (.int ((B 1 (3 * i2)) - (B 5 i1)))]) X (xdec_at tX5_gain_0 37 rfl) (by decide) rfl ?_
            refine v_iload_n X (xdec_at tX5_gain_0 38 rfl) rfl rfl ?_
            refine v_iload_n X (xdec_at tX5_gain_0 39 rfl) rfl rfl ?_
            refine v_icmp_eq (tgt := 106) X (xdec_at tX5_gain_1 0 rfl) (by decide) (fun c_61 => ?_) (fun c_61 => ?_)
            · have e61 : i1 = i2 := (nI_eq (by omega) (by omega)).mp c_61
              refine v_iinc (v := (nI (i2 + 1))) (lv' := [some (.ref (lay (100, 0))), some (.int w), some (.int (nI i1)), some (.int (nI (i2 + 1))), some (.int ((B 1 (3 * i2)) - (B 5 i1)))]) X (xdec_at tX5_gain_1 27 rfl) rfl (nI_1 _) (by decide) rfl ?_
              refine v_goto (tgt := 34) X (xdec_at tX5_gain_1 28 rfl) (by decide) ?_
              refine v_le (lv' := [some (.ref (lay (100, 0))), some (.int w), some (.int (nI i1)), some (.int (nI (i2 + 1))), none]) (by simp [xle]) ?_
              exact v_mu (μ' := ((M_g3 i1 (i2 + 1) A), μ.2)) (by show _ = (M_gs i1 i2 (M_g3 i1 i2 A), μ.2); rw [← hB]; simp [M_gs, e61]) ih2
            · have e61 : ¬ i1 = i2 := fun z => c_61 (by rw [z])
              refine v_aload_n X (xdec_at tX5_gain_1 1 rfl) rfl rfl ?_
              refine r_A X 5 (by decide) rfl rfl (xdec_at tX5_gain_1 2 rfl) ?_
              refine v_iload_n X (xdec_at tX5_gain_1 3 rfl) rfl rfl ?_
              refine r_In (v := (B 5 i1)) X 5 (by decide) rfl rfl h8a (xdec_at tX5_gain_1 4 rfl) rfl ?_
              refine v_if_le (tgt := 106) X (xdec_at tX5_gain_1 5 rfl) (by decide) (fun c_70 => ?_) (fun c_70 => ?_)
              · refine v_iinc (v := (nI (i2 + 1))) (lv' := [some (.ref (lay (100, 0))), some (.int w), some (.int (nI i1)), some (.int (nI (i2 + 1))), some (.int ((B 1 (3 * i2)) - (B 5 i1)))]) X (xdec_at tX5_gain_1 27 rfl) rfl (nI_1 _) (by decide) rfl ?_
                refine v_goto (tgt := 34) X (xdec_at tX5_gain_1 28 rfl) (by decide) ?_
                refine v_le (lv' := [some (.ref (lay (100, 0))), some (.int w), some (.int (nI i1)), some (.int (nI (i2 + 1))), none]) (by simp [xle]) ?_
                exact v_mu (μ' := ((M_g3 i1 (i2 + 1) A), μ.2)) (by show _ = (M_gs i1 i2 (M_g3 i1 i2 A), μ.2); rw [← hB]; simp [M_gs, e61, c_70]) ih2
              · refine v_iload X (xdec_at tX5_gain_1 6 rfl) rfl ?_
                refine v_aload_n X (xdec_at tX5_gain_1 7 rfl) rfl rfl ?_
                refine r_A X 37 (by decide) rfl rfl (xdec_at tX5_gain_1 8 rfl) ?_
                refine v_iconst (v := 0) X (xdec_at tX5_gain_1 9 rfl) (by decide) ?_
                refine v_st (st' := [.int (nI 0), .ref (lay (100, 38)), .int ((B 1 (3 * i2)) - (B 5 i1))]) (by rfl) ?_
                refine r_In (v := (B 37 0)) X 37 (by decide) rfl rfl (by decide) (xdec_at tX5_gain_1 10 rfl) rfl ?_
                refine v_icmp_le (tgt := 106) X (xdec_at tX5_gain_1 11 rfl) (by decide) (fun c_81 => ?_) (fun c_81 => ?_)
                · refine v_iinc (v := (nI (i2 + 1))) (lv' := [some (.ref (lay (100, 0))), some (.int w), some (.int (nI i1)), some (.int (nI (i2 + 1))), some (.int ((B 1 (3 * i2)) - (B 5 i1)))]) X (xdec_at tX5_gain_1 27 rfl) rfl (nI_1 _) (by decide) rfl ?_
                  refine v_goto (tgt := 34) X (xdec_at tX5_gain_1 28 rfl) (by decide) ?_
                  refine v_le (lv' := [some (.ref (lay (100, 0))), some (.int w), some (.int (nI i1)), some (.int (nI (i2 + 1))), none]) (by simp [xle]) ?_
                  exact v_mu (μ' := ((M_g3 i1 (i2 + 1) A), μ.2)) (by show _ = (M_gs i1 i2 (M_g3 i1 i2 A), μ.2); rw [← hB]; simp [M_gs, e61, c_70, c_81]) ih2
                · refine v_aload_n X (xdec_at tX5_gain_1 12 rfl) rfl rfl ?_
                  refine r_A X 37 (by decide) rfl rfl (xdec_at tX5_gain_1 13 rfl) ?_
                  refine v_iconst (v := 0) X (xdec_at tX5_gain_1 14 rfl) (by decide) ?_
                  refine v_iload X (xdec_at tX5_gain_1 15 rfl) rfl ?_
                  refine v_st (st' := [.int ((B 1 (3 * i2)) - (B 5 i1)), .int (nI 0), .ref (lay (100, 38))]) (by rfl) ?_
                  refine r_PIn X 37 (by decide) rfl rfl (by decide) (xdec_at tX5_gain_1 16 rfl) ?_
                  refine v_aload_n X (xdec_at tX5_gain_1 17 rfl) rfl rfl ?_
                  refine r_A X 37 (by decide) rfl rfl (xdec_at tX5_gain_1 18 rfl) ?_
                  refine v_iconst (v := 1) X (xdec_at tX5_gain_1 19 rfl) (by decide) ?_
                  refine v_iload_n X (xdec_at tX5_gain_1 20 rfl) rfl rfl ?_
                  refine v_st (st' := [.int (nI i1), .int (nI 1), .ref (lay (100, 38))]) (by rfl) ?_
                  refine r_PIn X 37 (by decide) rfl rfl (by decide) (xdec_at tX5_gain_1 21 rfl) ?_
                  refine v_aload_n X (xdec_at tX5_gain_1 22 rfl) rfl rfl ?_
                  refine r_A X 37 (by decide) rfl rfl (xdec_at tX5_gain_1 23 rfl) ?_
                  refine v_iconst (v := 2) X (xdec_at tX5_gain_1 24 rfl) (by decide) ?_
                  refine v_iload_n X (xdec_at tX5_gain_1 25 rfl) rfl rfl ?_
                  refine v_st (st' := [.int (nI i2), .int (nI 2), .ref (lay (100, 38))]) (by rfl) ?_
                  refine r_PIn X 37 (by decide) rfl rfl (by decide) (xdec_at tX5_gain_1 26 rfl) ?_
                  refine v_iinc (v := (nI (i2 + 1))) (lv' := [some (.ref (lay (100, 0))), some (.int w), some (.int (nI i1)), some (.int (nI (i2 + 1))), some (.int ((B 1 (3 * i2)) - (B 5 i1)))]) X (xdec_at tX5_gain_1 27 rfl) rfl (nI_1 _) (by decide) rfl ?_
                  refine v_goto (tgt := 34) X (xdec_at tX5_gain_1 28 rfl) (by decide) ?_
                  refine v_le (lv' := [some (.ref (lay (100, 0))), some (.int w), some (.int (nI i1)), some (.int (nI (i2 + 1))), none]) (by simp [xle]) ?_
                  exact v_mu (μ' := ((M_g3 i1 (i2 + 1) A), μ.2)) (by show _ = (M_gs i1 i2 (M_g3 i1 i2 A), μ.2); rw [← hB]; simp [M_gs, e61, c_70, c_81]) ih2
        · obtain ⟨B, hB⟩ : ∃ B, B = M_g3 i1 nP A := ⟨_, rfl⟩
          have hBP : B 0 0 = nI nP := by rw [hB, M_g3_ne _ _ _ (by decide)]; exact hAP
          refine v_mu (μ' := (B, μ.2)) (by rw [hB]) ?_
          refine v_iload_n X (xdec_at tX5_gain_0 22 rfl) rfl rfl ?_
          refine v_aload_n X (xdec_at tX5_gain_0 23 rfl) rfl rfl ?_
          refine r_S (v := (B 0 0)) X 0 (by decide) rfl rfl (xdec_at tX5_gain_0 24 rfl) rfl ?_
          refine v_icmp_ge (tgt := 112) X (xdec_at tX5_gain_0 25 rfl) (by decide) (fun c_39 => ?_) (fun c_39 => ?_)
          · refine v_iinc (v := (nI (i1 + 1))) (lv' := [some (.ref (lay (100, 0))), some (.int w), some (.int (nI (i1 + 1))), some (.int (nI nP)), none]) X (xdec_at tX5_gain_1 29 rfl) rfl (nI_1 _) (by decide) rfl ?_
            refine v_goto (tgt := 24) X (xdec_at tX5_gain_1 30 rfl) (by decide) ?_
            refine v_le (lv' := [some (.ref (lay (100, 0))), some (.int w), some (.int (nI (i1 + 1))), none, none]) (by simp [xle]) ?_
            exact v_mu (μ' := ((M_g4 nP (i1 + 1) (up2 (up2 μ.1 38 0 0) 37 0 0)), μ.2)) (by rw [hB, hA]; rfl) ih1
          · exact absurd (show B 0 0 ≤ nI nP by rw [hBP]; exact Int32.le_refl _) c_39
    · obtain ⟨A, hA⟩ : ∃ A, A = M_g4 nP nP (up2 (up2 μ.1 38 0 0) 37 0 0) := ⟨_, rfl⟩
      have hAP : A 0 0 = nI nP := by rw [hA, M_g4_ne _ _ _ (by decide)]; exact eP
      refine v_mu (μ' := (A, μ.2)) (by rw [hA]) ?_
      refine v_iload_n X (xdec_at tX5_gain_0 16 rfl) rfl rfl ?_
      refine v_aload_n X (xdec_at tX5_gain_0 17 rfl) rfl rfl ?_
      refine r_S (v := (A 0 0)) X 0 (by decide) rfl rfl (xdec_at tX5_gain_0 18 rfl) rfl ?_
      refine v_icmp_ge (tgt := 118) X (xdec_at tX5_gain_0 19 rfl) (by decide) (fun c_29 => ?_) (fun c_29 => ?_)
      · refine v_aload_n X (xdec_at tX5_gain_1 31 rfl) rfl rfl ?_
        refine r_A X 37 (by decide) rfl rfl (xdec_at tX5_gain_1 32 rfl) ?_
        refine v_iconst (v := 0) X (xdec_at tX5_gain_1 33 rfl) (by decide) ?_
        refine v_st (st' := [.int (nI 0), .ref (lay (100, 38))]) (by rfl) ?_
        refine r_In (v := (A 37 0)) X 37 (by decide) rfl rfl (by decide) (xdec_at tX5_gain_1 34 rfl) rfl ?_
        refine v_if_ne (tgt := 131) X (xdec_at tX5_gain_1 35 rfl) (by decide) (fun c_124 => ?_) (fun c_124 => ?_)
        · refine v_aload_n X (xdec_at tX5_gain_1 38 rfl) rfl rfl ?_
          refine r_A X 37 (by decide) rfl rfl (xdec_at tX5_gain_1 39 rfl) ?_
          refine v_iload_n X (xdec_at tX5_gain_2 0 rfl) rfl rfl ?_
          have hw3 : vp_in w 3 := isK_in q_4
          refine r_I (v := (A 37 (ix w))) X 37 (by decide) rfl rfl hw3 (xdec_at tX5_gain_2 1 rfl) rfl ?_
          have e9 : M_gain μ w = ((A 37 (ix w)), (A, μ.2)) := by simp only [M_gain, hixP]; rw [if_pos q_4, ← hA]; simp [c_124]
          exact v_iret X hr (xdec_at tX5_gain_2 2 rfl) (Nat.le_of_ble_eq_true rfl) (Nat.le_of_ble_eq_true rfl) ⟨rfl, by rw [e9], by rw [e9]⟩
        · refine v_iconst (v := (-1)) X (xdec_at tX5_gain_1 36 rfl) (by decide) ?_
          refine v_goto (tgt := 137) X (xdec_at tX5_gain_1 37 rfl) (by decide) ?_
          have e9 : M_gain μ w = ((-1), (A, μ.2)) := by simp only [M_gain, hixP]; rw [if_pos q_4, ← hA]; simp [c_124]
          exact v_iret X hr (xdec_at tX5_gain_2 2 rfl) (Nat.le_of_ble_eq_true rfl) (Nat.le_of_ble_eq_true rfl) ⟨rfl, by rw [e9], by rw [e9]⟩
      · exact absurd (show A 0 0 ≤ nI nP by rw [hAP]; exact Int32.le_refl _) c_29
  · refine v_callV X myX5_asks [.int 0] [] (c_asks0 l Z B0 lay μ r) (xw_at tW_17 31 rfl) (100, 0) cM_0 rfl rfl rfl rfl (by rfl) (Nat.le_of_ble_eq_true rfl) (xdec_at tX5_gain_0 5 rfl) ⟨(Nat.le_of_ble_eq_true rfl), (Nat.le_of_ble_eq_true rfl)⟩ ⟨(Nat.le_of_ble_eq_true rfl), (Nat.le_of_ble_eq_true rfl)⟩ ?_
    rintro v9 lay9 C9 ⟨rfl, rfl, rfl⟩
    refine v_if_ne (tgt := 15) X (xdec_at tX5_gain_0 6 rfl) (by decide) (fun h9 => absurd h9 (by decide)) (fun _ => ?_)
    refine v_iconst (v := 0) X (xdec_at tX5_gain_0 7 rfl) (by decide) ?_
    have e9 : M_gain μ w = (0, ((up2 μ.1 38 0 1), μ.2)) := by simp [M_gain, q_4]
    exact v_iret X hr (xdec_at tX5_gain_0 8 rfl) (Nat.le_of_ble_eq_true rfl) (Nat.le_of_ble_eq_true rfl) ⟨rfl, by rw [e9], by rw [e9]⟩
