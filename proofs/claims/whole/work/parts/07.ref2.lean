set_option maxRecDepth 100000 in
set_option maxHeartbeats 4000000 in
theorem c_post (l : Launch) (Z : xZ) (B0 : Nat) (lay : xK → Nat) (μ : Mu) (r : xK → Option xE)  (hI : RI μ) : YM l yX5_post cX5_post 1 ((some FieldType.int)) 1 21 0 0 Z B0 [.ref (lay (100, 0))] lay (cM Z lay μ r) (fun v lay' C' => lay = lay' ∧ v = some (.int (M_post μ).1) ∧ C' = cM Z lay (M_post μ).2 r) := by
  refine YM_of myX5_post.2.2 RX5 rfl [some (.ref (lay (100, 0)))] rfl (Nat.le_of_ble_eq_true rfl) ?_
  intro P1 P2 P3 P4 P5 P6 P7 P8 X hr hnm
  refine v_aload_n X (xdec_at tX5_post_0 0 rfl) rfl rfl ?_
  refine v_aload_n X (xdec_at tX5_post_0 1 rfl) rfl rfl ?_
  refine r_S (v := (μ.1 0 0)) X 0 (by decide) rfl rfl (xdec_at tX5_post_0 2 rfl) rfl ?_
  refine v_bipush (v := 8) X (xdec_at tX5_post_0 3 rfl) (by decide) ?_
  refine v_icmp_ge (tgt := 14) X (xdec_at tX5_post_0 4 rfl) (by decide) (fun c_7 => ?_) (fun c_7 => ?_)
  · refine v_iconst (v := 0) X (xdec_at tX5_post_0 7 rfl) (by decide) ?_
    refine v_callV X myX5_asks [.int 0] [] (c_asks0 l Z B0 lay μ r) (xw_at tW_17 31 rfl) (100, 0) cM_0 rfl rfl rfl rfl (by rfl) (Nat.le_of_ble_eq_true rfl) (xdec_at tX5_post_0 8 rfl) ⟨(Nat.le_of_ble_eq_true rfl), (Nat.le_of_ble_eq_true rfl)⟩ ⟨(Nat.le_of_ble_eq_true rfl), (Nat.le_of_ble_eq_true rfl)⟩ ?_
    rintro v9 lay9 C9 ⟨rfl, rfl, rfl⟩
    refine v_if_ne (tgt := 23) X (xdec_at tX5_post_0 9 rfl) (by decide) (fun h9 => absurd h9 (by decide)) (fun _ => ?_)
    refine v_iconst (v := 0) X (xdec_at tX5_post_0 10 rfl) (by decide) ?_
    have e9 : M_post μ = (0, ((up2 μ.1 38 0 1), μ.2)) := by simp [M_post, up2_at, c_7]
    exact v_iret X hr (xdec_at tX5_post_0 11 rfl) (Nat.le_of_ble_eq_true rfl) (Nat.le_of_ble_eq_true rfl) ⟨rfl, by rw [e9], by rw [e9]⟩
  · refine v_iconst (v := 1) X (xdec_at tX5_post_0 5 rfl) (by decide) ?_
    refine v_goto (tgt := 15) X (xdec_at tX5_post_0 6 rfl) (by decide) ?_
    refine v_callV X myX5_asks [.int 1] [] (c_asks1 l Z B0 lay μ r) (xw_at tW_17 31 rfl) (100, 0) cM_0 rfl rfl rfl rfl (by rfl) (Nat.le_of_ble_eq_true rfl) (xdec_at tX5_post_0 8 rfl) ⟨(Nat.le_of_ble_eq_true rfl), (Nat.le_of_ble_eq_true rfl)⟩ ⟨(Nat.le_of_ble_eq_true rfl), (Nat.le_of_ble_eq_true rfl)⟩ ?_
    rintro v9 lay9 C9 ⟨rfl, rfl, rfl⟩
    refine v_if_ne (tgt := 23) X (xdec_at tX5_post_0 9 rfl) (by decide) (fun _ => ?_) (fun h9 => absurd h9 (by decide))
    refine v_aload_n X (xdec_at tX5_post_0 12 rfl) rfl rfl ?_
    refine v_dup X (xdec_at tX5_post_0 13 rfl) rfl ?_
    refine r_S (v := (μ.1 0 0)) X 0 (by decide) rfl rfl (xdec_at tX5_post_0 14 rfl) rfl ?_
    refine v_iconst (v := 1) X (xdec_at tX5_post_0 15 rfl) (by decide) ?_
    refine v_iadd X (xdec_at tX5_post_0 16 rfl) ?_
    refine r_PS X 0 (by decide) rfl (by decide) rfl (xdec_at tX5_post_0 17 rfl) ?_
    refine v_aload_n X (xdec_at tX5_post_0 18 rfl) rfl rfl ?_
    refine r_S (v := ((μ.1 0 0) + 1)) X 0 (by decide) rfl rfl (xdec_at tX5_post_0 19 rfl) rfl ?_
    refine v_iconst (v := 1) X (xdec_at tX5_post_0 20 rfl) (by decide) ?_
    refine v_isub X (xdec_at tX5_post_0 21 rfl) ?_
    have e9 : M_post μ = ((((μ.1 0 0) + 1) - 1), ((up2 (up2 μ.1 38 0 0) 0 0 ((μ.1 0 0) + 1)), μ.2)) := by simp [M_post, up2_at, c_7]
    exact v_iret X hr (xdec_at tX5_post_0 22 rfl) (Nat.le_of_ble_eq_true rfl) (Nat.le_of_ble_eq_true rfl) ⟨rfl, by rw [e9], by rw [e9]⟩
set_option maxRecDepth 100000 in
set_option maxHeartbeats 4000000 in
theorem c_rates (l : Launch) (Z : xZ) (B0 : Nat) (lay : xK → Nat) (μ : Mu) (r : xK → Option xE) (p k f g : Int32) (hI : RI μ) : YM l yX5_rates cX5_rates 5 ((none : Option FieldType)) 2 43 0 0 Z B0 [.ref (lay (100, 0)), .int p, .int k, .int f, .int g] lay (cM Z lay μ r) (fun v lay' C' => lay = lay' ∧ v = none ∧ C' = cM Z lay (M_rates μ p k f g) r) := by
  refine YM_of myX5_rates.2.2 RX5 rfl [some (.ref (lay (100, 0))), some (.int p), some (.int k), some (.int f), some (.int g)] rfl (Nat.le_of_ble_eq_true rfl) ?_
  intro P1 P2 P3 P4 P5 P6 P7 P8 X hr hnm
  refine v_aload_n X (xdec_at tX5_rates_0 0 rfl) rfl rfl ?_
  refine v_aload_n X (xdec_at tX5_rates_0 1 rfl) rfl rfl ?_
  refine v_iload_n X (xdec_at tX5_rates_0 2 rfl) rfl rfl ?_
  refine v_callV X myX5_isPost [.int p] [.ref (lay (100, 0))] (c_isPost l Z B0 lay μ r p) (xw_at tW_17 38 rfl) (100, 0) cM_0 rfl rfl rfl rfl (by rfl) (Nat.le_of_ble_eq_true rfl) (xdec_at tX5_rates_0 3 rfl) ⟨(Nat.le_of_ble_eq_true rfl), (Nat.le_of_ble_eq_true rfl)⟩ ⟨(Nat.le_of_ble_eq_true rfl), (Nat.le_of_ble_eq_true rfl)⟩ ?_
  rintro v9 lay9 C9 ⟨rfl, rfl, ⟨rfl, q_3⟩ | ⟨rfl, q_3⟩⟩
  · refine v_callV X myX5_asks [.int 1] [] (c_asks1 l Z B0 lay μ r) (xw_at tW_17 31 rfl) (100, 0) cM_0 rfl rfl rfl rfl (by rfl) (Nat.le_of_ble_eq_true rfl) (xdec_at tX5_rates_0 4 rfl) ⟨(Nat.le_of_ble_eq_true rfl), (Nat.le_of_ble_eq_true rfl)⟩ ⟨(Nat.le_of_ble_eq_true rfl), (Nat.le_of_ble_eq_true rfl)⟩ ?_
    rintro v9 lay9 C9 ⟨rfl, rfl, rfl⟩
    refine v_if_ne (tgt := 13) X (xdec_at tX5_rates_0 5 rfl) (by decide) (fun _ => ?_) (fun h9 => absurd h9 (by decide))
    refine v_iload_n X (xdec_at tX5_rates_0 7 rfl) rfl rfl ?_
    refine v_callS X myX5_isKind [.int k] [] (c_isKind l Z B0 lay (cM Z lay ((up2 μ.1 38 0 0), μ.2) r) k) (xw_at tW_18 4 rfl) rfl rfl (by rfl) (Nat.le_of_ble_eq_true rfl) (xdec_at tX5_rates_0 8 rfl) ⟨(Nat.le_of_ble_eq_true rfl), (Nat.le_of_ble_eq_true rfl)⟩ ⟨(Nat.le_of_ble_eq_true rfl), (Nat.le_of_ble_eq_true rfl)⟩ ?_
    rintro v9 lay9 C9 ⟨rfl, rfl, ⟨rfl, q_14⟩ | ⟨rfl, q_14⟩⟩
    · refine v_if_eq (tgt := 43) X (xdec_at tX5_rates_0 9 rfl) (by decide) (fun h9 => absurd h9 (by decide)) (fun _ => ?_)
      refine v_iload_n X (xdec_at tX5_rates_0 10 rfl) rfl rfl ?_
      refine v_iconst (v := 0) X (xdec_at tX5_rates_0 11 rfl) (by decide) ?_
      refine v_sipush (v := 10000) X (xdec_at tX5_rates_0 12 rfl) (by decide) ?_
      refine v_callS X myX5_in [.int f, .int 0, .int 10000] [] (c_in l Z B0 lay (cM Z lay ((up2 μ.1 38 0 0), μ.2) r) f 0 10000) (xw_at tW_18 1 rfl) rfl rfl (by rfl) (Nat.le_of_ble_eq_true rfl) (xdec_at tX5_rates_0 13 rfl) ⟨(Nat.le_of_ble_eq_true rfl), (Nat.le_of_ble_eq_true rfl)⟩ ⟨(Nat.le_of_ble_eq_true rfl), (Nat.le_of_ble_eq_true rfl)⟩ ?_
      rintro v9 lay9 C9 ⟨rfl, rfl, ⟨rfl, q_25⟩ | ⟨rfl, q_25⟩⟩
      · refine v_if_eq (tgt := 43) X (xdec_at tX5_rates_0 14 rfl) (by decide) (fun h9 => absurd h9 (by decide)) (fun _ => ?_)
        refine v_iload X (xdec_at tX5_rates_0 15 rfl) rfl ?_
        refine v_iconst (v := 0) X (xdec_at tX5_rates_0 16 rfl) (by decide) ?_
        refine v_sipush (v := 10000) X (xdec_at tX5_rates_0 17 rfl) (by decide) ?_
        refine v_callS X myX5_in [.int g, .int 0, .int 10000] [] (c_in l Z B0 lay (cM Z lay ((up2 μ.1 38 0 0), μ.2) r) g 0 10000) (xw_at tW_18 1 rfl) rfl rfl (by rfl) (Nat.le_of_ble_eq_true rfl) (xdec_at tX5_rates_0 18 rfl) ⟨(Nat.le_of_ble_eq_true rfl), (Nat.le_of_ble_eq_true rfl)⟩ ⟨(Nat.le_of_ble_eq_true rfl), (Nat.le_of_ble_eq_true rfl)⟩ ?_
        rintro v9 lay9 C9 ⟨rfl, rfl, ⟨rfl, q_37⟩ | ⟨rfl, q_37⟩⟩
        · refine v_if_ne (tgt := 49) X (xdec_at tX5_rates_0 19 rfl) (by decide) (fun _ => ?_) (fun h9 => absurd h9 (by decide))
          refine v_aload_n X (xdec_at tX5_rates_0 24 rfl) rfl rfl ?_
          refine r_A X 1 (by decide) rfl rfl (xdec_at tX5_rates_0 25 rfl) ?_
          refine v_iconst (v := 3) X (xdec_at tX5_rates_0 26 rfl) (by decide) ?_
          refine v_iload_n X (xdec_at tX5_rates_0 27 rfl) rfl rfl ?_
          refine v_imul X (xdec_at tX5_rates_0 28 rfl) ?_
          refine v_iload_n X (xdec_at tX5_rates_0 29 rfl) rfl rfl ?_
          refine v_iadd X (xdec_at tX5_rates_0 30 rfl) ?_
          refine v_iload_n X (xdec_at tX5_rates_0 31 rfl) rfl rfl ?_
          refine r_PI X 1 (by decide) rfl rfl (hI.PK (by assumption) (by assumption)) (xdec_at tX5_rates_0 32 rfl) ?_
          refine v_aload_n X (xdec_at tX5_rates_0 33 rfl) rfl rfl ?_
          refine r_A X 2 (by decide) rfl rfl (xdec_at tX5_rates_0 34 rfl) ?_
          refine v_iconst (v := 3) X (xdec_at tX5_rates_0 35 rfl) (by decide) ?_
          refine v_iload_n X (xdec_at tX5_rates_0 36 rfl) rfl rfl ?_
          refine v_imul X (xdec_at tX5_rates_0 37 rfl) ?_
          refine v_iload_n X (xdec_at tX5_rates_0 38 rfl) rfl rfl ?_
          refine v_iadd X (xdec_at tX5_rates_0 39 rfl) ?_
          refine v_iload X (xdec_at tX5_rates_1 0 rfl) rfl ?_
          refine r_PI X 2 (by decide) rfl rfl (hI.PK (by assumption) (by assumption)) (xdec_at tX5_rates_1 1 rfl) ?_
          have e9 : M_rates μ p k f g = ((up2 (up2 (up2 μ.1 38 0 0) 1 (ix ((3 * p) + k)) f) 2 (ix ((3 * p) + k)) g), μ.2) := by simp [M_rates, up2_at, (eq_true q_3), (eq_true q_14), (eq_true q_25), (eq_true q_37)]
          exact v_vret X hr (xdec_at tX5_rates_1 2 rfl) (Nat.le_of_ble_eq_true rfl) (Nat.le_of_ble_eq_true rfl) ⟨rfl, rfl, by rw [e9]⟩
        · refine v_if_ne (tgt := 49) X (xdec_at tX5_rates_0 19 rfl) (by decide) (fun h9 => absurd h9 (by decide)) (fun _ => ?_)
          refine v_aload_n X (xdec_at tX5_rates_0 20 rfl) rfl rfl ?_
          refine v_iconst (v := 2) X (xdec_at tX5_rates_0 21 rfl) (by decide) ?_
          refine r_PS X 38 (by decide) rfl (by decide) rfl (xdec_at tX5_rates_0 22 rfl) ?_
          have e9 : M_rates μ p k f g = ((up2 (up2 μ.1 38 0 0) 38 0 2), μ.2) := by simp [M_rates, up2_at, (eq_true q_3), (eq_true q_14), (eq_true q_25), q_37]
          exact v_vret X hr (xdec_at tX5_rates_0 23 rfl) (Nat.le_of_ble_eq_true rfl) (Nat.le_of_ble_eq_true rfl) ⟨rfl, rfl, by rw [e9]⟩
      · refine v_if_eq (tgt := 43) X (xdec_at tX5_rates_0 14 rfl) (by decide) (fun _ => ?_) (fun h9 => absurd h9 (by decide))
        refine v_aload_n X (xdec_at tX5_rates_0 20 rfl) rfl rfl ?_
        refine v_iconst (v := 2) X (xdec_at tX5_rates_0 21 rfl) (by decide) ?_
        refine r_PS X 38 (by decide) rfl (by decide) rfl (xdec_at tX5_rates_0 22 rfl) ?_
        have e9 : M_rates μ p k f g = ((up2 (up2 μ.1 38 0 0) 38 0 2), μ.2) := by simp [M_rates, up2_at, (eq_true q_3), (eq_true q_14), q_25]
        exact v_vret X hr (xdec_at tX5_rates_0 23 rfl) (Nat.le_of_ble_eq_true rfl) (Nat.le_of_ble_eq_true rfl) ⟨rfl, rfl, by rw [e9]⟩
    · refine v_if_eq (tgt := 43) X (xdec_at tX5_rates_0 9 rfl) (by decide) (fun _ => ?_) (fun h9 => absurd h9 (by decide))
      refine v_aload_n X (xdec_at tX5_rates_0 20 rfl) rfl rfl ?_
      refine v_iconst (v := 2) X (xdec_at tX5_rates_0 21 rfl) (by decide) ?_
      refine r_PS X 38 (by decide) rfl (by decide) rfl (xdec_at tX5_rates_0 22 rfl) ?_
      have e9 : M_rates μ p k f g = ((up2 (up2 μ.1 38 0 0) 38 0 2), μ.2) := by simp [M_rates, up2_at, (eq_true q_3), q_14]
      exact v_vret X hr (xdec_at tX5_rates_0 23 rfl) (Nat.le_of_ble_eq_true rfl) (Nat.le_of_ble_eq_true rfl) ⟨rfl, rfl, by rw [e9]⟩
  · refine v_callV X myX5_asks [.int 0] [] (c_asks0 l Z B0 lay μ r) (xw_at tW_17 31 rfl) (100, 0) cM_0 rfl rfl rfl rfl (by rfl) (Nat.le_of_ble_eq_true rfl) (xdec_at tX5_rates_0 4 rfl) ⟨(Nat.le_of_ble_eq_true rfl), (Nat.le_of_ble_eq_true rfl)⟩ ⟨(Nat.le_of_ble_eq_true rfl), (Nat.le_of_ble_eq_true rfl)⟩ ?_
    rintro v9 lay9 C9 ⟨rfl, rfl, rfl⟩
    refine v_if_ne (tgt := 13) X (xdec_at tX5_rates_0 5 rfl) (by decide) (fun h9 => absurd h9 (by decide)) (fun _ => ?_)
    have e9 : M_rates μ p k f g = ((up2 μ.1 38 0 1), μ.2) := by simp [M_rates, up2_at, q_3]
    exact v_vret X hr (xdec_at tX5_rates_0 6 rfl) (Nat.le_of_ble_eq_true rfl) (Nat.le_of_ble_eq_true rfl) ⟨rfl, rfl, by rw [e9]⟩
set_option maxRecDepth 100000 in
set_option maxHeartbeats 4000000 in
theorem c_due (l : Launch) (Z : xZ) (B0 : Nat) (lay : xK → Nat) (μ : Mu) (r : xK → Option xE) (p k c : Int32) (hI : RI μ) : YM l yX5_due cX5_due 5 ((some FieldType.int)) 2 43 0 0 Z B0 [.ref (lay (100, 0)), .int p, .int k, .int c] lay (cM Z lay μ r) (fun v lay' C' => lay = lay' ∧ v = some (.int (M_due μ p k c).1) ∧ C' = cM Z lay (M_due μ p k c).2 r) := by
  refine YM_of myX5_due.2.2 RX5 rfl [some (.ref (lay (100, 0))), some (.int p), some (.int k), some (.int c), none] rfl (Nat.le_of_ble_eq_true rfl) ?_
  intro P1 P2 P3 P4 P5 P6 P7 P8 X hr hnm
  refine v_aload_n X (xdec_at tX5_due_0 0 rfl) rfl rfl ?_
  refine v_aload_n X (xdec_at tX5_due_0 1 rfl) rfl rfl ?_
  refine v_iload_n X (xdec_at tX5_due_0 2 rfl) rfl rfl ?_
  refine v_callV X myX5_isPost [.int p] [.ref (lay (100, 0))] (c_isPost l Z B0 lay μ r p) (xw_at tW_17 38 rfl) (100, 0) cM_0 rfl rfl rfl rfl (by rfl) (Nat.le_of_ble_eq_true rfl) (xdec_at tX5_due_0 3 rfl) ⟨(Nat.le_of_ble_eq_true rfl), (Nat.le_of_ble_eq_true rfl)⟩ ⟨(Nat.le_of_ble_eq_true rfl), (Nat.le_of_ble_eq_true rfl)⟩ ?_
  rintro v9 lay9 C9 ⟨rfl, rfl, ⟨rfl, q_3⟩ | ⟨rfl, q_3⟩⟩
  · refine v_callV X myX5_asks [.int 1] [] (c_asks1 l Z B0 lay μ r) (xw_at tW_17 31 rfl) (100, 0) cM_0 rfl rfl rfl rfl (by rfl) (Nat.le_of_ble_eq_true rfl) (xdec_at tX5_due_0 4 rfl) ⟨(Nat.le_of_ble_eq_true rfl), (Nat.le_of_ble_eq_true rfl)⟩ ⟨(Nat.le_of_ble_eq_true rfl), (Nat.le_of_ble_eq_true rfl)⟩ ?_
    rintro v9 lay9 C9 ⟨rfl, rfl, rfl⟩
    refine v_if_ne (tgt := 14) X (xdec_at tX5_due_0 5 rfl) (by decide) (fun _ => ?_) (fun h9 => absurd h9 (by decide))
    refine v_iload_n X (xdec_at tX5_due_0 8 rfl) rfl rfl ?_
    refine v_callS X myX5_isKind [.int k] [] (c_isKind l Z B0 lay (cM Z lay ((up2 μ.1 38 0 0), μ.2) r) k) (xw_at tW_18 4 rfl) rfl rfl (by rfl) (Nat.le_of_ble_eq_true rfl) (xdec_at tX5_due_0 9 rfl) ⟨(Nat.le_of_ble_eq_true rfl), (Nat.le_of_ble_eq_true rfl)⟩ ⟨(Nat.le_of_ble_eq_true rfl), (Nat.le_of_ble_eq_true rfl)⟩ ?_
    rintro v9 lay9 C9 ⟨rfl, rfl, ⟨rfl, q_15⟩ | ⟨rfl, q_15⟩⟩
    · refine v_if_eq (tgt := 32) X (xdec_at tX5_due_0 10 rfl) (by decide) (fun h9 => absurd h9 (by decide)) (fun _ => ?_)
      refine v_iload_n X (xdec_at tX5_due_0 11 rfl) rfl rfl ?_
      refine v_iconst (v := 0) X (xdec_at tX5_due_0 12 rfl) (by decide) ?_
      refine v_sipush (v := 10000) X (xdec_at tX5_due_0 13 rfl) (by decide) ?_
      refine v_callS X myX5_in [.int c, .int 0, .int 10000] [] (c_in l Z B0 lay (cM Z lay ((up2 μ.1 38 0 0), μ.2) r) c 0 10000) (xw_at tW_18 1 rfl) rfl rfl (by rfl) (Nat.le_of_ble_eq_true rfl) (xdec_at tX5_due_0 14 rfl) ⟨(Nat.le_of_ble_eq_true rfl), (Nat.le_of_ble_eq_true rfl)⟩ ⟨(Nat.le_of_ble_eq_true rfl), (Nat.le_of_ble_eq_true rfl)⟩ ?_
      rintro v9 lay9 C9 ⟨rfl, rfl, ⟨rfl, q_26⟩ | ⟨rfl, q_26⟩⟩
      · refine v_if_ne (tgt := 38) X (xdec_at tX5_due_0 15 rfl) (by decide) (fun _ => ?_) (fun h9 => absurd h9 (by decide))
        refine v_aload_n X (xdec_at tX5_due_0 20 rfl) rfl rfl ?_
        refine r_A X 3 (by decide) rfl rfl (xdec_at tX5_due_0 21 rfl) ?_
        refine v_iconst (v := 3) X (xdec_at tX5_due_0 22 rfl) (by decide) ?_
        refine v_iload_n X (xdec_at tX5_due_0 23 rfl) rfl rfl ?_
        refine v_imul X (xdec_at tX5_due_0 24 rfl) ?_
        refine v_iload_n X (xdec_at tX5_due_0 25 rfl) rfl rfl ?_
        refine v_iadd X (xdec_at tX5_due_0 26 rfl) ?_
        refine r_I (v := (μ.1 3 (ix ((3 * p) + k)))) X 3 (by decide) rfl rfl (hI.PK (by assumption) (by assumption)) (xdec_at tX5_due_0 27 rfl) rfl ?_
        refine v_istore (lv' := [some (.ref (lay (100, 0))), some (.int p), some (.int k), some (.int c), some (.int (μ.1 3 (ix ((3 * p) + k))))]) X (xdec_at tX5_due_0 28 rfl) (by decide) rfl ?_
        refine v_aload_n X (xdec_at tX5_due_0 29 rfl) rfl rfl ?_
        refine r_A X 3 (by decide) rfl rfl (xdec_at tX5_due_0 30 rfl) ?_
        refine v_iconst (v := 3) X (xdec_at tX5_due_0 31 rfl) (by decide) ?_
        refine v_iload_n X (xdec_at tX5_due_0 32 rfl) rfl rfl ?_
        refine v_imul X (xdec_at tX5_due_0 33 rfl) ?_
        refine v_iload_n X (xdec_at tX5_due_0 34 rfl) rfl rfl ?_
        refine v_iadd X (xdec_at tX5_due_0 35 rfl) ?_
        refine v_iload_n X (xdec_at tX5_due_0 36 rfl) rfl rfl ?_
        refine r_PI X 3 (by decide) rfl rfl (hI.PK (by assumption) (by assumption)) (xdec_at tX5_due_0 37 rfl) ?_
        refine v_iload X (xdec_at tX5_due_0 38 rfl) rfl ?_
        have e9 : M_due μ p k c = ((μ.1 3 (ix ((3 * p) + k))), ((up2 (up2 μ.1 38 0 0) 3 (ix ((3 * p) + k)) c), μ.2)) := by simp [M_due, up2_at, (eq_true q_3), (eq_true q_15), (eq_true q_26)]
        exact v_iret X hr (xdec_at tX5_due_0 39 rfl) (Nat.le_of_ble_eq_true rfl) (Nat.le_of_ble_eq_true rfl) ⟨rfl, by rw [e9], by rw [e9]⟩
      · refine v_if_ne (tgt := 38) X (xdec_at tX5_due_0 15 rfl) (by decide) (fun h9 => absurd h9 (by decide)) (fun _ => ?_)
        refine v_aload_n X (xdec_at tX5_due_0 16 rfl) rfl rfl ?_
        refine v_iconst (v := 2) X (xdec_at tX5_due_0 17 rfl) (by decide) ?_
        refine v_callV X myX5_fails [.int 2] [] (c_fails l Z B0 lay ((up2 μ.1 38 0 0), μ.2) r 2) (xw_at tW_18 11 rfl) (100, 0) cM_0 rfl rfl rfl rfl (by rfl) (Nat.le_of_ble_eq_true rfl) (xdec_at tX5_due_0 18 rfl) ⟨(Nat.le_of_ble_eq_true rfl), (Nat.le_of_ble_eq_true rfl)⟩ ⟨(Nat.le_of_ble_eq_true rfl), (Nat.le_of_ble_eq_true rfl)⟩ ?_
        rintro v9 lay9 C9 ⟨rfl, rfl, rfl⟩
        have e9 : M_due μ p k c = (0, ((up2 (up2 μ.1 38 0 0) 38 0 2), μ.2)) := by simp [M_due, up2_at, (eq_true q_3), (eq_true q_15), q_26]
        exact v_iret X hr (xdec_at tX5_due_0 19 rfl) (Nat.le_of_ble_eq_true rfl) (Nat.le_of_ble_eq_true rfl) ⟨rfl, by rw [e9], by rw [e9]⟩
    · refine v_if_eq (tgt := 32) X (xdec_at tX5_due_0 10 rfl) (by decide) (fun _ => ?_) (fun h9 => absurd h9 (by decide))
      refine v_aload_n X (xdec_at tX5_due_0 16 rfl) rfl rfl ?_
      refine v_iconst (v := 2) X (xdec_at tX5_due_0 17 rfl) (by decide) ?_
      refine v_callV X myX5_fails [.int 2] [] (c_fails l Z B0 lay ((up2 μ.1 38 0 0), μ.2) r 2) (xw_at tW_18 11 rfl) (100, 0) cM_0 rfl rfl rfl rfl (by rfl) (Nat.le_of_ble_eq_true rfl) (xdec_at tX5_due_0 18 rfl) ⟨(Nat.le_of_ble_eq_true rfl), (Nat.le_of_ble_eq_true rfl)⟩ ⟨(Nat.le_of_ble_eq_true rfl), (Nat.le_of_ble_eq_true rfl)⟩ ?_
      rintro v9 lay9 C9 ⟨rfl, rfl, rfl⟩
      have e9 : M_due μ p k c = (0, ((up2 (up2 μ.1 38 0 0) 38 0 2), μ.2)) := by simp [M_due, up2_at, (eq_true q_3), q_15]
      exact v_iret X hr (xdec_at tX5_due_0 19 rfl) (Nat.le_of_ble_eq_true rfl) (Nat.le_of_ble_eq_true rfl) ⟨rfl, by rw [e9], by rw [e9]⟩
  · refine v_callV X myX5_asks [.int 0] [] (c_asks0 l Z B0 lay μ r) (xw_at tW_17 31 rfl) (100, 0) cM_0 rfl rfl rfl rfl (by rfl) (Nat.le_of_ble_eq_true rfl) (xdec_at tX5_due_0 4 rfl) ⟨(Nat.le_of_ble_eq_true rfl), (Nat.le_of_ble_eq_true rfl)⟩ ⟨(Nat.le_of_ble_eq_true rfl), (Nat.le_of_ble_eq_true rfl)⟩ ?_
    rintro v9 lay9 C9 ⟨rfl, rfl, rfl⟩
    refine v_if_ne (tgt := 14) X (xdec_at tX5_due_0 5 rfl) (by decide) (fun h9 => absurd h9 (by decide)) (fun _ => ?_)
    refine v_iconst (v := 0) X (xdec_at tX5_due_0 6 rfl) (by decide) ?_
    have e9 : M_due μ p k c = (0, ((up2 μ.1 38 0 1), μ.2)) := by simp [M_due, up2_at, q_3]
    exact v_iret X hr (xdec_at tX5_due_0 7 rfl) (Nat.le_of_ble_eq_true rfl) (Nat.le_of_ble_eq_true rfl) ⟨rfl, by rw [e9], by rw [e9]⟩
set_option maxRecDepth 100000 in
set_option maxHeartbeats 4000000 in
theorem c_charge (l : Launch) (Z : xZ) (B0 : Nat) (lay : xK → Nat) (μ : Mu) (r : xK → Option xE) (p c : Int32) (hI : RI μ) : YM l yX5_charge cX5_charge 4 ((some FieldType.int)) 2 43 0 0 Z B0 [.ref (lay (100, 0)), .int p, .int c] lay (cM Z lay μ r) (fun v lay' C' => lay = lay' ∧ v = some (.int (M_charge μ p c).1) ∧ C' = cM Z lay (M_charge μ p c).2 r) := by
  refine YM_of myX5_charge.2.2 RX5 rfl [some (.ref (lay (100, 0))), some (.int p), some (.int c), none] rfl (Nat.le_of_ble_eq_true rfl) ?_
  intro P1 P2 P3 P4 P5 P6 P7 P8 X hr hnm
  refine v_aload_n X (xdec_at tX5_charge_0 0 rfl) rfl rfl ?_
  refine v_aload_n X (xdec_at tX5_charge_0 1 rfl) rfl rfl ?_
  refine v_iload_n X (xdec_at tX5_charge_0 2 rfl) rfl rfl ?_
  refine v_callV X myX5_isPost [.int p] [.ref (lay (100, 0))] (c_isPost l Z B0 lay μ r p) (xw_at tW_17 38 rfl) (100, 0) cM_0 rfl rfl rfl rfl (by rfl) (Nat.le_of_ble_eq_true rfl) (xdec_at tX5_charge_0 3 rfl) ⟨(Nat.le_of_ble_eq_true rfl), (Nat.le_of_ble_eq_true rfl)⟩ ⟨(Nat.le_of_ble_eq_true rfl), (Nat.le_of_ble_eq_true rfl)⟩ ?_
  rintro v9 lay9 C9 ⟨rfl, rfl, ⟨rfl, q_3⟩ | ⟨rfl, q_3⟩⟩
  · refine v_callV X myX5_asks [.int 1] [] (c_asks1 l Z B0 lay μ r) (xw_at tW_17 31 rfl) (100, 0) cM_0 rfl rfl rfl rfl (by rfl) (Nat.le_of_ble_eq_true rfl) (xdec_at tX5_charge_0 4 rfl) ⟨(Nat.le_of_ble_eq_true rfl), (Nat.le_of_ble_eq_true rfl)⟩ ⟨(Nat.le_of_ble_eq_true rfl), (Nat.le_of_ble_eq_true rfl)⟩ ?_
    rintro v9 lay9 C9 ⟨rfl, rfl, rfl⟩
    refine v_if_ne (tgt := 14) X (xdec_at tX5_charge_0 5 rfl) (by decide) (fun _ => ?_) (fun h9 => absurd h9 (by decide))
    refine v_iload_n X (xdec_at tX5_charge_0 8 rfl) rfl rfl ?_
    refine v_iconst (v := 0) X (xdec_at tX5_charge_0 9 rfl) (by decide) ?_
    refine v_sipush (v := 1000) X (xdec_at tX5_charge_0 10 rfl) (by decide) ?_
    refine v_callS X myX5_in [.int c, .int 0, .int 1000] [] (c_in l Z B0 lay (cM Z lay ((up2 μ.1 38 0 0), μ.2) r) c 0 1000) (xw_at tW_18 1 rfl) rfl rfl (by rfl) (Nat.le_of_ble_eq_true rfl) (xdec_at tX5_charge_0 11 rfl) ⟨(Nat.le_of_ble_eq_true rfl), (Nat.le_of_ble_eq_true rfl)⟩ ⟨(Nat.le_of_ble_eq_true rfl), (Nat.le_of_ble_eq_true rfl)⟩ ?_
    rintro v9 lay9 C9 ⟨rfl, rfl, ⟨rfl, q_19⟩ | ⟨rfl, q_19⟩⟩
    · refine v_if_ne (tgt := 31) X (xdec_at tX5_charge_0 12 rfl) (by decide) (fun _ => ?_) (fun h9 => absurd h9 (by decide))
      refine v_aload_n X (xdec_at tX5_charge_0 17 rfl) rfl rfl ?_
      refine r_A X 4 (by decide) rfl rfl (xdec_at tX5_charge_0 18 rfl) ?_
      refine v_iload_n X (xdec_at tX5_charge_0 19 rfl) rfl rfl ?_
      refine r_I (v := (μ.1 4 (ix p))) X 4 (by decide) rfl rfl (hI.P (by assumption)) (xdec_at tX5_charge_0 20 rfl) rfl ?_
      refine v_istore_n (lv' := [some (.ref (lay (100, 0))), some (.int p), some (.int c), some (.int (μ.1 4 (ix p)))]) X (xdec_at tX5_charge_0 21 rfl) rfl (by decide) rfl ?_
      refine v_aload_n X (xdec_at tX5_charge_0 22 rfl) rfl rfl ?_
      refine r_A X 4 (by decide) rfl rfl (xdec_at tX5_charge_0 23 rfl) ?_
      refine v_iload_n X (xdec_at tX5_charge_0 24 rfl) rfl rfl ?_
      refine v_iload_n X (xdec_at tX5_charge_0 25 rfl) rfl rfl ?_
      refine r_PI X 4 (by decide) rfl rfl (hI.P (by assumption)) (xdec_at tX5_charge_0 26 rfl) ?_
      refine v_iload_n X (xdec_at tX5_charge_0 27 rfl) rfl rfl ?_
      have e9 : M_charge μ p c = ((μ.1 4 (ix p)), ((up2 (up2 μ.1 38 0 0) 4 (ix p) c), μ.2)) := by simp [M_charge, up2_at, (eq_true q_3), (eq_true q_19)]
      exact v_iret X hr (xdec_at tX5_charge_0 28 rfl) (Nat.le_of_ble_eq_true rfl) (Nat.le_of_ble_eq_true rfl) ⟨rfl, by rw [e9], by rw [e9]⟩
    · refine v_if_ne (tgt := 31) X (xdec_at tX5_charge_0 12 rfl) (by decide) (fun h9 => absurd h9 (by decide)) (fun _ => ?_)
      refine v_aload_n X (xdec_at tX5_charge_0 13 rfl) rfl rfl ?_
      refine v_iconst (v := 2) X (xdec_at tX5_charge_0 14 rfl) (by decide) ?_
      refine v_callV X myX5_fails [.int 2] [] (c_fails l Z B0 lay ((up2 μ.1 38 0 0), μ.2) r 2) (xw_at tW_18 11 rfl) (100, 0) cM_0 rfl rfl rfl rfl (by rfl) (Nat.le_of_ble_eq_true rfl) (xdec_at tX5_charge_0 15 rfl) ⟨(Nat.le_of_ble_eq_true rfl), (Nat.le_of_ble_eq_true rfl)⟩ ⟨(Nat.le_of_ble_eq_true rfl), (Nat.le_of_ble_eq_true rfl)⟩ ?_
      rintro v9 lay9 C9 ⟨rfl, rfl, rfl⟩
      have e9 : M_charge μ p c = (0, ((up2 (up2 μ.1 38 0 0) 38 0 2), μ.2)) := by simp [M_charge, up2_at, (eq_true q_3), q_19]
      exact v_iret X hr (xdec_at tX5_charge_0 16 rfl) (Nat.le_of_ble_eq_true rfl) (Nat.le_of_ble_eq_true rfl) ⟨rfl, by rw [e9], by rw [e9]⟩
  · refine v_callV X myX5_asks [.int 0] [] (c_asks0 l Z B0 lay μ r) (xw_at tW_17 31 rfl) (100, 0) cM_0 rfl rfl rfl rfl (by rfl) (Nat.le_of_ble_eq_true rfl) (xdec_at tX5_charge_0 4 rfl) ⟨(Nat.le_of_ble_eq_true rfl), (Nat.le_of_ble_eq_true rfl)⟩ ⟨(Nat.le_of_ble_eq_true rfl), (Nat.le_of_ble_eq_true rfl)⟩ ?_
    rintro v9 lay9 C9 ⟨rfl, rfl, rfl⟩
    refine v_if_ne (tgt := 14) X (xdec_at tX5_charge_0 5 rfl) (by decide) (fun h9 => absurd h9 (by decide)) (fun _ => ?_)
    refine v_iconst (v := 0) X (xdec_at tX5_charge_0 6 rfl) (by decide) ?_
    have e9 : M_charge μ p c = (0, ((up2 μ.1 38 0 1), μ.2)) := by simp [M_charge, up2_at, q_3]
    exact v_iret X hr (xdec_at tX5_charge_0 7 rfl) (Nat.le_of_ble_eq_true rfl) (Nat.le_of_ble_eq_true rfl) ⟨rfl, by rw [e9], by rw [e9]⟩
set_option maxRecDepth 100000 in
set_option maxHeartbeats 4000000 in
theorem c_coupon (l : Launch) (Z : xZ) (B0 : Nat) (lay : xK → Nat) (μ : Mu) (r : xK → Option xE) (p c : Int32) (hI : RI μ) : YM l yX5_coupon cX5_coupon 4 ((some FieldType.int)) 2 43 0 0 Z B0 [.ref (lay (100, 0)), .int p, .int c] lay (cM Z lay μ r) (fun v lay' C' => lay = lay' ∧ v = some (.int (M_coupon μ p c).1) ∧ C' = cM Z lay (M_coupon μ p c).2 r) := by
  refine YM_of myX5_coupon.2.2 RX5 rfl [some (.ref (lay (100, 0))), some (.int p), some (.int c), none] rfl (Nat.le_of_ble_eq_true rfl) ?_
  intro P1 P2 P3 P4 P5 P6 P7 P8 X hr hnm
  refine v_aload_n X (xdec_at tX5_coupon_0 0 rfl) rfl rfl ?_
  refine v_aload_n X (xdec_at tX5_coupon_0 1 rfl) rfl rfl ?_
  refine v_iload_n X (xdec_at tX5_coupon_0 2 rfl) rfl rfl ?_
  refine v_callV X myX5_isPost [.int p] [.ref (lay (100, 0))] (c_isPost l Z B0 lay μ r p) (xw_at tW_17 38 rfl) (100, 0) cM_0 rfl rfl rfl rfl (by rfl) (Nat.le_of_ble_eq_true rfl) (xdec_at tX5_coupon_0 3 rfl) ⟨(Nat.le_of_ble_eq_true rfl), (Nat.le_of_ble_eq_true rfl)⟩ ⟨(Nat.le_of_ble_eq_true rfl), (Nat.le_of_ble_eq_true rfl)⟩ ?_
  rintro v9 lay9 C9 ⟨rfl, rfl, ⟨rfl, q_3⟩ | ⟨rfl, q_3⟩⟩
  · refine v_callV X myX5_asks [.int 1] [] (c_asks1 l Z B0 lay μ r) (xw_at tW_17 31 rfl) (100, 0) cM_0 rfl rfl rfl rfl (by rfl) (Nat.le_of_ble_eq_true rfl) (xdec_at tX5_coupon_0 4 rfl) ⟨(Nat.le_of_ble_eq_true rfl), (Nat.le_of_ble_eq_true rfl)⟩ ⟨(Nat.le_of_ble_eq_true rfl), (Nat.le_of_ble_eq_true rfl)⟩ ?_
    rintro v9 lay9 C9 ⟨rfl, rfl, rfl⟩
    refine v_if_ne (tgt := 14) X (xdec_at tX5_coupon_0 5 rfl) (by decide) (fun _ => ?_) (fun h9 => absurd h9 (by decide))
    refine v_iload_n X (xdec_at tX5_coupon_0 8 rfl) rfl rfl ?_
    refine v_iconst (v := 0) X (xdec_at tX5_coupon_0 9 rfl) (by decide) ?_
    refine v_sipush (v := 10000) X (xdec_at tX5_coupon_0 10 rfl) (by decide) ?_
    refine v_callS X myX5_in [.int c, .int 0, .int 10000] [] (c_in l Z B0 lay (cM Z lay ((up2 μ.1 38 0 0), μ.2) r) c 0 10000) (xw_at tW_18 1 rfl) rfl rfl (by rfl) (Nat.le_of_ble_eq_true rfl) (xdec_at tX5_coupon_0 11 rfl) ⟨(Nat.le_of_ble_eq_true rfl), (Nat.le_of_ble_eq_true rfl)⟩ ⟨(Nat.le_of_ble_eq_true rfl), (Nat.le_of_ble_eq_true rfl)⟩ ?_
    rintro v9 lay9 C9 ⟨rfl, rfl, ⟨rfl, q_19⟩ | ⟨rfl, q_19⟩⟩
    · refine v_if_ne (tgt := 31) X (xdec_at tX5_coupon_0 12 rfl) (by decide) (fun _ => ?_) (fun h9 => absurd h9 (by decide))
      refine v_aload_n X (xdec_at tX5_coupon_0 17 rfl) rfl rfl ?_
      refine r_A X 5 (by decide) rfl rfl (xdec_at tX5_coupon_0 18 rfl) ?_
      refine v_iload_n X (xdec_at tX5_coupon_0 19 rfl) rfl rfl ?_
      refine r_I (v := (μ.1 5 (ix p))) X 5 (by decide) rfl rfl (hI.P (by assumption)) (xdec_at tX5_coupon_0 20 rfl) rfl ?_
      refine v_istore_n (lv' := [some (.ref (lay (100, 0))), some (.int p), some (.int c), some (.int (μ.1 5 (ix p)))]) X (xdec_at tX5_coupon_0 21 rfl) rfl (by decide) rfl ?_
      refine v_aload_n X (xdec_at tX5_coupon_0 22 rfl) rfl rfl ?_
      refine r_A X 5 (by decide) rfl rfl (xdec_at tX5_coupon_0 23 rfl) ?_
      refine v_iload_n X (xdec_at tX5_coupon_0 24 rfl) rfl rfl ?_
      refine v_iload_n X (xdec_at tX5_coupon_0 25 rfl) rfl rfl ?_
      refine r_PI X 5 (by decide) rfl rfl (hI.P (by assumption)) (xdec_at tX5_coupon_0 26 rfl) ?_
      refine v_iload_n X (xdec_at tX5_coupon_0 27 rfl) rfl rfl ?_
      have e9 : M_coupon μ p c = ((μ.1 5 (ix p)), ((up2 (up2 μ.1 38 0 0) 5 (ix p) c), μ.2)) := by simp [M_coupon, up2_at, (eq_true q_3), (eq_true q_19)]
      exact v_iret X hr (xdec_at tX5_coupon_0 28 rfl) (Nat.le_of_ble_eq_true rfl) (Nat.le_of_ble_eq_true rfl) ⟨rfl, by rw [e9], by rw [e9]⟩
    · refine v_if_ne (tgt := 31) X (xdec_at tX5_coupon_0 12 rfl) (by decide) (fun h9 => absurd h9 (by decide)) (fun _ => ?_)
      refine v_aload_n X (xdec_at tX5_coupon_0 13 rfl) rfl rfl ?_
      refine v_iconst (v := 2) X (xdec_at tX5_coupon_0 14 rfl) (by decide) ?_
      refine v_callV X myX5_fails [.int 2] [] (c_fails l Z B0 lay ((up2 μ.1 38 0 0), μ.2) r 2) (xw_at tW_18 11 rfl) (100, 0) cM_0 rfl rfl rfl rfl (by rfl) (Nat.le_of_ble_eq_true rfl) (xdec_at tX5_coupon_0 15 rfl) ⟨(Nat.le_of_ble_eq_true rfl), (Nat.le_of_ble_eq_true rfl)⟩ ⟨(Nat.le_of_ble_eq_true rfl), (Nat.le_of_ble_eq_true rfl)⟩ ?_
      rintro v9 lay9 C9 ⟨rfl, rfl, rfl⟩
      have e9 : M_coupon μ p c = (0, ((up2 (up2 μ.1 38 0 0) 38 0 2), μ.2)) := by simp [M_coupon, up2_at, (eq_true q_3), q_19]
      exact v_iret X hr (xdec_at tX5_coupon_0 16 rfl) (Nat.le_of_ble_eq_true rfl) (Nat.le_of_ble_eq_true rfl) ⟨rfl, by rw [e9], by rw [e9]⟩
  · refine v_callV X myX5_asks [.int 0] [] (c_asks0 l Z B0 lay μ r) (xw_at tW_17 31 rfl) (100, 0) cM_0 rfl rfl rfl rfl (by rfl) (Nat.le_of_ble_eq_true rfl) (xdec_at tX5_coupon_0 4 rfl) ⟨(Nat.le_of_ble_eq_true rfl), (Nat.le_of_ble_eq_true rfl)⟩ ⟨(Nat.le_of_ble_eq_true rfl), (Nat.le_of_ble_eq_true rfl)⟩ ?_
    rintro v9 lay9 C9 ⟨rfl, rfl, rfl⟩
    refine v_if_ne (tgt := 14) X (xdec_at tX5_coupon_0 5 rfl) (by decide) (fun h9 => absurd h9 (by decide)) (fun _ => ?_)
    refine v_iconst (v := 0) X (xdec_at tX5_coupon_0 6 rfl) (by decide) ?_
    have e9 : M_coupon μ p c = (0, ((up2 μ.1 38 0 1), μ.2)) := by simp [M_coupon, up2_at, q_3]
    exact v_iret X hr (xdec_at tX5_coupon_0 7 rfl) (Nat.le_of_ble_eq_true rfl) (Nat.le_of_ble_eq_true rfl) ⟨rfl, by rw [e9], by rw [e9]⟩
set_option maxRecDepth 100000 in
set_option maxHeartbeats 4000000 in
theorem c_strike (l : Launch) (Z : xZ) (B0 : Nat) (lay : xK → Nat) (μ : Mu) (r : xK → Option xE) (p c : Int32) (hI : RI μ) (hc : c = 0 ∨ c = 1) : YM l yX5_strike cX5_strike 4 ((some FieldType.boolean)) 2 43 0 0 Z B0 [.ref (lay (100, 0)), .int p, .int c] lay (cM Z lay μ r) (fun v lay' C' => lay = lay' ∧ v = some (.int (M_strike μ p c).1) ∧ C' = cM Z lay (M_strike μ p c).2 r) := by
  refine YM_of myX5_strike.2.2 RX5 rfl [some (.ref (lay (100, 0))), some (.int p), some (.int c), none] rfl (Nat.le_of_ble_eq_true rfl) ?_
  intro P1 P2 P3 P4 P5 P6 P7 P8 X hr hnm
  refine v_aload_n X (xdec_at tX5_strike_0 0 rfl) rfl rfl ?_
  refine v_aload_n X (xdec_at tX5_strike_0 1 rfl) rfl rfl ?_
  refine v_iload_n X (xdec_at tX5_strike_0 2 rfl) rfl rfl ?_
  refine v_callV X myX5_isPost [.int p] [.ref (lay (100, 0))] (c_isPost l Z B0 lay μ r p) (xw_at tW_17 38 rfl) (100, 0) cM_0 rfl rfl rfl rfl (by rfl) (Nat.le_of_ble_eq_true rfl) (xdec_at tX5_strike_0 3 rfl) ⟨(Nat.le_of_ble_eq_true rfl), (Nat.le_of_ble_eq_true rfl)⟩ ⟨(Nat.le_of_ble_eq_true rfl), (Nat.le_of_ble_eq_true rfl)⟩ ?_
  rintro v9 lay9 C9 ⟨rfl, rfl, ⟨rfl, q_3⟩ | ⟨rfl, q_3⟩⟩
  · refine v_callV X myX5_asks [.int 1] [] (c_asks1 l Z B0 lay μ r) (xw_at tW_17 31 rfl) (100, 0) cM_0 rfl rfl rfl rfl (by rfl) (Nat.le_of_ble_eq_true rfl) (xdec_at tX5_strike_0 4 rfl) ⟨(Nat.le_of_ble_eq_true rfl), (Nat.le_of_ble_eq_true rfl)⟩ ⟨(Nat.le_of_ble_eq_true rfl), (Nat.le_of_ble_eq_true rfl)⟩ ?_
    rintro v9 lay9 C9 ⟨rfl, rfl, rfl⟩
    refine v_if_ne (tgt := 14) X (xdec_at tX5_strike_0 5 rfl) (by decide) (fun _ => ?_) (fun h9 => absurd h9 (by decide))
    refine v_aload_n X (xdec_at tX5_strike_0 8 rfl) rfl rfl ?_
    refine r_A X 6 (by decide) rfl rfl (xdec_at tX5_strike_0 9 rfl) ?_
    refine v_iload_n X (xdec_at tX5_strike_0 10 rfl) rfl rfl ?_
    refine r_Z (v := (μ.1 6 (ix p))) X 6 (by decide) rfl rfl (hI.P (by assumption)) (xdec_at tX5_strike_0 11 rfl) rfl ?_
    refine v_istore_n (lv' := [some (.ref (lay (100, 0))), some (.int p), some (.int c), some (.int (μ.1 6 (ix p)))]) X (xdec_at tX5_strike_0 12 rfl) rfl (by decide) rfl ?_
    refine v_aload_n X (xdec_at tX5_strike_0 13 rfl) rfl rfl ?_
    refine r_A X 6 (by decide) rfl rfl (xdec_at tX5_strike_0 14 rfl) ?_
    refine v_iload_n X (xdec_at tX5_strike_0 15 rfl) rfl rfl ?_
    refine v_iload_n X (xdec_at tX5_strike_0 16 rfl) rfl rfl ?_
    refine r_PZ X 6 (by decide) rfl rfl hc (hI.P (by assumption)) (xdec_at tX5_strike_0 17 rfl) ?_
    refine v_iload_n X (xdec_at tX5_strike_0 18 rfl) rfl rfl ?_
    have e9 : M_strike μ p c = ((μ.1 6 (ix p)), ((up2 (up2 μ.1 38 0 0) 6 (ix p) c), μ.2)) := by simp [M_strike, up2_at, (eq_true q_3)]
    exact v_zret X hr (xdec_at tX5_strike_0 19 rfl) (Nat.le_of_ble_eq_true rfl) (Nat.le_of_ble_eq_true rfl) (hI.B (by decide)) ⟨rfl, by rw [e9], by rw [e9]⟩
  · refine v_callV X myX5_asks [.int 0] [] (c_asks0 l Z B0 lay μ r) (xw_at tW_17 31 rfl) (100, 0) cM_0 rfl rfl rfl rfl (by rfl) (Nat.le_of_ble_eq_true rfl) (xdec_at tX5_strike_0 4 rfl) ⟨(Nat.le_of_ble_eq_true rfl), (Nat.le_of_ble_eq_true rfl)⟩ ⟨(Nat.le_of_ble_eq_true rfl), (Nat.le_of_ble_eq_true rfl)⟩ ?_
    rintro v9 lay9 C9 ⟨rfl, rfl, rfl⟩
    refine v_if_ne (tgt := 14) X (xdec_at tX5_strike_0 5 rfl) (by decide) (fun h9 => absurd h9 (by decide)) (fun _ => ?_)
    refine v_iconst (v := 0) X (xdec_at tX5_strike_0 6 rfl) (by decide) ?_
    have e9 : M_strike μ p c = (0, ((up2 μ.1 38 0 1), μ.2)) := by simp [M_strike, up2_at, q_3]
    exact v_zret X hr (xdec_at tX5_strike_0 7 rfl) (Nat.le_of_ble_eq_true rfl) (Nat.le_of_ble_eq_true rfl) (by rfl) ⟨rfl, by rw [e9], by rw [e9]⟩
set_option maxRecDepth 100000 in
set_option maxHeartbeats 4000000 in
theorem c_leg (l : Launch) (Z : xZ) (B0 : Nat) (lay : xK → Nat) (μ : Mu) (r : xK → Option xE) (a b d : Int32) (hI : RI μ) : YM l yX5_leg cX5_leg 4 ((some FieldType.int)) 2 43 0 0 Z B0 [.ref (lay (100, 0)), .int a, .int b, .int d] lay (cM Z lay μ r) (fun v lay' C' => lay = lay' ∧ v = some (.int (M_leg μ a b d).1) ∧ C' = cM Z lay (M_leg μ a b d).2 r) := by
  refine YM_of myX5_leg.2.2 RX5 rfl [some (.ref (lay (100, 0))), some (.int a), some (.int b), some (.int d)] rfl (Nat.le_of_ble_eq_true rfl) ?_
  intro P1 P2 P3 P4 P5 P6 P7 P8 X hr hnm
  refine v_aload_n X (xdec_at tX5_leg_0 0 rfl) rfl rfl ?_
  refine v_aload_n X (xdec_at tX5_leg_0 1 rfl) rfl rfl ?_
  refine v_iload_n X (xdec_at tX5_leg_0 2 rfl) rfl rfl ?_
  refine v_callV X myX5_isPost [.int a] [.ref (lay (100, 0))] (c_isPost l Z B0 lay μ r a) (xw_at tW_17 38 rfl) (100, 0) cM_0 rfl rfl rfl rfl (by rfl) (Nat.le_of_ble_eq_true rfl) (xdec_at tX5_leg_0 3 rfl) ⟨(Nat.le_of_ble_eq_true rfl), (Nat.le_of_ble_eq_true rfl)⟩ ⟨(Nat.le_of_ble_eq_true rfl), (Nat.le_of_ble_eq_true rfl)⟩ ?_
  rintro v9 lay9 C9 ⟨rfl, rfl, ⟨rfl, q_3⟩ | ⟨rfl, q_3⟩⟩
  · refine v_if_eq (tgt := 21) X (xdec_at tX5_leg_0 4 rfl) (by decide) (fun h9 => absurd h9 (by decide)) (fun _ => ?_)
    refine v_aload_n X (xdec_at tX5_leg_0 5 rfl) rfl rfl ?_
    refine v_iload_n X (xdec_at tX5_leg_0 6 rfl) rfl rfl ?_
    refine v_callV X myX5_isPost [.int b] [.ref (lay (100, 0))] (c_isPost l Z B0 lay μ r b) (xw_at tW_17 38 rfl) (100, 0) cM_0 rfl rfl rfl rfl (by rfl) (Nat.le_of_ble_eq_true rfl) (xdec_at tX5_leg_0 7 rfl) ⟨(Nat.le_of_ble_eq_true rfl), (Nat.le_of_ble_eq_true rfl)⟩ ⟨(Nat.le_of_ble_eq_true rfl), (Nat.le_of_ble_eq_true rfl)⟩ ?_
    rintro v9 lay9 C9 ⟨rfl, rfl, ⟨rfl, q_11⟩ | ⟨rfl, q_11⟩⟩
    · refine v_if_eq (tgt := 21) X (xdec_at tX5_leg_0 8 rfl) (by decide) (fun h9 => absurd h9 (by decide)) (fun _ => ?_)
      refine v_iconst (v := 1) X (xdec_at tX5_leg_0 9 rfl) (by decide) ?_
      refine v_goto (tgt := 22) X (xdec_at tX5_leg_0 10 rfl) (by decide) ?_
      refine v_callV X myX5_asks [.int 1] [] (c_asks1 l Z B0 lay μ r) (xw_at tW_17 31 rfl) (100, 0) cM_0 rfl rfl rfl rfl (by rfl) (Nat.le_of_ble_eq_true rfl) (xdec_at tX5_leg_0 12 rfl) ⟨(Nat.le_of_ble_eq_true rfl), (Nat.le_of_ble_eq_true rfl)⟩ ⟨(Nat.le_of_ble_eq_true rfl), (Nat.le_of_ble_eq_true rfl)⟩ ?_
      rintro v9 lay9 C9 ⟨rfl, rfl, rfl⟩
      refine v_if_ne (tgt := 30) X (xdec_at tX5_leg_0 13 rfl) (by decide) (fun _ => ?_) (fun h9 => absurd h9 (by decide))
      refine v_iload_n X (xdec_at tX5_leg_0 16 rfl) rfl rfl ?_
      refine v_iload_n X (xdec_at tX5_leg_0 17 rfl) rfl rfl ?_
      refine v_icmp_eq (tgt := 45) X (xdec_at tX5_leg_0 18 rfl) (by decide) (fun c_32 => ?_) (fun c_32 => ?_)
      · refine v_aload_n X (xdec_at tX5_leg_0 24 rfl) rfl rfl ?_
        refine v_iconst (v := 2) X (xdec_at tX5_leg_0 25 rfl) (by decide) ?_
        refine v_callV X myX5_fails [.int 2] [] (c_fails l Z B0 lay ((up2 μ.1 38 0 0), μ.2) r 2) (xw_at tW_18 11 rfl) (100, 0) cM_0 rfl rfl rfl rfl (by rfl) (Nat.le_of_ble_eq_true rfl) (xdec_at tX5_leg_0 26 rfl) ⟨(Nat.le_of_ble_eq_true rfl), (Nat.le_of_ble_eq_true rfl)⟩ ⟨(Nat.le_of_ble_eq_true rfl), (Nat.le_of_ble_eq_true rfl)⟩ ?_
        rintro v9 lay9 C9 ⟨rfl, rfl, rfl⟩
        have e9 : M_leg μ a b d = (0, ((up2 (up2 μ.1 38 0 0) 38 0 2), μ.2)) := by simp [M_leg, up2_at, (eq_true q_3), (eq_true q_11), (eq_true c_32)]
        exact v_iret X hr (xdec_at tX5_leg_0 27 rfl) (Nat.le_of_ble_eq_true rfl) (Nat.le_of_ble_eq_true rfl) ⟨rfl, by rw [e9], by rw [e9]⟩
      · refine v_iload_n X (xdec_at tX5_leg_0 19 rfl) rfl rfl ?_
        refine v_iconst (v := 1) X (xdec_at tX5_leg_0 20 rfl) (by decide) ?_
        refine v_bipush (v := 100) X (xdec_at tX5_leg_0 21 rfl) (by decide) ?_
        refine v_callS X myX5_in [.int d, .int 1, .int 100] [] (c_in l Z B0 lay (cM Z lay ((up2 μ.1 38 0 0), μ.2) r) d 1 100) (xw_at tW_18 1 rfl) rfl rfl (by rfl) (Nat.le_of_ble_eq_true rfl) (xdec_at tX5_leg_0 22 rfl) ⟨(Nat.le_of_ble_eq_true rfl), (Nat.le_of_ble_eq_true rfl)⟩ ⟨(Nat.le_of_ble_eq_true rfl), (Nat.le_of_ble_eq_true rfl)⟩ ?_
        rintro v9 lay9 C9 ⟨rfl, rfl, ⟨rfl, q_39⟩ | ⟨rfl, q_39⟩⟩
        · refine v_if_ne (tgt := 51) X (xdec_at tX5_leg_0 23 rfl) (by decide) (fun _ => ?_) (fun h9 => absurd h9 (by decide))
          refine v_aload_n X (xdec_at tX5_leg_0 28 rfl) rfl rfl ?_
          refine r_S (v := (μ.1 10 0)) X 10 (by decide) rfl rfl (xdec_at tX5_leg_0 29 rfl) rfl ?_
          refine v_bipush (v := 20) X (xdec_at tX5_leg_0 30 rfl) (by decide) ?_
          refine v_icmp_ne (tgt := 66) X (xdec_at tX5_leg_0 31 rfl) (by decide) (fun c_57 => ?_) (fun c_57 => ?_)
          · refine v_aload_n X (xdec_at tX5_leg_0 36 rfl) rfl rfl ?_
            refine r_A X 11 (by decide) rfl rfl (xdec_at tX5_leg_0 37 rfl) ?_
            refine v_aload_n X (xdec_at tX5_leg_0 38 rfl) rfl rfl ?_
            refine r_S (v := (μ.1 10 0)) X 10 (by decide) rfl rfl (xdec_at tX5_leg_0 39 rfl) rfl ?_
            refine v_iload_n X (xdec_at tX5_leg_1 0 rfl) rfl rfl ?_
            refine r_PI X 11 (by decide) rfl rfl (hI.l (by assumption)) (xdec_at tX5_leg_1 1 rfl) ?_
            refine v_aload_n X (xdec_at tX5_leg_1 2 rfl) rfl rfl ?_
            refine r_A X 12 (by decide) rfl rfl (xdec_at tX5_leg_1 3 rfl) ?_
            refine v_aload_n X (xdec_at tX5_leg_1 4 rfl) rfl rfl ?_
            refine r_S (v := (μ.1 10 0)) X 10 (by decide) rfl rfl (xdec_at tX5_leg_1 5 rfl) rfl ?_
            refine v_iload_n X (xdec_at tX5_leg_1 6 rfl) rfl rfl ?_
            refine r_PI X 12 (by decide) rfl rfl (hI.l (by assumption)) (xdec_at tX5_leg_1 7 rfl) ?_
            refine v_aload_n X (xdec_at tX5_leg_1 8 rfl) rfl rfl ?_
            refine r_A X 13 (by decide) rfl rfl (xdec_at tX5_leg_1 9 rfl) ?_
            refine v_aload_n X (xdec_at tX5_leg_1 10 rfl) rfl rfl ?_
            refine r_S (v := (μ.1 10 0)) X 10 (by decide) rfl rfl (xdec_at tX5_leg_1 11 rfl) rfl ?_
            refine v_iload_n X (xdec_at tX5_leg_1 12 rfl) rfl rfl ?_
            refine r_PI X 13 (by decide) rfl rfl (hI.l (by assumption)) (xdec_at tX5_leg_1 13 rfl) ?_
            refine v_aload_n X (xdec_at tX5_leg_1 14 rfl) rfl rfl ?_
            refine v_dup X (xdec_at tX5_leg_1 15 rfl) rfl ?_
            refine r_S (v := (μ.1 10 0)) X 10 (by decide) rfl rfl (xdec_at tX5_leg_1 16 rfl) rfl ?_
            refine v_iconst (v := 1) X (xdec_at tX5_leg_1 17 rfl) (by decide) ?_
            refine v_iadd X (xdec_at tX5_leg_1 18 rfl) ?_
            refine r_PS X 10 (by decide) rfl (by decide) rfl (xdec_at tX5_leg_1 19 rfl) ?_
            refine v_aload_n X (xdec_at tX5_leg_1 20 rfl) rfl rfl ?_
            refine r_S (v := ((μ.1 10 0) + 1)) X 10 (by decide) rfl rfl (xdec_at tX5_leg_1 21 rfl) rfl ?_
            refine v_iconst (v := 1) X (xdec_at tX5_leg_1 22 rfl) (by decide) ?_
            refine v_isub X (xdec_at tX5_leg_1 23 rfl) ?_
            have e9 : M_leg μ a b d = ((((μ.1 10 0) + 1) - 1), ((up2 (up2 (up2 (up2 (up2 μ.1 38 0 0) 11 (ix (μ.1 10 0)) a) 12 (ix (μ.1 10 0)) b) 13 (ix (μ.1 10 0)) d) 10 0 ((μ.1 10 0) + 1)), μ.2)) := by simp [M_leg, up2_at, (eq_true q_3), (eq_true q_11), c_32, (eq_true q_39), c_57]
            exact v_iret X hr (xdec_at tX5_leg_1 24 rfl) (Nat.le_of_ble_eq_true rfl) (Nat.le_of_ble_eq_true rfl) ⟨rfl, by rw [e9], by rw [e9]⟩
          · refine v_aload_n X (xdec_at tX5_leg_0 32 rfl) rfl rfl ?_
            refine v_iconst (v := 3) X (xdec_at tX5_leg_0 33 rfl) (by decide) ?_
            refine v_callV X myX5_fails [.int 3] [] (c_fails l Z B0 lay ((up2 μ.1 38 0 0), μ.2) r 3) (xw_at tW_18 11 rfl) (100, 0) cM_0 rfl rfl rfl rfl (by rfl) (Nat.le_of_ble_eq_true rfl) (xdec_at tX5_leg_0 34 rfl) ⟨(Nat.le_of_ble_eq_true rfl), (Nat.le_of_ble_eq_true rfl)⟩ ⟨(Nat.le_of_ble_eq_true rfl), (Nat.le_of_ble_eq_true rfl)⟩ ?_
            rintro v9 lay9 C9 ⟨rfl, rfl, rfl⟩
            have e9 : M_leg μ a b d = (0, ((up2 (up2 μ.1 38 0 0) 38 0 3), μ.2)) := by simp [M_leg, up2_at, (eq_true q_3), (eq_true q_11), c_32, (eq_true q_39), (eq_true c_57)]
            exact v_iret X hr (xdec_at tX5_leg_0 35 rfl) (Nat.le_of_ble_eq_true rfl) (Nat.le_of_ble_eq_true rfl) ⟨rfl, by rw [e9], by rw [e9]⟩
        · refine v_if_ne (tgt := 51) X (xdec_at tX5_leg_0 23 rfl) (by decide) (fun h9 => absurd h9 (by decide)) (fun _ => ?_)
          refine v_aload_n X (xdec_at tX5_leg_0 24 rfl) rfl rfl ?_
          refine v_iconst (v := 2) X (xdec_at tX5_leg_0 25 rfl) (by decide) ?_
          refine v_callV X myX5_fails [.int 2] [] (c_fails l Z B0 lay ((up2 μ.1 38 0 0), μ.2) r 2) (xw_at tW_18 11 rfl) (100, 0) cM_0 rfl rfl rfl rfl (by rfl) (Nat.le_of_ble_eq_true rfl) (xdec_at tX5_leg_0 26 rfl) ⟨(Nat.le_of_ble_eq_true rfl), (Nat.le_of_ble_eq_true rfl)⟩ ⟨(Nat.le_of_ble_eq_true rfl), (Nat.le_of_ble_eq_true rfl)⟩ ?_
          rintro v9 lay9 C9 ⟨rfl, rfl, rfl⟩
          have e9 : M_leg μ a b d = (0, ((up2 (up2 μ.1 38 0 0) 38 0 2), μ.2)) := by simp [M_leg, up2_at, (eq_true q_3), (eq_true q_11), c_32, q_39]
          exact v_iret X hr (xdec_at tX5_leg_0 27 rfl) (Nat.le_of_ble_eq_true rfl) (Nat.le_of_ble_eq_true rfl) ⟨rfl, by rw [e9], by rw [e9]⟩
    · refine v_if_eq (tgt := 21) X (xdec_at tX5_leg_0 8 rfl) (by decide) (fun _ => ?_) (fun h9 => absurd h9 (by decide))
      refine v_iconst (v := 0) X (xdec_at tX5_leg_0 11 rfl) (by decide) ?_
      refine v_callV X myX5_asks [.int 0] [] (c_asks0 l Z B0 lay μ r) (xw_at tW_17 31 rfl) (100, 0) cM_0 rfl rfl rfl rfl (by rfl) (Nat.le_of_ble_eq_true rfl) (xdec_at tX5_leg_0 12 rfl) ⟨(Nat.le_of_ble_eq_true rfl), (Nat.le_of_ble_eq_true rfl)⟩ ⟨(Nat.le_of_ble_eq_true rfl), (Nat.le_of_ble_eq_true rfl)⟩ ?_
      rintro v9 lay9 C9 ⟨rfl, rfl, rfl⟩
      refine v_if_ne (tgt := 30) X (xdec_at tX5_leg_0 13 rfl) (by decide) (fun h9 => absurd h9 (by decide)) (fun _ => ?_)
      refine v_iconst (v := 0) X (xdec_at tX5_leg_0 14 rfl) (by decide) ?_
      have e9 : M_leg μ a b d = (0, ((up2 μ.1 38 0 1), μ.2)) := by simp [M_leg, up2_at, (eq_true q_3), q_11]
      exact v_iret X hr (xdec_at tX5_leg_0 15 rfl) (Nat.le_of_ble_eq_true rfl) (Nat.le_of_ble_eq_true rfl) ⟨rfl, by rw [e9], by rw [e9]⟩
  · refine v_if_eq (tgt := 21) X (xdec_at tX5_leg_0 4 rfl) (by decide) (fun _ => ?_) (fun h9 => absurd h9 (by decide))
    refine v_iconst (v := 0) X (xdec_at tX5_leg_0 11 rfl) (by decide) ?_
    refine v_callV X myX5_asks [.int 0] [] (c_asks0 l Z B0 lay μ r) (xw_at tW_17 31 rfl) (100, 0) cM_0 rfl rfl rfl rfl (by rfl) (Nat.le_of_ble_eq_true rfl) (xdec_at tX5_leg_0 12 rfl) ⟨(Nat.le_of_ble_eq_true rfl), (Nat.le_of_ble_eq_true rfl)⟩ ⟨(Nat.le_of_ble_eq_true rfl), (Nat.le_of_ble_eq_true rfl)⟩ ?_
    rintro v9 lay9 C9 ⟨rfl, rfl, rfl⟩
    refine v_if_ne (tgt := 30) X (xdec_at tX5_leg_0 13 rfl) (by decide) (fun h9 => absurd h9 (by decide)) (fun _ => ?_)
    refine v_iconst (v := 0) X (xdec_at tX5_leg_0 14 rfl) (by decide) ?_
    have e9 : M_leg μ a b d = (0, ((up2 μ.1 38 0 1), μ.2)) := by simp [M_leg, up2_at, q_3]
    exact v_iret X hr (xdec_at tX5_leg_0 15 rfl) (Nat.le_of_ble_eq_true rfl) (Nat.le_of_ble_eq_true rfl) ⟨rfl, by rw [e9], by rw [e9]⟩
set_option maxRecDepth 100000 in
set_option maxHeartbeats 4000000 in
theorem c_close (l : Launch) (Z : xZ) (B0 : Nat) (lay : xK → Nat) (μ : Mu) (r : xK → Option xE) (g c : Int32) (hI : RI μ) (hc : c = 0 ∨ c = 1) : YM l yX5_close cX5_close 4 ((some FieldType.boolean)) 1 22 0 0 Z B0 [.ref (lay (100, 0)), .int g, .int c] lay (cM Z lay μ r) (fun v lay' C' => lay = lay' ∧ v = some (.int (M_close μ g c).1) ∧ C' = cM Z lay (M_close μ g c).2 r) := by
  refine YM_of myX5_close.2.2 RX5 rfl [some (.ref (lay (100, 0))), some (.int g), some (.int c), none] rfl (Nat.le_of_ble_eq_true rfl) ?_
  intro P1 P2 P3 P4 P5 P6 P7 P8 X hr hnm
  refine v_aload_n X (xdec_at tX5_close_0 0 rfl) rfl rfl ?_
  refine v_iload_n X (xdec_at tX5_close_0 1 rfl) rfl rfl ?_
  refine v_iconst (v := 0) X (xdec_at tX5_close_0 2 rfl) (by decide) ?_
  refine v_aload_n X (xdec_at tX5_close_0 3 rfl) rfl rfl ?_
  refine r_S (v := (μ.1 10 0)) X 10 (by decide) rfl rfl (xdec_at tX5_close_0 4 rfl) rfl ?_
  refine v_iconst (v := 1) X (xdec_at tX5_close_0 5 rfl) (by decide) ?_
  refine v_isub X (xdec_at tX5_close_0 6 rfl) ?_
  refine v_callS X myX5_in [.int g, .int 0, .int ((μ.1 10 0) - 1)] [.ref (lay (100, 0))] (c_in l Z B0 lay (cM Z lay μ r) g 0 ((μ.1 10 0) - 1)) (xw_at tW_18 1 rfl) rfl rfl (by rfl) (Nat.le_of_ble_eq_true rfl) (xdec_at tX5_close_0 7 rfl) ⟨(Nat.le_of_ble_eq_true rfl), (Nat.le_of_ble_eq_true rfl)⟩ ⟨(Nat.le_of_ble_eq_true rfl), (Nat.le_of_ble_eq_true rfl)⟩ ?_
  rintro v9 lay9 C9 ⟨rfl, rfl, ⟨rfl, q_9⟩ | ⟨rfl, q_9⟩⟩
  · refine v_callV X myX5_asks [.int 1] [] (c_asks1 l Z B0 lay μ r) (xw_at tW_17 31 rfl) (100, 0) cM_0 rfl rfl rfl rfl (by rfl) (Nat.le_of_ble_eq_true rfl) (xdec_at tX5_close_0 8 rfl) ⟨(Nat.le_of_ble_eq_true rfl), (Nat.le_of_ble_eq_true rfl)⟩ ⟨(Nat.le_of_ble_eq_true rfl), (Nat.le_of_ble_eq_true rfl)⟩ ?_
    rintro v9 lay9 C9 ⟨rfl, rfl, rfl⟩
    refine v_if_ne (tgt := 20) X (xdec_at tX5_close_0 9 rfl) (by decide) (fun _ => ?_) (fun h9 => absurd h9 (by decide))
    refine v_aload_n X (xdec_at tX5_close_0 12 rfl) rfl rfl ?_
    refine r_A X 14 (by decide) rfl rfl (xdec_at tX5_close_0 13 rfl) ?_
    refine v_iload_n X (xdec_at tX5_close_0 14 rfl) rfl rfl ?_
    refine r_Z (v := (μ.1 14 (ix g))) X 14 (by decide) rfl rfl (hI.L (by assumption)) (xdec_at tX5_close_0 15 rfl) rfl ?_
    refine v_istore_n (lv' := [some (.ref (lay (100, 0))), some (.int g), some (.int c), some (.int (μ.1 14 (ix g)))]) X (xdec_at tX5_close_0 16 rfl) rfl (by decide) rfl ?_
    refine v_aload_n X (xdec_at tX5_close_0 17 rfl) rfl rfl ?_
    refine r_A X 14 (by decide) rfl rfl (xdec_at tX5_close_0 18 rfl) ?_
    refine v_iload_n X (xdec_at tX5_close_0 19 rfl) rfl rfl ?_
    refine v_iload_n X (xdec_at tX5_close_0 20 rfl) rfl rfl ?_
    refine r_PZ X 14 (by decide) rfl rfl hc (hI.L (by assumption)) (xdec_at tX5_close_0 21 rfl) ?_
    refine v_iload_n X (xdec_at tX5_close_0 22 rfl) rfl rfl ?_
    have e9 : M_close μ g c = ((μ.1 14 (ix g)), ((up2 (up2 μ.1 38 0 0) 14 (ix g) c), μ.2)) := by simp [M_close, up2_at, (eq_true q_9)]
    exact v_zret X hr (xdec_at tX5_close_0 23 rfl) (Nat.le_of_ble_eq_true rfl) (Nat.le_of_ble_eq_true rfl) (hI.B (by decide)) ⟨rfl, by rw [e9], by rw [e9]⟩
  · refine v_callV X myX5_asks [.int 0] [] (c_asks0 l Z B0 lay μ r) (xw_at tW_17 31 rfl) (100, 0) cM_0 rfl rfl rfl rfl (by rfl) (Nat.le_of_ble_eq_true rfl) (xdec_at tX5_close_0 8 rfl) ⟨(Nat.le_of_ble_eq_true rfl), (Nat.le_of_ble_eq_true rfl)⟩ ⟨(Nat.le_of_ble_eq_true rfl), (Nat.le_of_ble_eq_true rfl)⟩ ?_
    rintro v9 lay9 C9 ⟨rfl, rfl, rfl⟩
    refine v_if_ne (tgt := 20) X (xdec_at tX5_close_0 9 rfl) (by decide) (fun h9 => absurd h9 (by decide)) (fun _ => ?_)
    refine v_iconst (v := 0) X (xdec_at tX5_close_0 10 rfl) (by decide) ?_
    have e9 : M_close μ g c = (0, ((up2 μ.1 38 0 1), μ.2)) := by simp [M_close, up2_at, q_9]
    exact v_zret X hr (xdec_at tX5_close_0 11 rfl) (Nat.le_of_ble_eq_true rfl) (Nat.le_of_ble_eq_true rfl) (by rfl) ⟨rfl, by rw [e9], by rw [e9]⟩
set_option maxRecDepth 100000 in
set_option maxHeartbeats 4000000 in
theorem c_account (l : Launch) (Z : xZ) (B0 : Nat) (lay : xK → Nat) (μ : Mu) (r : xK → Option xE) (p : Int32) (hI : RI μ) : YM l yX5_account cX5_account 2 ((some FieldType.long)) 2 43 0 0 Z B0 [.ref (lay (100, 0)), .int p] lay (cM Z lay μ r) (fun v lay' C' => lay = lay' ∧ v = some (.long (M_account μ p).1) ∧ C' = cM Z lay (M_account μ p).2 r) := by
  refine YM_of myX5_account.2.2 RX5 rfl [some (.ref (lay (100, 0))), some (.int p)] rfl (Nat.le_of_ble_eq_true rfl) ?_
  intro P1 P2 P3 P4 P5 P6 P7 P8 X hr hnm
  refine v_aload_n X (xdec_at tX5_account_0 0 rfl) rfl rfl ?_
  refine v_aload_n X (xdec_at tX5_account_0 1 rfl) rfl rfl ?_
  refine v_iload_n X (xdec_at tX5_account_0 2 rfl) rfl rfl ?_
  refine v_callV X myX5_isPost [.int p] [.ref (lay (100, 0))] (c_isPost l Z B0 lay μ r p) (xw_at tW_17 38 rfl) (100, 0) cM_0 rfl rfl rfl rfl (by rfl) (Nat.le_of_ble_eq_true rfl) (xdec_at tX5_account_0 3 rfl) ⟨(Nat.le_of_ble_eq_true rfl), (Nat.le_of_ble_eq_true rfl)⟩ ⟨(Nat.le_of_ble_eq_true rfl), (Nat.le_of_ble_eq_true rfl)⟩ ?_
  rintro v9 lay9 C9 ⟨rfl, rfl, ⟨rfl, q_3⟩ | ⟨rfl, q_3⟩⟩
  · refine v_callV X myX5_asks [.int 1] [] (c_asks1 l Z B0 lay μ r) (xw_at tW_17 31 rfl) (100, 0) cM_0 rfl rfl rfl rfl (by rfl) (Nat.le_of_ble_eq_true rfl) (xdec_at tX5_account_0 4 rfl) ⟨(Nat.le_of_ble_eq_true rfl), (Nat.le_of_ble_eq_true rfl)⟩ ⟨(Nat.le_of_ble_eq_true rfl), (Nat.le_of_ble_eq_true rfl)⟩ ?_
    rintro v9 lay9 C9 ⟨rfl, rfl, rfl⟩
    refine v_if_eq (tgt := 21) X (xdec_at tX5_account_0 5 rfl) (by decide) (fun h9 => absurd h9 (by decide)) (fun _ => ?_)
    refine v_aload_n X (xdec_at tX5_account_0 6 rfl) rfl rfl ?_
    refine r_A X 7 (by decide) rfl rfl (xdec_at tX5_account_0 7 rfl) ?_
    refine v_iload_n X (xdec_at tX5_account_0 8 rfl) rfl rfl ?_
    refine r_L (v := (μ.2 7 (ix p))) X 7 (by decide) rfl rfl (hI.P (by assumption)) (xdec_at tX5_account_0 9 rfl) rfl ?_
    refine v_goto (tgt := 22) X (xdec_at tX5_account_0 10 rfl) (by decide) ?_
    have e9 : M_account μ p = ((μ.2 7 (ix p)), ((up2 μ.1 38 0 0), μ.2)) := by simp [M_account, up2_at, (eq_true q_3)]
    exact v_lret X hr (xdec_at tX5_account_0 12 rfl) (Nat.le_of_ble_eq_true rfl) (Nat.le_of_ble_eq_true rfl) ⟨rfl, by rw [e9], by rw [e9]⟩
  · refine v_callV X myX5_asks [.int 0] [] (c_asks0 l Z B0 lay μ r) (xw_at tW_17 31 rfl) (100, 0) cM_0 rfl rfl rfl rfl (by rfl) (Nat.le_of_ble_eq_true rfl) (xdec_at tX5_account_0 4 rfl) ⟨(Nat.le_of_ble_eq_true rfl), (Nat.le_of_ble_eq_true rfl)⟩ ⟨(Nat.le_of_ble_eq_true rfl), (Nat.le_of_ble_eq_true rfl)⟩ ?_
    rintro v9 lay9 C9 ⟨rfl, rfl, rfl⟩
    refine v_if_eq (tgt := 21) X (xdec_at tX5_account_0 5 rfl) (by decide) (fun _ => ?_) (fun h9 => absurd h9 (by decide))
    refine v_lconst (v := 0) X (xdec_at tX5_account_0 11 rfl) (by decide) ?_
    have e9 : M_account μ p = (0, ((up2 μ.1 38 0 1), μ.2)) := by simp [M_account, up2_at, q_3]
    exact v_lret X hr (xdec_at tX5_account_0 12 rfl) (Nat.le_of_ble_eq_true rfl) (Nat.le_of_ble_eq_true rfl) ⟨rfl, by rw [e9], by rw [e9]⟩
set_option maxRecDepth 100000 in
set_option maxHeartbeats 4000000 in
theorem c_till (l : Launch) (Z : xZ) (B0 : Nat) (lay : xK → Nat) (μ : Mu) (r : xK → Option xE) (p : Int32) (hI : RI μ) : YM l yX5_till cX5_till 2 ((some FieldType.long)) 2 43 0 0 Z B0 [.ref (lay (100, 0)), .int p] lay (cM Z lay μ r) (fun v lay' C' => lay = lay' ∧ v = some (.long (M_till μ p).1) ∧ C' = cM Z lay (M_till μ p).2 r) := by
  refine YM_of myX5_till.2.2 RX5 rfl [some (.ref (lay (100, 0))), some (.int p)] rfl (Nat.le_of_ble_eq_true rfl) ?_
  intro P1 P2 P3 P4 P5 P6 P7 P8 X hr hnm
  refine v_aload_n X (xdec_at tX5_till_0 0 rfl) rfl rfl ?_
  refine v_aload_n X (xdec_at tX5_till_0 1 rfl) rfl rfl ?_
  refine v_iload_n X (xdec_at tX5_till_0 2 rfl) rfl rfl ?_
  refine v_callV X myX5_isPost [.int p] [.ref (lay (100, 0))] (c_isPost l Z B0 lay μ r p) (xw_at tW_17 38 rfl) (100, 0) cM_0 rfl rfl rfl rfl (by rfl) (Nat.le_of_ble_eq_true rfl) (xdec_at tX5_till_0 3 rfl) ⟨(Nat.le_of_ble_eq_true rfl), (Nat.le_of_ble_eq_true rfl)⟩ ⟨(Nat.le_of_ble_eq_true rfl), (Nat.le_of_ble_eq_true rfl)⟩ ?_
  rintro v9 lay9 C9 ⟨rfl, rfl, ⟨rfl, q_3⟩ | ⟨rfl, q_3⟩⟩
  · refine v_callV X myX5_asks [.int 1] [] (c_asks1 l Z B0 lay μ r) (xw_at tW_17 31 rfl) (100, 0) cM_0 rfl rfl rfl rfl (by rfl) (Nat.le_of_ble_eq_true rfl) (xdec_at tX5_till_0 4 rfl) ⟨(Nat.le_of_ble_eq_true rfl), (Nat.le_of_ble_eq_true rfl)⟩ ⟨(Nat.le_of_ble_eq_true rfl), (Nat.le_of_ble_eq_true rfl)⟩ ?_
    rintro v9 lay9 C9 ⟨rfl, rfl, rfl⟩
    refine v_if_eq (tgt := 21) X (xdec_at tX5_till_0 5 rfl) (by decide) (fun h9 => absurd h9 (by decide)) (fun _ => ?_)
    refine v_aload_n X (xdec_at tX5_till_0 6 rfl) rfl rfl ?_
    refine r_A X 8 (by decide) rfl rfl (xdec_at tX5_till_0 7 rfl) ?_
    refine v_iload_n X (xdec_at tX5_till_0 8 rfl) rfl rfl ?_
    refine r_L (v := (μ.2 8 (ix p))) X 8 (by decide) rfl rfl (hI.P (by assumption)) (xdec_at tX5_till_0 9 rfl) rfl ?_
    refine v_goto (tgt := 22) X (xdec_at tX5_till_0 10 rfl) (by decide) ?_
    have e9 : M_till μ p = ((μ.2 8 (ix p)), ((up2 μ.1 38 0 0), μ.2)) := by simp [M_till, up2_at, (eq_true q_3)]
    exact v_lret X hr (xdec_at tX5_till_0 12 rfl) (Nat.le_of_ble_eq_true rfl) (Nat.le_of_ble_eq_true rfl) ⟨rfl, by rw [e9], by rw [e9]⟩
  · refine v_callV X myX5_asks [.int 0] [] (c_asks0 l Z B0 lay μ r) (xw_at tW_17 31 rfl) (100, 0) cM_0 rfl rfl rfl rfl (by rfl) (Nat.le_of_ble_eq_true rfl) (xdec_at tX5_till_0 4 rfl) ⟨(Nat.le_of_ble_eq_true rfl), (Nat.le_of_ble_eq_true rfl)⟩ ⟨(Nat.le_of_ble_eq_true rfl), (Nat.le_of_ble_eq_true rfl)⟩ ?_
    rintro v9 lay9 C9 ⟨rfl, rfl, rfl⟩
    refine v_if_eq (tgt := 21) X (xdec_at tX5_till_0 5 rfl) (by decide) (fun _ => ?_) (fun h9 => absurd h9 (by decide))
    refine v_lconst (v := 0) X (xdec_at tX5_till_0 11 rfl) (by decide) ?_
    have e9 : M_till μ p = (0, ((up2 μ.1 38 0 1), μ.2)) := by simp [M_till, up2_at, q_3]
    exact v_lret X hr (xdec_at tX5_till_0 12 rfl) (Nat.le_of_ble_eq_true rfl) (Nat.le_of_ble_eq_true rfl) ⟨rfl, by rw [e9], by rw [e9]⟩
set_option maxRecDepth 100000 in
set_option maxHeartbeats 4000000 in
theorem c_counted (l : Launch) (Z : xZ) (B0 : Nat) (lay : xK → Nat) (μ : Mu) (r : xK → Option xE) (a b : Int32) (hI : RI μ) : YM l yX5_counted cX5_counted 3 ((some FieldType.long)) 2 43 0 0 Z B0 [.ref (lay (100, 0)), .int a, .int b] lay (cM Z lay μ r) (fun v lay' C' => lay = lay' ∧ v = some (.long (M_counted μ a b).1) ∧ C' = cM Z lay (M_counted μ a b).2 r) := by
  refine YM_of myX5_counted.2.2 RX5 rfl [some (.ref (lay (100, 0))), some (.int a), some (.int b)] rfl (Nat.le_of_ble_eq_true rfl) ?_
  intro P1 P2 P3 P4 P5 P6 P7 P8 X hr hnm
  refine v_aload_n X (xdec_at tX5_counted_0 0 rfl) rfl rfl ?_
  refine v_aload_n X (xdec_at tX5_counted_0 1 rfl) rfl rfl ?_
  refine v_iload_n X (xdec_at tX5_counted_0 2 rfl) rfl rfl ?_
  refine v_callV X myX5_isPost [.int a] [.ref (lay (100, 0))] (c_isPost l Z B0 lay μ r a) (xw_at tW_17 38 rfl) (100, 0) cM_0 rfl rfl rfl rfl (by rfl) (Nat.le_of_ble_eq_true rfl) (xdec_at tX5_counted_0 3 rfl) ⟨(Nat.le_of_ble_eq_true rfl), (Nat.le_of_ble_eq_true rfl)⟩ ⟨(Nat.le_of_ble_eq_true rfl), (Nat.le_of_ble_eq_true rfl)⟩ ?_
  rintro v9 lay9 C9 ⟨rfl, rfl, ⟨rfl, q_3⟩ | ⟨rfl, q_3⟩⟩
  · refine v_if_eq (tgt := 21) X (xdec_at tX5_counted_0 4 rfl) (by decide) (fun h9 => absurd h9 (by decide)) (fun _ => ?_)
    refine v_aload_n X (xdec_at tX5_counted_0 5 rfl) rfl rfl ?_
    refine v_iload_n X (xdec_at tX5_counted_0 6 rfl) rfl rfl ?_
    refine v_callV X myX5_isPost [.int b] [.ref (lay (100, 0))] (c_isPost l Z B0 lay μ r b) (xw_at tW_17 38 rfl) (100, 0) cM_0 rfl rfl rfl rfl (by rfl) (Nat.le_of_ble_eq_true rfl) (xdec_at tX5_counted_0 7 rfl) ⟨(Nat.le_of_ble_eq_true rfl), (Nat.le_of_ble_eq_true rfl)⟩ ⟨(Nat.le_of_ble_eq_true rfl), (Nat.le_of_ble_eq_true rfl)⟩ ?_
    rintro v9 lay9 C9 ⟨rfl, rfl, ⟨rfl, q_11⟩ | ⟨rfl, q_11⟩⟩
    · refine v_if_eq (tgt := 21) X (xdec_at tX5_counted_0 8 rfl) (by decide) (fun h9 => absurd h9 (by decide)) (fun _ => ?_)
      refine v_iconst (v := 1) X (xdec_at tX5_counted_0 9 rfl) (by decide) ?_
      refine v_goto (tgt := 22) X (xdec_at tX5_counted_0 10 rfl) (by decide) ?_
      refine v_callV X myX5_asks [.int 1] [] (c_asks1 l Z B0 lay μ r) (xw_at tW_17 31 rfl) (100, 0) cM_0 rfl rfl rfl rfl (by rfl) (Nat.le_of_ble_eq_true rfl) (xdec_at tX5_counted_0 12 rfl) ⟨(Nat.le_of_ble_eq_true rfl), (Nat.le_of_ble_eq_true rfl)⟩ ⟨(Nat.le_of_ble_eq_true rfl), (Nat.le_of_ble_eq_true rfl)⟩ ?_
      rintro v9 lay9 C9 ⟨rfl, rfl, rfl⟩
      refine v_if_eq (tgt := 42) X (xdec_at tX5_counted_0 13 rfl) (by decide) (fun h9 => absurd h9 (by decide)) (fun _ => ?_)
      refine v_aload_n X (xdec_at tX5_counted_0 14 rfl) rfl rfl ?_
      refine r_A X 9 (by decide) rfl rfl (xdec_at tX5_counted_0 15 rfl) ?_
      refine v_bipush (v := 8) X (xdec_at tX5_counted_0 16 rfl) (by decide) ?_
      refine v_iload_n X (xdec_at tX5_counted_0 17 rfl) rfl rfl ?_
      refine v_imul X (xdec_at tX5_counted_0 18 rfl) ?_
      refine v_iload_n X (xdec_at tX5_counted_0 19 rfl) rfl rfl ?_
      refine v_iadd X (xdec_at tX5_counted_0 20 rfl) ?_
      refine r_L (v := (μ.2 9 (ix ((8 * a) + b)))) X 9 (by decide) rfl rfl (hI.PP (by assumption) (by assumption)) (xdec_at tX5_counted_0 21 rfl) rfl ?_
      refine v_goto (tgt := 43) X (xdec_at tX5_counted_0 22 rfl) (by decide) ?_
      have e9 : M_counted μ a b = ((μ.2 9 (ix ((8 * a) + b))), ((up2 μ.1 38 0 0), μ.2)) := by simp [M_counted, up2_at, (eq_true q_3), (eq_true q_11)]
      exact v_lret X hr (xdec_at tX5_counted_0 24 rfl) (Nat.le_of_ble_eq_true rfl) (Nat.le_of_ble_eq_true rfl) ⟨rfl, by rw [e9], by rw [e9]⟩
    · refine v_if_eq (tgt := 21) X (xdec_at tX5_counted_0 8 rfl) (by decide) (fun _ => ?_) (fun h9 => absurd h9 (by decide))
      refine v_iconst (v := 0) X (xdec_at tX5_counted_0 11 rfl) (by decide) ?_
      refine v_callV X myX5_asks [.int 0] [] (c_asks0 l Z B0 lay μ r) (xw_at tW_17 31 rfl) (100, 0) cM_0 rfl rfl rfl rfl (by rfl) (Nat.le_of_ble_eq_true rfl) (xdec_at tX5_counted_0 12 rfl) ⟨(Nat.le_of_ble_eq_true rfl), (Nat.le_of_ble_eq_true rfl)⟩ ⟨(Nat.le_of_ble_eq_true rfl), (Nat.le_of_ble_eq_true rfl)⟩ ?_
      rintro v9 lay9 C9 ⟨rfl, rfl, rfl⟩
      refine v_if_eq (tgt := 42) X (xdec_at tX5_counted_0 13 rfl) (by decide) (fun _ => ?_) (fun h9 => absurd h9 (by decide))
      refine v_lconst (v := 0) X (xdec_at tX5_counted_0 23 rfl) (by decide) ?_
      have e9 : M_counted μ a b = (0, ((up2 μ.1 38 0 1), μ.2)) := by simp [M_counted, up2_at, (eq_true q_3), q_11]
      exact v_lret X hr (xdec_at tX5_counted_0 24 rfl) (Nat.le_of_ble_eq_true rfl) (Nat.le_of_ble_eq_true rfl) ⟨rfl, by rw [e9], by rw [e9]⟩
  · refine v_if_eq (tgt := 21) X (xdec_at tX5_counted_0 4 rfl) (by decide) (fun _ => ?_) (fun h9 => absurd h9 (by decide))
    refine v_iconst (v := 0) X (xdec_at tX5_counted_0 11 rfl) (by decide) ?_
    refine v_callV X myX5_asks [.int 0] [] (c_asks0 l Z B0 lay μ r) (xw_at tW_17 31 rfl) (100, 0) cM_0 rfl rfl rfl rfl (by rfl) (Nat.le_of_ble_eq_true rfl) (xdec_at tX5_counted_0 12 rfl) ⟨(Nat.le_of_ble_eq_true rfl), (Nat.le_of_ble_eq_true rfl)⟩ ⟨(Nat.le_of_ble_eq_true rfl), (Nat.le_of_ble_eq_true rfl)⟩ ?_
    rintro v9 lay9 C9 ⟨rfl, rfl, rfl⟩
    refine v_if_eq (tgt := 42) X (xdec_at tX5_counted_0 13 rfl) (by decide) (fun _ => ?_) (fun h9 => absurd h9 (by decide))
    refine v_lconst (v := 0) X (xdec_at tX5_counted_0 23 rfl) (by decide) ?_
    have e9 : M_counted μ a b = (0, ((up2 μ.1 38 0 1), μ.2)) := by simp [M_counted, up2_at, q_3]
    exact v_lret X hr (xdec_at tX5_counted_0 24 rfl) (Nat.le_of_ble_eq_true rfl) (Nat.le_of_ble_eq_true rfl) ⟨rfl, by rw [e9], by rw [e9]⟩
set_option maxRecDepth 100000 in
set_option maxHeartbeats 4000000 in
theorem c_sample (l : Launch) (Z : xZ) (B0 : Nat) (lay : xK → Nat) (μ : Mu) (r : xK → Option xE) (c : Int32) (hI : RI μ) (hc : c = 0 ∨ c = 1) : YM l yX5_sample cX5_sample 3 ((some FieldType.boolean)) 0 0 0 0 Z B0 [.ref (lay (100, 0)), .int c] lay (cM Z lay μ r) (fun v lay' C' => lay = lay' ∧ v = some (.int (M_sample μ c).1) ∧ C' = cM Z lay (M_sample μ c).2 r) := by
  refine YM_of myX5_sample.2.2 RX5 rfl [some (.ref (lay (100, 0))), some (.int c), none] rfl (Nat.le_of_ble_eq_true rfl) ?_
  intro P1 P2 P3 P4 P5 P6 P7 P8 X hr hnm
  refine v_aload_n X (xdec_at tX5_sample_0 0 rfl) rfl rfl ?_
  refine v_iconst (v := 0) X (xdec_at tX5_sample_0 1 rfl) (by decide) ?_
  refine r_PS X 38 (by decide) rfl (by decide) rfl (xdec_at tX5_sample_0 2 rfl) ?_
  refine v_aload_n X (xdec_at tX5_sample_0 3 rfl) rfl rfl ?_
  refine r_S (v := (μ.1 36 0)) X 36 (by decide) rfl rfl (xdec_at tX5_sample_0 4 rfl) rfl ?_
  refine v_istore_n (lv' := [some (.ref (lay (100, 0))), some (.int c), some (.int (μ.1 36 0))]) X (xdec_at tX5_sample_0 5 rfl) rfl (by decide) rfl ?_
  refine v_aload_n X (xdec_at tX5_sample_0 6 rfl) rfl rfl ?_
  refine v_iload_n X (xdec_at tX5_sample_0 7 rfl) rfl rfl ?_
  refine r_PB X hc (xdec_at tX5_sample_0 8 rfl) ?_
  refine v_iload_n X (xdec_at tX5_sample_0 9 rfl) rfl rfl ?_
  have e9 : M_sample μ c = ((μ.1 36 0), ((up2 (up2 μ.1 38 0 0) 36 0 c), μ.2)) := by simp [M_sample, up2_at]
  exact v_zret X hr (xdec_at tX5_sample_0 10 rfl) (Nat.le_of_ble_eq_true rfl) (Nat.le_of_ble_eq_true rfl) (hI.B (by decide)) ⟨rfl, by rw [e9], by rw [e9]⟩
set_option maxRecDepth 100000 in
set_option maxHeartbeats 4000000 in
theorem c_rateOf (l : Launch) (Z : xZ) (B0 : Nat) (lay : xK → Nat) (μ : Mu) (r : xK → Option xE) (k p g b : Int32) (h24 : vp_in (3 * p + k) 24) : YM l yX5_rateOf cX5_rateOf 6 ((some FieldType.int)) 0 0 0 0 Z B0 [.ref (lay (100, 0)), .int k, .int p, .int g, .int b] lay (cM Z lay μ r) (fun v lay' C' => lay = lay' ∧ v = some (.int (M_rateOf μ k p g b)) ∧ C' = cM Z lay μ r) := by
  refine YM_of myX5_rateOf.2.2 RX5 rfl [some (.ref (lay (100, 0))), some (.int k), some (.int p), some (.int g), some (.int b), none] rfl (Nat.le_of_ble_eq_true rfl) ?_
  intro P1 P2 P3 P4 P5 P6 P7 P8 X hr hnm
  refine v_iload_n X (xdec_at tX5_rateOf_0 0 rfl) rfl rfl ?_
  refine v_iconst (v := 1) X (xdec_at tX5_rateOf_0 1 rfl) (by decide) ?_
  refine v_isub X (xdec_at tX5_rateOf_0 2 rfl) ?_
  refine v_bipush (v := 20) X (xdec_at tX5_rateOf_0 3 rfl) (by decide) ?_
  refine v_idiv X (xdec_at tX5_rateOf_0 4 rfl) (by decide) ?_
  refine v_istore (lv' := [some (.ref (lay (100, 0))), some (.int k), some (.int p), some (.int g), some (.int b), some (.int ((g - 1) / 20))]) X (xdec_at tX5_rateOf_0 5 rfl) (by decide) rfl ?_
  refine v_aload_n X (xdec_at tX5_rateOf_0 6 rfl) rfl rfl ?_
  refine r_A X 1 (by decide) rfl rfl (xdec_at tX5_rateOf_0 7 rfl) ?_
  refine v_iconst (v := 3) X (xdec_at tX5_rateOf_0 8 rfl) (by decide) ?_
  refine v_iload_n X (xdec_at tX5_rateOf_0 9 rfl) rfl rfl ?_
  refine v_imul X (xdec_at tX5_rateOf_0 10 rfl) ?_
  refine v_iload_n X (xdec_at tX5_rateOf_0 11 rfl) rfl rfl ?_
  refine v_iadd X (xdec_at tX5_rateOf_0 12 rfl) ?_
  refine r_I (v := (μ.1 1 (ix ((3 * p) + k)))) X 1 (by decide) rfl rfl h24 (xdec_at tX5_rateOf_0 13 rfl) rfl ?_
  refine v_aload_n X (xdec_at tX5_rateOf_0 14 rfl) rfl rfl ?_
  refine r_A X 2 (by decide) rfl rfl (xdec_at tX5_rateOf_0 15 rfl) ?_
  refine v_iconst (v := 3) X (xdec_at tX5_rateOf_0 16 rfl) (by decide) ?_
  refine v_iload_n X (xdec_at tX5_rateOf_0 17 rfl) rfl rfl ?_
  refine v_imul X (xdec_at tX5_rateOf_0 18 rfl) ?_
  refine v_iload_n X (xdec_at tX5_rateOf_0 19 rfl) rfl rfl ?_
  refine v_iadd X (xdec_at tX5_rateOf_0 20 rfl) ?_
  refine r_I (v := (μ.1 2 (ix ((3 * p) + k)))) X 2 (by decide) rfl rfl h24 (xdec_at tX5_rateOf_0 21 rfl) rfl ?_
  refine v_iload X (xdec_at tX5_rateOf_0 22 rfl) rfl ?_
  refine v_imul X (xdec_at tX5_rateOf_0 23 rfl) ?_
  refine v_iadd X (xdec_at tX5_rateOf_0 24 rfl) ?_
  refine v_iload X (xdec_at tX5_rateOf_0 25 rfl) rfl ?_
  refine v_if_eq (tgt := 42) X (xdec_at tX5_rateOf_0 26 rfl) (by decide) (fun c_34 => ?_) (fun c_34 => ?_)
  · refine v_iconst (v := 0) X (xdec_at tX5_rateOf_0 29 rfl) (by decide) ?_
    refine v_iadd X (xdec_at tX5_rateOf_0 30 rfl) ?_
    have e9 : M_rateOf μ k p g b = (((μ.1 1 (ix ((3 * p) + k))) + ((μ.1 2 (ix ((3 * p) + k))) * ((g - 1) / 20))) + 0) := by simp [M_rateOf, (eq_true c_34)]
    exact v_iret X hr (xdec_at tX5_rateOf_0 31 rfl) (Nat.le_of_ble_eq_true rfl) (Nat.le_of_ble_eq_true rfl) ⟨rfl, by rw [e9], rfl⟩
  · refine v_bipush (v := 50) X (xdec_at tX5_rateOf_0 27 rfl) (by decide) ?_
    refine v_goto (tgt := 43) X (xdec_at tX5_rateOf_0 28 rfl) (by decide) ?_
    refine v_iadd X (xdec_at tX5_rateOf_0 30 rfl) ?_
    have e9 : M_rateOf μ k p g b = (((μ.1 1 (ix ((3 * p) + k))) + ((μ.1 2 (ix ((3 * p) + k))) * ((g - 1) / 20))) + 50) := by simp [M_rateOf, c_34]
    exact v_iret X hr (xdec_at tX5_rateOf_0 31 rfl) (Nat.le_of_ble_eq_true rfl) (Nat.le_of_ble_eq_true rfl) ⟨rfl, by rw [e9], rfl⟩
set_option maxRecDepth 100000 in
set_option maxHeartbeats 4000000 in
theorem c_isUnderWay (l : Launch) (Z : xZ) (B0 : Nat) (lay : xK → Nat) (μ : Mu) (r : xK → Option xE) (t : Nat) (ht : t < 40) : YM l yX5_isUnderWay cX5_isUnderWay 2 ((some FieldType.boolean)) 0 0 0 0 Z B0 [.ref (lay (100, 0)), .int (nI t)] lay (cM Z lay μ r) (fun v lay' C' => lay = lay' ∧ C' = cM Z lay μ r ∧ ((v = some (.int 1) ∧ undW μ t) ∨ (v = some (.int 0) ∧ ¬ undW μ t))) := by
  refine YM_of myX5_isUnderWay.2.2 RX5 rfl [some (.ref (lay (100, 0))), some (.int (nI t))] rfl (Nat.le_of_ble_eq_true rfl) ?_
  intro P1 P2 P3 P4 P5 P6 P7 P8 X hr hnm
  refine v_aload_n X (xdec_at tX5_isUnderWay_0 0 rfl) rfl rfl ?_
  refine r_A X 23 (by decide) rfl rfl (xdec_at tX5_isUnderWay_0 1 rfl) ?_
  refine v_iload_n X (xdec_at tX5_isUnderWay_0 2 rfl) rfl rfl ?_
  refine r_In (v := (μ.1 23 t)) X 23 (by decide) rfl rfl ht (xdec_at tX5_isUnderWay_0 3 rfl) rfl ?_
  refine v_if_eq (tgt := 19) X (xdec_at tX5_isUnderWay_0 4 rfl) (by decide) (fun c_6 => ?_) (fun c_6 => ?_)
  · refine v_iconst (v := 1) X (xdec_at tX5_isUnderWay_0 11 rfl) (by decide) ?_
    refine v_goto (tgt := 24) X (xdec_at tX5_isUnderWay_0 12 rfl) (by decide) ?_
    exact v_zret X hr (xdec_at tX5_isUnderWay_0 14 rfl) (Nat.le_of_ble_eq_true rfl) (Nat.le_of_ble_eq_true rfl) (by rfl) ⟨rfl, rfl, Or.inl ⟨rfl, by simp [undW, (eq_true c_6)]⟩⟩
  · refine v_aload_n X (xdec_at tX5_isUnderWay_0 5 rfl) rfl rfl ?_
    refine r_A X 23 (by decide) rfl rfl (xdec_at tX5_isUnderWay_0 6 rfl) ?_
    refine v_iload_n X (xdec_at tX5_isUnderWay_0 7 rfl) rfl rfl ?_
    refine r_In (v := (μ.1 23 t)) X 23 (by decide) rfl rfl ht (xdec_at tX5_isUnderWay_0 8 rfl) rfl ?_
    refine v_iconst (v := 1) X (xdec_at tX5_isUnderWay_0 9 rfl) (by decide) ?_
    refine v_icmp_ne (tgt := 23) X (xdec_at tX5_isUnderWay_0 10 rfl) (by decide) (fun c_16 => ?_) (fun c_16 => ?_)
    · refine v_iconst (v := 0) X (xdec_at tX5_isUnderWay_0 13 rfl) (by decide) ?_
      exact v_zret X hr (xdec_at tX5_isUnderWay_0 14 rfl) (Nat.le_of_ble_eq_true rfl) (Nat.le_of_ble_eq_true rfl) (by rfl) ⟨rfl, rfl, Or.inr ⟨rfl, by simp [undW, c_6, c_16]⟩⟩
    · refine v_iconst (v := 1) X (xdec_at tX5_isUnderWay_0 11 rfl) (by decide) ?_
      refine v_goto (tgt := 24) X (xdec_at tX5_isUnderWay_0 12 rfl) (by decide) ?_
      exact v_zret X hr (xdec_at tX5_isUnderWay_0 14 rfl) (Nat.le_of_ble_eq_true rfl) (Nat.le_of_ble_eq_true rfl) (by rfl) ⟨rfl, rfl, Or.inl ⟨rfl, by simp [undW, c_6, (eq_true c_16)]⟩⟩
set_option maxRecDepth 100000 in
set_option maxHeartbeats 4000000 in
theorem c_ends (l : Launch) (Z : xZ) (B0 : Nat) (lay : xK → Nat) (μ : Mu) (r : xK → Option xE) (g : Nat) (hg : g < 20) (f : Int32) : YM l yX5_ends cX5_ends 3 ((some FieldType.boolean)) 0 0 0 0 Z B0 [.ref (lay (100, 0)), .int (nI g), .int f] lay (cM Z lay μ r) (fun v lay' C' => lay = lay' ∧ C' = cM Z lay μ r ∧ ((v = some (.int 1) ∧ (μ.1 11 g = f ∨ μ.1 12 g = f)) ∨ (v = some (.int 0) ∧ ¬ (μ.1 11 g = f ∨ μ.1 12 g = f)))) := by
  refine YM_of myX5_ends.2.2 RX5 rfl [some (.ref (lay (100, 0))), some (.int (nI g)), some (.int f)] rfl (Nat.le_of_ble_eq_true rfl) ?_
  intro P1 P2 P3 P4 P5 P6 P7 P8 X hr hnm
  refine v_aload_n X (xdec_at tX5_ends_0 0 rfl) rfl rfl ?_
  refine r_A X 11 (by decide) rfl rfl (xdec_at tX5_ends_0 1 rfl) ?_
  refine v_iload_n X (xdec_at tX5_ends_0 2 rfl) rfl rfl ?_
  refine r_In (v := (μ.1 11 g)) X 11 (by decide) rfl rfl hg (xdec_at tX5_ends_0 3 rfl) rfl ?_
  refine v_iload_n X (xdec_at tX5_ends_0 4 rfl) rfl rfl ?_
  refine v_icmp_eq (tgt := 20) X (xdec_at tX5_ends_0 5 rfl) (by decide) (fun c_7 => ?_) (fun c_7 => ?_)
  · refine v_iconst (v := 1) X (xdec_at tX5_ends_0 12 rfl) (by decide) ?_
    refine v_goto (tgt := 25) X (xdec_at tX5_ends_0 13 rfl) (by decide) ?_
    exact v_zret X hr (xdec_at tX5_ends_0 15 rfl) (Nat.le_of_ble_eq_true rfl) (Nat.le_of_ble_eq_true rfl) (by rfl) ⟨rfl, rfl, Or.inl ⟨rfl, by simp [(eq_true c_7)]⟩⟩
  · refine v_aload_n X (xdec_at tX5_ends_0 6 rfl) rfl rfl ?_
    refine r_A X 12 (by decide) rfl rfl (xdec_at tX5_ends_0 7 rfl) ?_
    refine v_iload_n X (xdec_at tX5_ends_0 8 rfl) rfl rfl ?_
    refine r_In (v := (μ.1 12 g)) X 12 (by decide) rfl rfl hg (xdec_at tX5_ends_0 9 rfl) rfl ?_
    refine v_iload_n X (xdec_at tX5_ends_0 10 rfl) rfl rfl ?_
    refine v_icmp_ne (tgt := 24) X (xdec_at tX5_ends_0 11 rfl) (by decide) (fun c_17 => ?_) (fun c_17 => ?_)
    · refine v_iconst (v := 0) X (xdec_at tX5_ends_0 14 rfl) (by decide) ?_
      exact v_zret X hr (xdec_at tX5_ends_0 15 rfl) (Nat.le_of_ble_eq_true rfl) (Nat.le_of_ble_eq_true rfl) (by rfl) ⟨rfl, rfl, Or.inr ⟨rfl, by simp [c_7, c_17]⟩⟩
    · refine v_iconst (v := 1) X (xdec_at tX5_ends_0 12 rfl) (by decide) ?_
      refine v_goto (tgt := 25) X (xdec_at tX5_ends_0 13 rfl) (by decide) ?_
      exact v_zret X hr (xdec_at tX5_ends_0 15 rfl) (Nat.le_of_ble_eq_true rfl) (Nat.le_of_ble_eq_true rfl) (by rfl) ⟨rfl, rfl, Or.inl ⟨rfl, by simp [c_7, (eq_true c_17)]⟩⟩
set_option maxRecDepth 100000 in
set_option maxHeartbeats 4000000 in
theorem c_across (l : Launch) (Z : xZ) (B0 : Nat) (lay : xK → Nat) (μ : Mu) (r : xK → Option xE) (g : Nat) (hg : g < 20) (f : Int32) : YM l yX5_across cX5_across 3 ((some FieldType.int)) 0 0 0 0 Z B0 [.ref (lay (100, 0)), .int (nI g), .int f] lay (cM Z lay μ r) (fun v lay' C' => lay = lay' ∧ v = some (.int (M_across μ.1 g f)) ∧ C' = cM Z lay μ r) := by
  refine YM_of myX5_across.2.2 RX5 rfl [some (.ref (lay (100, 0))), some (.int (nI g)), some (.int f)] rfl (Nat.le_of_ble_eq_true rfl) ?_
  intro P1 P2 P3 P4 P5 P6 P7 P8 X hr hnm
  refine v_aload_n X (xdec_at tX5_across_0 0 rfl) rfl rfl ?_
  refine r_A X 11 (by decide) rfl rfl (xdec_at tX5_across_0 1 rfl) ?_
  refine v_iload_n X (xdec_at tX5_across_0 2 rfl) rfl rfl ?_
  refine r_In (v := (μ.1 11 g)) X 11 (by decide) rfl rfl hg (xdec_at tX5_across_0 3 rfl) rfl ?_
  refine v_iload_n X (xdec_at tX5_across_0 4 rfl) rfl rfl ?_
  refine v_icmp_ne (tgt := 19) X (xdec_at tX5_across_0 5 rfl) (by decide) (fun c_7 => ?_) (fun c_7 => ?_)
  · refine v_aload_n X (xdec_at tX5_across_0 11 rfl) rfl rfl ?_
    refine r_A X 11 (by decide) rfl rfl (xdec_at tX5_across_0 12 rfl) ?_
    refine v_iload_n X (xdec_at tX5_across_0 13 rfl) rfl rfl ?_
    refine r_In (v := (μ.1 11 g)) X 11 (by decide) rfl rfl hg (xdec_at tX5_across_0 14 rfl) rfl ?_
    have e9 : M_across μ.1 g f = (μ.1 11 g) := by simp [M_across, c_7]
    exact v_iret X hr (xdec_at tX5_across_0 15 rfl) (Nat.le_of_ble_eq_true rfl) (Nat.le_of_ble_eq_true rfl) ⟨rfl, by rw [e9], rfl⟩
  · refine v_aload_n X (xdec_at tX5_across_0 6 rfl) rfl rfl ?_
    refine r_A X 12 (by decide) rfl rfl (xdec_at tX5_across_0 7 rfl) ?_
    refine v_iload_n X (xdec_at tX5_across_0 8 rfl) rfl rfl ?_
    refine r_In (v := (μ.1 12 g)) X 12 (by decide) rfl rfl hg (xdec_at tX5_across_0 9 rfl) rfl ?_
    refine v_goto (tgt := 25) X (xdec_at tX5_across_0 10 rfl) (by decide) ?_
    have e9 : M_across μ.1 g f = (μ.1 12 g) := by simp [M_across, (eq_true c_7)]
    exact v_iret X hr (xdec_at tX5_across_0 15 rfl) (Nat.le_of_ble_eq_true rfl) (Nat.le_of_ble_eq_true rfl) ⟨rfl, by rw [e9], rfl⟩
set_option maxRecDepth 100000 in
set_option maxHeartbeats 4000000 in
theorem c_taxOf (l : Launch) (Z : xZ) (B0 : Nat) (lay : xK → Nat) (μ : Mu) (r : xK → Option xE) (t : Nat) (ht : t < 40) (h18 : vp_in (μ.1 18 t) 8) (h19 : vp_in (μ.1 19 t) 8) : YM l yX5_taxOf cX5_taxOf 5 ((some FieldType.long)) 0 0 0 0 Z B0 [.ref (lay (100, 0)), .int (nI t)] lay (cM Z lay μ r) (fun v lay' C' => lay = lay' ∧ v = some (.long (M_taxOf μ t)) ∧ C' = cM Z lay μ r) := by
  refine YM_of myX5_taxOf.2.2 RX5 rfl [some (.ref (lay (100, 0))), some (.int (nI t)), none, none, none] rfl (Nat.le_of_ble_eq_true rfl) ?_
  intro P1 P2 P3 P4 P5 P6 P7 P8 X hr hnm
  refine v_ldc2 (v := 2) X (xw_at tW_20 23 rfl) (xdec_at tX5_taxOf_0 0 rfl) ?_
  refine v_aload_n X (xdec_at tX5_taxOf_0 1 rfl) rfl rfl ?_
  refine r_A X 22 (by decide) rfl rfl (xdec_at tX5_taxOf_0 2 rfl) ?_
  refine v_iload_n X (xdec_at tX5_taxOf_0 3 rfl) rfl rfl ?_
  refine r_In (v := (μ.1 22 t)) X 22 (by decide) rfl rfl ht (xdec_at tX5_taxOf_0 4 rfl) rfl ?_
  refine v_i2l X (xdec_at tX5_taxOf_0 5 rfl) rfl ?_
  refine v_lmul X (xdec_at tX5_taxOf_0 6 rfl) ?_
  refine v_lstore_n (lv' := [some (.ref (lay (100, 0))), some (.int (nI t)), some (.long (2 * ((μ.1 22 t)).toInt64)), none, none]) X (xdec_at tX5_taxOf_0 7 rfl) rfl (by decide) rfl ?_
  refine v_aload_n X (xdec_at tX5_taxOf_0 8 rfl) rfl rfl ?_
  refine r_A X 1 (by decide) rfl rfl (xdec_at tX5_taxOf_0 9 rfl) ?_
  refine v_iconst (v := 3) X (xdec_at tX5_taxOf_0 10 rfl) (by decide) ?_
  refine v_aload_n X (xdec_at tX5_taxOf_0 11 rfl) rfl rfl ?_
  refine r_A X 18 (by decide) rfl rfl (xdec_at tX5_taxOf_0 12 rfl) ?_
  refine v_iload_n X (xdec_at tX5_taxOf_0 13 rfl) rfl rfl ?_
  refine r_In (v := (μ.1 18 t)) X 18 (by decide) rfl rfl ht (xdec_at tX5_taxOf_0 14 rfl) rfl ?_
  refine v_imul X (xdec_at tX5_taxOf_0 15 rfl) ?_
  refine r_I (v := (μ.1 1 (ix (3 * (μ.1 18 t))))) X 1 (by decide) rfl rfl (in_3 h18).1 (xdec_at tX5_taxOf_0 16 rfl) rfl ?_
  refine v_istore (lv' := [some (.ref (lay (100, 0))), some (.int (nI t)), some (.long (2 * ((μ.1 22 t)).toInt64)), none, some (.int (μ.1 1 (ix (3 * (μ.1 18 t)))))]) X (xdec_at tX5_taxOf_0 17 rfl) (by decide) rfl ?_
  refine v_iload X (xdec_at tX5_taxOf_0 18 rfl) rfl ?_
  refine v_if_ne (tgt := 36) X (xdec_at tX5_taxOf_0 19 rfl) (by decide) (fun c_29 => ?_) (fun c_29 => ?_)
  · refine v_lload_n X (xdec_at tX5_taxOf_0 22 rfl) rfl rfl ?_
    refine v_aload_n X (xdec_at tX5_taxOf_0 23 rfl) rfl rfl ?_
    refine r_A X 1 (by decide) rfl rfl (xdec_at tX5_taxOf_0 24 rfl) ?_
    refine v_iconst (v := 3) X (xdec_at tX5_taxOf_0 25 rfl) (by decide) ?_
    refine v_aload_n X (xdec_at tX5_taxOf_0 26 rfl) rfl rfl ?_
    refine r_A X 19 (by decide) rfl rfl (xdec_at tX5_taxOf_0 27 rfl) ?_
    refine v_iload_n X (xdec_at tX5_taxOf_0 28 rfl) rfl rfl ?_
    refine r_In (v := (μ.1 19 t)) X 19 (by decide) rfl rfl ht (xdec_at tX5_taxOf_0 29 rfl) rfl ?_
    refine v_imul X (xdec_at tX5_taxOf_0 30 rfl) ?_
    refine r_I (v := (μ.1 1 (ix (3 * (μ.1 19 t))))) X 1 (by decide) rfl rfl (in_3 h19).1 (xdec_at tX5_taxOf_0 31 rfl) rfl ?_
    refine v_i2l X (xdec_at tX5_taxOf_0 32 rfl) rfl ?_
    refine v_lmul X (xdec_at tX5_taxOf_0 33 rfl) ?_
    refine v_iload X (xdec_at tX5_taxOf_0 34 rfl) rfl ?_
    refine v_i2l X (xdec_at tX5_taxOf_0 35 rfl) rfl ?_
    refine v_ldiv X (xdec_at tX5_taxOf_0 36 rfl) (fun q => c_29 (by have := congrArg Int64.toInt32 q; simpa using this)) ?_
    have e9 : M_taxOf μ t = (((2 * ((μ.1 22 t)).toInt64) * ((μ.1 1 (ix (3 * (μ.1 19 t))))).toInt64) / ((μ.1 1 (ix (3 * (μ.1 18 t))))).toInt64) := by simp [M_taxOf, c_29]
    exact v_lret X hr (xdec_at tX5_taxOf_0 37 rfl) (Nat.le_of_ble_eq_true rfl) (Nat.le_of_ble_eq_true rfl) ⟨rfl, by rw [e9], rfl⟩
  · refine v_lload_n X (xdec_at tX5_taxOf_0 20 rfl) rfl rfl ?_
    refine v_goto (tgt := 56) X (xdec_at tX5_taxOf_0 21 rfl) (by decide) ?_
    have e9 : M_taxOf μ t = (2 * ((μ.1 22 t)).toInt64) := by simp [M_taxOf, (eq_true c_29)]
    exact v_lret X hr (xdec_at tX5_taxOf_0 37 rfl) (Nat.le_of_ble_eq_true rfl) (Nat.le_of_ble_eq_true rfl) ⟨rfl, by rw [e9], rfl⟩
set_option maxRecDepth 100000 in
set_option maxHeartbeats 4000000 in
theorem c_redirect (l : Launch) (Z : xZ) (B0 : Nat) (lay : xK → Nat) (μ : Mu) (r : xK → Option xE) (t b : Int32) (hI : RI μ) : YM l yX5_redirect cX5_redirect 4 ((some FieldType.int)) 2 43 0 0 Z B0 [.ref (lay (100, 0)), .int t, .int b] lay (cM Z lay μ r) (fun v lay' C' => lay = lay' ∧ v = some (.int (M_redirect μ t b).1) ∧ C' = cM Z lay (M_redirect μ t b).2 r) := by
  refine YM_of myX5_redirect.2.2 RX5 rfl [some (.ref (lay (100, 0))), some (.int t), some (.int b), none] rfl (Nat.le_of_ble_eq_true rfl) ?_
  intro P1 P2 P3 P4 P5 P6 P7 P8 X hr hnm
  refine v_aload_n X (xdec_at tX5_redirect_0 0 rfl) rfl rfl ?_
  refine v_aload_n X (xdec_at tX5_redirect_0 1 rfl) rfl rfl ?_
  refine v_iload_n X (xdec_at tX5_redirect_0 2 rfl) rfl rfl ?_
  refine v_callV X myX5_isThing [.int t] [.ref (lay (100, 0))] (c_isThing l Z B0 lay μ r t) (xw_at tW_20 0 rfl) (100, 0) cM_0 rfl rfl rfl rfl (by rfl) (Nat.le_of_ble_eq_true rfl) (xdec_at tX5_redirect_0 3 rfl) ⟨(Nat.le_of_ble_eq_true rfl), (Nat.le_of_ble_eq_true rfl)⟩ ⟨(Nat.le_of_ble_eq_true rfl), (Nat.le_of_ble_eq_true rfl)⟩ ?_
  rintro v9 lay9 C9 ⟨rfl, rfl, ⟨rfl, q_3⟩ | ⟨rfl, q_3⟩⟩
  · refine v_if_eq (tgt := 21) X (xdec_at tX5_redirect_0 4 rfl) (by decide) (fun h9 => absurd h9 (by decide)) (fun _ => ?_)
    refine v_aload_n X (xdec_at tX5_redirect_0 5 rfl) rfl rfl ?_
    refine v_iload_n X (xdec_at tX5_redirect_0 6 rfl) rfl rfl ?_
    refine v_callV X myX5_isPost [.int b] [.ref (lay (100, 0))] (c_isPost l Z B0 lay μ r b) (xw_at tW_17 38 rfl) (100, 0) cM_0 rfl rfl rfl rfl (by rfl) (Nat.le_of_ble_eq_true rfl) (xdec_at tX5_redirect_0 7 rfl) ⟨(Nat.le_of_ble_eq_true rfl), (Nat.le_of_ble_eq_true rfl)⟩ ⟨(Nat.le_of_ble_eq_true rfl), (Nat.le_of_ble_eq_true rfl)⟩ ?_
    rintro v9 lay9 C9 ⟨rfl, rfl, ⟨rfl, q_11⟩ | ⟨rfl, q_11⟩⟩
    · refine v_if_eq (tgt := 21) X (xdec_at tX5_redirect_0 8 rfl) (by decide) (fun h9 => absurd h9 (by decide)) (fun _ => ?_)
      refine v_iconst (v := 1) X (xdec_at tX5_redirect_0 9 rfl) (by decide) ?_
      refine v_goto (tgt := 22) X (xdec_at tX5_redirect_0 10 rfl) (by decide) ?_
      refine v_callV X myX5_asks [.int 1] [] (c_asks1 l Z B0 lay μ r) (xw_at tW_17 31 rfl) (100, 0) cM_0 rfl rfl rfl rfl (by rfl) (Nat.le_of_ble_eq_true rfl) (xdec_at tX5_redirect_0 12 rfl) ⟨(Nat.le_of_ble_eq_true rfl), (Nat.le_of_ble_eq_true rfl)⟩ ⟨(Nat.le_of_ble_eq_true rfl), (Nat.le_of_ble_eq_true rfl)⟩ ?_
      rintro v9 lay9 C9 ⟨rfl, rfl, rfl⟩
      refine v_if_ne (tgt := 30) X (xdec_at tX5_redirect_0 13 rfl) (by decide) (fun _ => ?_) (fun h9 => absurd h9 (by decide))
      refine v_aload_n X (xdec_at tX5_redirect_0 16 rfl) rfl rfl ?_
      refine r_A X 23 (by decide) rfl rfl (xdec_at tX5_redirect_0 17 rfl) ?_
      refine v_iload_n X (xdec_at tX5_redirect_0 18 rfl) rfl rfl ?_
      refine r_I (v := (μ.1 23 (ix t))) X 23 (by decide) rfl rfl (hI.T (by assumption)) (xdec_at tX5_redirect_0 19 rfl) rfl ?_
      refine v_if_ne (tgt := 55) X (xdec_at tX5_redirect_0 20 rfl) (by decide) (fun c_36 => ?_) (fun c_36 => ?_)
      · refine v_aload_n X (xdec_at tX5_redirect_0 31 rfl) rfl rfl ?_
        refine v_iload_n X (xdec_at tX5_redirect_0 32 rfl) rfl rfl ?_
        refine v_st (st' := [.int (nI (ix t)), .ref (lay (100, 0))]) (by rw [in_eq (hI.T (by assumption)) (by decide)] <;> rfl) ?_
        refine v_callV X myX5_isUnderWay [.int (nI (ix t))] [] (c_isUnderWay l Z B0 lay ((up2 μ.1 38 0 0), μ.2) r (ix t) (in_ix (hI.T (by assumption)))) (xw_at tW_20 3 rfl) (100, 0) cM_0 rfl rfl rfl rfl (by rfl) (Nat.le_of_ble_eq_true rfl) (xdec_at tX5_redirect_0 33 rfl) ⟨(Nat.le_of_ble_eq_true rfl), (Nat.le_of_ble_eq_true rfl)⟩ ⟨(Nat.le_of_ble_eq_true rfl), (Nat.le_of_ble_eq_true rfl)⟩ ?_
        rintro v9 lay9 C9 ⟨rfl, rfl, ⟨rfl, q_57⟩ | ⟨rfl, q_57⟩⟩
        · have q_57 : undW μ (ix t) := q_57
          refine v_if_eq (tgt := 72) X (xdec_at tX5_redirect_0 34 rfl) (by decide) (fun h9 => absurd h9 (by decide)) (fun _ => ?_)
          refine v_aload_n X (xdec_at tX5_redirect_0 35 rfl) rfl rfl ?_
          refine r_A X 27 (by decide) rfl rfl (xdec_at tX5_redirect_0 36 rfl) ?_
          refine v_iload_n X (xdec_at tX5_redirect_0 37 rfl) rfl rfl ?_
          refine r_Z (v := (μ.1 27 (ix t))) X 27 (by decide) rfl rfl (hI.T (by assumption)) (xdec_at tX5_redirect_0 38 rfl) rfl ?_
          refine v_if_eq (tgt := 78) X (xdec_at tX5_redirect_0 39 rfl) (by decide) (fun c_69 => ?_) (fun c_69 => ?_)
          · refine v_aload_n X (xdec_at tX5_redirect_1 4 rfl) rfl rfl ?_
            refine r_A X 19 (by decide) rfl rfl (xdec_at tX5_redirect_1 5 rfl) ?_
            refine v_iload_n X (xdec_at tX5_redirect_1 6 rfl) rfl rfl ?_
            refine r_I (v := (μ.1 19 (ix t))) X 19 (by decide) rfl rfl (hI.T (by assumption)) (xdec_at tX5_redirect_1 7 rfl) rfl ?_
            refine v_istore_n (lv' := [some (.ref (lay (100, 0))), some (.int t), some (.int b), some (.int (μ.1 19 (ix t)))]) X (xdec_at tX5_redirect_1 8 rfl) rfl (by decide) rfl ?_
            refine v_aload_n X (xdec_at tX5_redirect_1 9 rfl) rfl rfl ?_
            refine r_A X 19 (by decide) rfl rfl (xdec_at tX5_redirect_1 10 rfl) ?_
            refine v_iload_n X (xdec_at tX5_redirect_1 11 rfl) rfl rfl ?_
            refine v_iload_n X (xdec_at tX5_redirect_1 12 rfl) rfl rfl ?_
            refine r_PI X 19 (by decide) rfl rfl (hI.T (by assumption)) (xdec_at tX5_redirect_1 13 rfl) ?_
            refine v_iload_n X (xdec_at tX5_redirect_1 14 rfl) rfl rfl ?_
            have e9 : M_redirect μ t b = ((μ.1 19 (ix t)), ((up2 (up2 μ.1 38 0 0) 19 (ix t) b), μ.2)) := by simp [M_redirect, up2_at, (eq_true q_3), (eq_true q_11), c_36, (eq_true q_57), (eq_true c_69)]
            exact v_iret X hr (xdec_at tX5_redirect_1 15 rfl) (Nat.le_of_ble_eq_true rfl) (Nat.le_of_ble_eq_true rfl) ⟨rfl, by rw [e9], by rw [e9]⟩
          · refine v_aload_n X (xdec_at tX5_redirect_1 0 rfl) rfl rfl ?_
            refine v_iconst (v := 3) X (xdec_at tX5_redirect_1 1 rfl) (by decide) ?_
            refine v_callV X myX5_fails [.int 3] [] (c_fails l Z B0 lay ((up2 μ.1 38 0 0), μ.2) r 3) (xw_at tW_18 11 rfl) (100, 0) cM_0 rfl rfl rfl rfl (by rfl) (Nat.le_of_ble_eq_true rfl) (xdec_at tX5_redirect_1 2 rfl) ⟨(Nat.le_of_ble_eq_true rfl), (Nat.le_of_ble_eq_true rfl)⟩ ⟨(Nat.le_of_ble_eq_true rfl), (Nat.le_of_ble_eq_true rfl)⟩ ?_
            rintro v9 lay9 C9 ⟨rfl, rfl, rfl⟩
            have e9 : M_redirect μ t b = (0, ((up2 (up2 μ.1 38 0 0) 38 0 3), μ.2)) := by simp [M_redirect, up2_at, (eq_true q_3), (eq_true q_11), c_36, (eq_true q_57), c_69]
            exact v_iret X hr (xdec_at tX5_redirect_1 3 rfl) (Nat.le_of_ble_eq_true rfl) (Nat.le_of_ble_eq_true rfl) ⟨rfl, by rw [e9], by rw [e9]⟩
        · have q_57 : ¬ undW μ (ix t) := q_57
          refine v_if_eq (tgt := 72) X (xdec_at tX5_redirect_0 34 rfl) (by decide) (fun _ => ?_) (fun h9 => absurd h9 (by decide))
          refine v_aload_n X (xdec_at tX5_redirect_1 0 rfl) rfl rfl ?_
          refine v_iconst (v := 3) X (xdec_at tX5_redirect_1 1 rfl) (by decide) ?_
          refine v_callV X myX5_fails [.int 3] [] (c_fails l Z B0 lay ((up2 μ.1 38 0 0), μ.2) r 3) (xw_at tW_18 11 rfl) (100, 0) cM_0 rfl rfl rfl rfl (by rfl) (Nat.le_of_ble_eq_true rfl) (xdec_at tX5_redirect_1 2 rfl) ⟨(Nat.le_of_ble_eq_true rfl), (Nat.le_of_ble_eq_true rfl)⟩ ⟨(Nat.le_of_ble_eq_true rfl), (Nat.le_of_ble_eq_true rfl)⟩ ?_
          rintro v9 lay9 C9 ⟨rfl, rfl, rfl⟩
          have e9 : M_redirect μ t b = (0, ((up2 (up2 μ.1 38 0 0) 38 0 3), μ.2)) := by simp [M_redirect, up2_at, (eq_true q_3), (eq_true q_11), c_36, q_57]
          exact v_iret X hr (xdec_at tX5_redirect_1 3 rfl) (Nat.le_of_ble_eq_true rfl) (Nat.le_of_ble_eq_true rfl) ⟨rfl, by rw [e9], by rw [e9]⟩
      · refine v_aload_n X (xdec_at tX5_redirect_0 21 rfl) rfl rfl ?_
        refine r_A X 24 (by decide) rfl rfl (xdec_at tX5_redirect_0 22 rfl) ?_
        refine v_iload_n X (xdec_at tX5_redirect_0 23 rfl) rfl rfl ?_
        refine r_I (v := (μ.1 24 (ix t))) X 24 (by decide) rfl rfl (hI.T (by assumption)) (xdec_at tX5_redirect_0 24 rfl) rfl ?_
        refine v_iload_n X (xdec_at tX5_redirect_0 25 rfl) rfl rfl ?_
        refine v_icmp_ne (tgt := 55) X (xdec_at tX5_redirect_0 26 rfl) (by decide) (fun c_46 => ?_) (fun c_46 => ?_)
        · refine v_aload_n X (xdec_at tX5_redirect_0 31 rfl) rfl rfl ?_
          refine v_iload_n X (xdec_at tX5_redirect_0 32 rfl) rfl rfl ?_
          refine v_st (st' := [.int (nI (ix t)), .ref (lay (100, 0))]) (by rw [in_eq (hI.T (by assumption)) (by decide)] <;> rfl) ?_
          refine v_callV X myX5_isUnderWay [.int (nI (ix t))] [] (c_isUnderWay l Z B0 lay ((up2 μ.1 38 0 0), μ.2) r (ix t) (in_ix (hI.T (by assumption)))) (xw_at tW_20 3 rfl) (100, 0) cM_0 rfl rfl rfl rfl (by rfl) (Nat.le_of_ble_eq_true rfl) (xdec_at tX5_redirect_0 33 rfl) ⟨(Nat.le_of_ble_eq_true rfl), (Nat.le_of_ble_eq_true rfl)⟩ ⟨(Nat.le_of_ble_eq_true rfl), (Nat.le_of_ble_eq_true rfl)⟩ ?_
          rintro v9 lay9 C9 ⟨rfl, rfl, ⟨rfl, q_57⟩ | ⟨rfl, q_57⟩⟩
          · have q_57 : undW μ (ix t) := q_57
            refine v_if_eq (tgt := 72) X (xdec_at tX5_redirect_0 34 rfl) (by decide) (fun h9 => absurd h9 (by decide)) (fun _ => ?_)
            refine v_aload_n X (xdec_at tX5_redirect_0 35 rfl) rfl rfl ?_
            refine r_A X 27 (by decide) rfl rfl (xdec_at tX5_redirect_0 36 rfl) ?_
            refine v_iload_n X (xdec_at tX5_redirect_0 37 rfl) rfl rfl ?_
            refine r_Z (v := (μ.1 27 (ix t))) X 27 (by decide) rfl rfl (hI.T (by assumption)) (xdec_at tX5_redirect_0 38 rfl) rfl ?_
            refine v_if_eq (tgt := 78) X (xdec_at tX5_redirect_0 39 rfl) (by decide) (fun c_69 => ?_) (fun c_69 => ?_)
            · refine v_aload_n X (xdec_at tX5_redirect_1 4 rfl) rfl rfl ?_
              refine r_A X 19 (by decide) rfl rfl (xdec_at tX5_redirect_1 5 rfl) ?_
              refine v_iload_n X (xdec_at tX5_redirect_1 6 rfl) rfl rfl ?_
              refine r_I (v := (μ.1 19 (ix t))) X 19 (by decide) rfl rfl (hI.T (by assumption)) (xdec_at tX5_redirect_1 7 rfl) rfl ?_
              refine v_istore_n (lv' := [some (.ref (lay (100, 0))), some (.int t), some (.int b), some (.int (μ.1 19 (ix t)))]) X (xdec_at tX5_redirect_1 8 rfl) rfl (by decide) rfl ?_
              refine v_aload_n X (xdec_at tX5_redirect_1 9 rfl) rfl rfl ?_
              refine r_A X 19 (by decide) rfl rfl (xdec_at tX5_redirect_1 10 rfl) ?_
              refine v_iload_n X (xdec_at tX5_redirect_1 11 rfl) rfl rfl ?_
              refine v_iload_n X (xdec_at tX5_redirect_1 12 rfl) rfl rfl ?_
              refine r_PI X 19 (by decide) rfl rfl (hI.T (by assumption)) (xdec_at tX5_redirect_1 13 rfl) ?_
              refine v_iload_n X (xdec_at tX5_redirect_1 14 rfl) rfl rfl ?_
              have e9 : M_redirect μ t b = ((μ.1 19 (ix t)), ((up2 (up2 μ.1 38 0 0) 19 (ix t) b), μ.2)) := by simp [M_redirect, up2_at, (eq_true q_3), (eq_true q_11), (eq_true c_36), c_46, (eq_true q_57), (eq_true c_69)]
              exact v_iret X hr (xdec_at tX5_redirect_1 15 rfl) (Nat.le_of_ble_eq_true rfl) (Nat.le_of_ble_eq_true rfl) ⟨rfl, by rw [e9], by rw [e9]⟩
            · refine v_aload_n X (xdec_at tX5_redirect_1 0 rfl) rfl rfl ?_
              refine v_iconst (v := 3) X (xdec_at tX5_redirect_1 1 rfl) (by decide) ?_
              refine v_callV X myX5_fails [.int 3] [] (c_fails l Z B0 lay ((up2 μ.1 38 0 0), μ.2) r 3) (xw_at tW_18 11 rfl) (100, 0) cM_0 rfl rfl rfl rfl (by rfl) (Nat.le_of_ble_eq_true rfl) (xdec_at tX5_redirect_1 2 rfl) ⟨(Nat.le_of_ble_eq_true rfl), (Nat.le_of_ble_eq_true rfl)⟩ ⟨(Nat.le_of_ble_eq_true rfl), (Nat.le_of_ble_eq_true rfl)⟩ ?_
              rintro v9 lay9 C9 ⟨rfl, rfl, rfl⟩
              have e9 : M_redirect μ t b = (0, ((up2 (up2 μ.1 38 0 0) 38 0 3), μ.2)) := by simp [M_redirect, up2_at, (eq_true q_3), (eq_true q_11), (eq_true c_36), c_46, (eq_true q_57), c_69]
              exact v_iret X hr (xdec_at tX5_redirect_1 3 rfl) (Nat.le_of_ble_eq_true rfl) (Nat.le_of_ble_eq_true rfl) ⟨rfl, by rw [e9], by rw [e9]⟩
          · have q_57 : ¬ undW μ (ix t) := q_57
            refine v_if_eq (tgt := 72) X (xdec_at tX5_redirect_0 34 rfl) (by decide) (fun _ => ?_) (fun h9 => absurd h9 (by decide))
            refine v_aload_n X (xdec_at tX5_redirect_1 0 rfl) rfl rfl ?_
            refine v_iconst (v := 3) X (xdec_at tX5_redirect_1 1 rfl) (by decide) ?_
            refine v_callV X myX5_fails [.int 3] [] (c_fails l Z B0 lay ((up2 μ.1 38 0 0), μ.2) r 3) (xw_at tW_18 11 rfl) (100, 0) cM_0 rfl rfl rfl rfl (by rfl) (Nat.le_of_ble_eq_true rfl) (xdec_at tX5_redirect_1 2 rfl) ⟨(Nat.le_of_ble_eq_true rfl), (Nat.le_of_ble_eq_true rfl)⟩ ⟨(Nat.le_of_ble_eq_true rfl), (Nat.le_of_ble_eq_true rfl)⟩ ?_
            rintro v9 lay9 C9 ⟨rfl, rfl, rfl⟩
            have e9 : M_redirect μ t b = (0, ((up2 (up2 μ.1 38 0 0) 38 0 3), μ.2)) := by simp [M_redirect, up2_at, (eq_true q_3), (eq_true q_11), (eq_true c_36), c_46, q_57]
            exact v_iret X hr (xdec_at tX5_redirect_1 3 rfl) (Nat.le_of_ble_eq_true rfl) (Nat.le_of_ble_eq_true rfl) ⟨rfl, by rw [e9], by rw [e9]⟩
        · refine v_aload_n X (xdec_at tX5_redirect_0 27 rfl) rfl rfl ?_
          refine v_iconst (v := 2) X (xdec_at tX5_redirect_0 28 rfl) (by decide) ?_
          refine v_callV X myX5_fails [.int 2] [] (c_fails l Z B0 lay ((up2 μ.1 38 0 0), μ.2) r 2) (xw_at tW_18 11 rfl) (100, 0) cM_0 rfl rfl rfl rfl (by rfl) (Nat.le_of_ble_eq_true rfl) (xdec_at tX5_redirect_0 29 rfl) ⟨(Nat.le_of_ble_eq_true rfl), (Nat.le_of_ble_eq_true rfl)⟩ ⟨(Nat.le_of_ble_eq_true rfl), (Nat.le_of_ble_eq_true rfl)⟩ ?_
          rintro v9 lay9 C9 ⟨rfl, rfl, rfl⟩
          have e9 : M_redirect μ t b = (0, ((up2 (up2 μ.1 38 0 0) 38 0 2), μ.2)) := by simp [M_redirect, up2_at, (eq_true q_3), (eq_true q_11), (eq_true c_36), (eq_true c_46)]
          exact v_iret X hr (xdec_at tX5_redirect_0 30 rfl) (Nat.le_of_ble_eq_true rfl) (Nat.le_of_ble_eq_true rfl) ⟨rfl, by rw [e9], by rw [e9]⟩
    · refine v_if_eq (tgt := 21) X (xdec_at tX5_redirect_0 8 rfl) (by decide) (fun _ => ?_) (fun h9 => absurd h9 (by decide))
      refine v_iconst (v := 0) X (xdec_at tX5_redirect_0 11 rfl) (by decide) ?_
      refine v_callV X myX5_asks [.int 0] [] (c_asks0 l Z B0 lay μ r) (xw_at tW_17 31 rfl) (100, 0) cM_0 rfl rfl rfl rfl (by rfl) (Nat.le_of_ble_eq_true rfl) (xdec_at tX5_redirect_0 12 rfl) ⟨(Nat.le_of_ble_eq_true rfl), (Nat.le_of_ble_eq_true rfl)⟩ ⟨(Nat.le_of_ble_eq_true rfl), (Nat.le_of_ble_eq_true rfl)⟩ ?_
      rintro v9 lay9 C9 ⟨rfl, rfl, rfl⟩
      refine v_if_ne (tgt := 30) X (xdec_at tX5_redirect_0 13 rfl) (by decide) (fun h9 => absurd h9 (by decide)) (fun _ => ?_)
      refine v_iconst (v := 0) X (xdec_at tX5_redirect_0 14 rfl) (by decide) ?_
      have e9 : M_redirect μ t b = (0, ((up2 μ.1 38 0 1), μ.2)) := by simp [M_redirect, up2_at, (eq_true q_3), q_11]
      exact v_iret X hr (xdec_at tX5_redirect_0 15 rfl) (Nat.le_of_ble_eq_true rfl) (Nat.le_of_ble_eq_true rfl) ⟨rfl, by rw [e9], by rw [e9]⟩
  · refine v_if_eq (tgt := 21) X (xdec_at tX5_redirect_0 4 rfl) (by decide) (fun _ => ?_) (fun h9 => absurd h9 (by decide))
    refine v_iconst (v := 0) X (xdec_at tX5_redirect_0 11 rfl) (by decide) ?_
    refine v_callV X myX5_asks [.int 0] [] (c_asks0 l Z B0 lay μ r) (xw_at tW_17 31 rfl) (100, 0) cM_0 rfl rfl rfl rfl (by rfl) (Nat.le_of_ble_eq_true rfl) (xdec_at tX5_redirect_0 12 rfl) ⟨(Nat.le_of_ble_eq_true rfl), (Nat.le_of_ble_eq_true rfl)⟩ ⟨(Nat.le_of_ble_eq_true rfl), (Nat.le_of_ble_eq_true rfl)⟩ ?_
    rintro v9 lay9 C9 ⟨rfl, rfl, rfl⟩
    refine v_if_ne (tgt := 30) X (xdec_at tX5_redirect_0 13 rfl) (by decide) (fun h9 => absurd h9 (by decide)) (fun _ => ?_)
    refine v_iconst (v := 0) X (xdec_at tX5_redirect_0 14 rfl) (by decide) ?_
    have e9 : M_redirect μ t b = (0, ((up2 μ.1 38 0 1), μ.2)) := by simp [M_redirect, up2_at, q_3]
    exact v_iret X hr (xdec_at tX5_redirect_0 15 rfl) (Nat.le_of_ble_eq_true rfl) (Nat.le_of_ble_eq_true rfl) ⟨rfl, by rw [e9], by rw [e9]⟩
set_option maxRecDepth 100000 in
set_option maxHeartbeats 4000000 in
theorem c_refuse (l : Launch) (Z : xZ) (B0 : Nat) (lay : xK → Nat) (μ : Mu) (r : xK → Option xE) (t k : Int32) (hI : RI μ) (hk : k = 0 ∨ k = 1) : YM l yX5_refuse cX5_refuse 4 ((some FieldType.boolean)) 2 43 0 0 Z B0 [.ref (lay (100, 0)), .int t, .int k] lay (cM Z lay μ r) (fun v lay' C' => lay = lay' ∧ v = some (.int (M_refuse μ t k).1) ∧ C' = cM Z lay (M_refuse μ t k).2 r) := by
  refine YM_of myX5_refuse.2.2 RX5 rfl [some (.ref (lay (100, 0))), some (.int t), some (.int k), none] rfl (Nat.le_of_ble_eq_true rfl) ?_
  intro P1 P2 P3 P4 P5 P6 P7 P8 X hr hnm
  refine v_aload_n X (xdec_at tX5_refuse_0 0 rfl) rfl rfl ?_
  refine v_aload_n X (xdec_at tX5_refuse_0 1 rfl) rfl rfl ?_
  refine v_iload_n X (xdec_at tX5_refuse_0 2 rfl) rfl rfl ?_
  refine v_callV X myX5_isThing [.int t] [.ref (lay (100, 0))] (c_isThing l Z B0 lay μ r t) (xw_at tW_20 0 rfl) (100, 0) cM_0 rfl rfl rfl rfl (by rfl) (Nat.le_of_ble_eq_true rfl) (xdec_at tX5_refuse_0 3 rfl) ⟨(Nat.le_of_ble_eq_true rfl), (Nat.le_of_ble_eq_true rfl)⟩ ⟨(Nat.le_of_ble_eq_true rfl), (Nat.le_of_ble_eq_true rfl)⟩ ?_
  rintro v9 lay9 C9 ⟨rfl, rfl, ⟨rfl, q_3⟩ | ⟨rfl, q_3⟩⟩
  · refine v_callV X myX5_asks [.int 1] [] (c_asks1 l Z B0 lay μ r) (xw_at tW_17 31 rfl) (100, 0) cM_0 rfl rfl rfl rfl (by rfl) (Nat.le_of_ble_eq_true rfl) (xdec_at tX5_refuse_0 4 rfl) ⟨(Nat.le_of_ble_eq_true rfl), (Nat.le_of_ble_eq_true rfl)⟩ ⟨(Nat.le_of_ble_eq_true rfl), (Nat.le_of_ble_eq_true rfl)⟩ ?_
    rintro v9 lay9 C9 ⟨rfl, rfl, rfl⟩
    refine v_if_ne (tgt := 14) X (xdec_at tX5_refuse_0 5 rfl) (by decide) (fun _ => ?_) (fun h9 => absurd h9 (by decide))
    refine v_aload_n X (xdec_at tX5_refuse_0 8 rfl) rfl rfl ?_
    refine v_iload_n X (xdec_at tX5_refuse_0 9 rfl) rfl rfl ?_
    refine v_st (st' := [.int (nI (ix t)), .ref (lay (100, 0))]) (by rw [in_eq (hI.T (by assumption)) (by decide)] <;> rfl) ?_
    refine v_callV X myX5_isUnderWay [.int (nI (ix t))] [] (c_isUnderWay l Z B0 lay ((up2 μ.1 38 0 0), μ.2) r (ix t) (in_ix (hI.T (by assumption)))) (xw_at tW_20 3 rfl) (100, 0) cM_0 rfl rfl rfl rfl (by rfl) (Nat.le_of_ble_eq_true rfl) (xdec_at tX5_refuse_0 10 rfl) ⟨(Nat.le_of_ble_eq_true rfl), (Nat.le_of_ble_eq_true rfl)⟩ ⟨(Nat.le_of_ble_eq_true rfl), (Nat.le_of_ble_eq_true rfl)⟩ ?_
    rintro v9 lay9 C9 ⟨rfl, rfl, ⟨rfl, q_16⟩ | ⟨rfl, q_16⟩⟩
    · have q_16 : undW μ (ix t) := q_16
      refine v_if_eq (tgt := 31) X (xdec_at tX5_refuse_0 11 rfl) (by decide) (fun h9 => absurd h9 (by decide)) (fun _ => ?_)
      refine v_aload_n X (xdec_at tX5_refuse_0 12 rfl) rfl rfl ?_
      refine r_A X 27 (by decide) rfl rfl (xdec_at tX5_refuse_0 13 rfl) ?_
      refine v_iload_n X (xdec_at tX5_refuse_0 14 rfl) rfl rfl ?_
      refine r_Z (v := (μ.1 27 (ix t))) X 27 (by decide) rfl rfl (hI.T (by assumption)) (xdec_at tX5_refuse_0 15 rfl) rfl ?_
      refine v_if_eq (tgt := 38) X (xdec_at tX5_refuse_0 16 rfl) (by decide) (fun c_28 => ?_) (fun c_28 => ?_)
      · refine v_aload_n X (xdec_at tX5_refuse_0 22 rfl) rfl rfl ?_
        refine r_A X 28 (by decide) rfl rfl (xdec_at tX5_refuse_0 23 rfl) ?_
        refine v_iload_n X (xdec_at tX5_refuse_0 24 rfl) rfl rfl ?_
        refine r_Z (v := (μ.1 28 (ix t))) X 28 (by decide) rfl rfl (hI.T (by assumption)) (xdec_at tX5_refuse_0 25 rfl) rfl ?_
        refine v_istore_n (lv' := [some (.ref (lay (100, 0))), some (.int t), some (.int k), some (.int (μ.1 28 (ix t)))]) X (xdec_at tX5_refuse_0 26 rfl) rfl (by decide) rfl ?_
        refine v_aload_n X (xdec_at tX5_refuse_0 27 rfl) rfl rfl ?_
        refine r_A X 28 (by decide) rfl rfl (xdec_at tX5_refuse_0 28 rfl) ?_
        refine v_iload_n X (xdec_at tX5_refuse_0 29 rfl) rfl rfl ?_
        refine v_iload_n X (xdec_at tX5_refuse_0 30 rfl) rfl rfl ?_
        refine r_PZ X 28 (by decide) rfl rfl hk (hI.T (by assumption)) (xdec_at tX5_refuse_0 31 rfl) ?_
        refine v_iload_n X (xdec_at tX5_refuse_0 32 rfl) rfl rfl ?_
        have e9 : M_refuse μ t k = ((μ.1 28 (ix t)), ((up2 (up2 μ.1 38 0 0) 28 (ix t) k), μ.2)) := by simp [M_refuse, up2_at, (eq_true q_3), (eq_true q_16), (eq_true c_28)]
        exact v_zret X hr (xdec_at tX5_refuse_0 33 rfl) (Nat.le_of_ble_eq_true rfl) (Nat.le_of_ble_eq_true rfl) (hI.B (by decide)) ⟨rfl, by rw [e9], by rw [e9]⟩
      · refine v_aload_n X (xdec_at tX5_refuse_0 17 rfl) rfl rfl ?_
        refine v_iconst (v := 2) X (xdec_at tX5_refuse_0 18 rfl) (by decide) ?_
        refine r_PS X 38 (by decide) rfl (by decide) rfl (xdec_at tX5_refuse_0 19 rfl) ?_
        refine v_iconst (v := 0) X (xdec_at tX5_refuse_0 20 rfl) (by decide) ?_
        have e9 : M_refuse μ t k = (0, ((up2 (up2 μ.1 38 0 0) 38 0 2), μ.2)) := by simp [M_refuse, up2_at, (eq_true q_3), (eq_true q_16), c_28]
        exact v_zret X hr (xdec_at tX5_refuse_0 21 rfl) (Nat.le_of_ble_eq_true rfl) (Nat.le_of_ble_eq_true rfl) (by rfl) ⟨rfl, by rw [e9], by rw [e9]⟩
    · have q_16 : ¬ undW μ (ix t) := q_16
      refine v_if_eq (tgt := 31) X (xdec_at tX5_refuse_0 11 rfl) (by decide) (fun _ => ?_) (fun h9 => absurd h9 (by decide))
      refine v_aload_n X (xdec_at tX5_refuse_0 17 rfl) rfl rfl ?_
      refine v_iconst (v := 2) X (xdec_at tX5_refuse_0 18 rfl) (by decide) ?_
      refine r_PS X 38 (by decide) rfl (by decide) rfl (xdec_at tX5_refuse_0 19 rfl) ?_
      refine v_iconst (v := 0) X (xdec_at tX5_refuse_0 20 rfl) (by decide) ?_
      have e9 : M_refuse μ t k = (0, ((up2 (up2 μ.1 38 0 0) 38 0 2), μ.2)) := by simp [M_refuse, up2_at, (eq_true q_3), q_16]
      exact v_zret X hr (xdec_at tX5_refuse_0 21 rfl) (Nat.le_of_ble_eq_true rfl) (Nat.le_of_ble_eq_true rfl) (by rfl) ⟨rfl, by rw [e9], by rw [e9]⟩
  · refine v_callV X myX5_asks [.int 0] [] (c_asks0 l Z B0 lay μ r) (xw_at tW_17 31 rfl) (100, 0) cM_0 rfl rfl rfl rfl (by rfl) (Nat.le_of_ble_eq_true rfl) (xdec_at tX5_refuse_0 4 rfl) ⟨(Nat.le_of_ble_eq_true rfl), (Nat.le_of_ble_eq_true rfl)⟩ ⟨(Nat.le_of_ble_eq_true rfl), (Nat.le_of_ble_eq_true rfl)⟩ ?_
    rintro v9 lay9 C9 ⟨rfl, rfl, rfl⟩
    refine v_if_ne (tgt := 14) X (xdec_at tX5_refuse_0 5 rfl) (by decide) (fun h9 => absurd h9 (by decide)) (fun _ => ?_)
    refine v_iconst (v := 0) X (xdec_at tX5_refuse_0 6 rfl) (by decide) ?_
    have e9 : M_refuse μ t k = (0, ((up2 μ.1 38 0 1), μ.2)) := by simp [M_refuse, up2_at, q_3]
    exact v_zret X hr (xdec_at tX5_refuse_0 7 rfl) (Nat.le_of_ble_eq_true rfl) (Nat.le_of_ble_eq_true rfl) (by rfl) ⟨rfl, by rw [e9], by rw [e9]⟩
set_option maxRecDepth 100000 in
set_option maxHeartbeats 4000000 in
theorem c_lose (l : Launch) (Z : xZ) (B0 : Nat) (lay : xK → Nat) (μ : Mu) (r : xK → Option xE) (t : Int32) (hI : RI μ) : YM l yX5_lose cX5_lose 2 ((some FieldType.int)) 2 43 0 0 Z B0 [.ref (lay (100, 0)), .int t] lay (cM Z lay μ r) (fun v lay' C' => lay = lay' ∧ v = some (.int (M_lose μ t).1) ∧ C' = cM Z lay (M_lose μ t).2 r) := by
  refine YM_of myX5_lose.2.2 RX5 rfl [some (.ref (lay (100, 0))), some (.int t)] rfl (Nat.le_of_ble_eq_true rfl) ?_
  intro P1 P2 P3 P4 P5 P6 P7 P8 X hr hnm
  refine v_aload_n X (xdec_at tX5_lose_0 0 rfl) rfl rfl ?_
  refine v_aload_n X (xdec_at tX5_lose_0 1 rfl) rfl rfl ?_
  refine v_iload_n X (xdec_at tX5_lose_0 2 rfl) rfl rfl ?_
  refine v_callV X myX5_isThing [.int t] [.ref (lay (100, 0))] (c_isThing l Z B0 lay μ r t) (xw_at tW_20 0 rfl) (100, 0) cM_0 rfl rfl rfl rfl (by rfl) (Nat.le_of_ble_eq_true rfl) (xdec_at tX5_lose_0 3 rfl) ⟨(Nat.le_of_ble_eq_true rfl), (Nat.le_of_ble_eq_true rfl)⟩ ⟨(Nat.le_of_ble_eq_true rfl), (Nat.le_of_ble_eq_true rfl)⟩ ?_
  rintro v9 lay9 C9 ⟨rfl, rfl, ⟨rfl, q_3⟩ | ⟨rfl, q_3⟩⟩
  · refine v_callV X myX5_asks [.int 1] [] (c_asks1 l Z B0 lay μ r) (xw_at tW_17 31 rfl) (100, 0) cM_0 rfl rfl rfl rfl (by rfl) (Nat.le_of_ble_eq_true rfl) (xdec_at tX5_lose_0 4 rfl) ⟨(Nat.le_of_ble_eq_true rfl), (Nat.le_of_ble_eq_true rfl)⟩ ⟨(Nat.le_of_ble_eq_true rfl), (Nat.le_of_ble_eq_true rfl)⟩ ?_
    rintro v9 lay9 C9 ⟨rfl, rfl, rfl⟩
    refine v_if_ne (tgt := 14) X (xdec_at tX5_lose_0 5 rfl) (by decide) (fun _ => ?_) (fun h9 => absurd h9 (by decide))
    refine v_aload_n X (xdec_at tX5_lose_0 8 rfl) rfl rfl ?_
    refine v_iload_n X (xdec_at tX5_lose_0 9 rfl) rfl rfl ?_
    refine v_st (st' := [.int (nI (ix t)), .ref (lay (100, 0))]) (by rw [in_eq (hI.T (by assumption)) (by decide)] <;> rfl) ?_
    refine v_callV X myX5_isUnderWay [.int (nI (ix t))] [] (c_isUnderWay l Z B0 lay ((up2 μ.1 38 0 0), μ.2) r (ix t) (in_ix (hI.T (by assumption)))) (xw_at tW_20 3 rfl) (100, 0) cM_0 rfl rfl rfl rfl (by rfl) (Nat.le_of_ble_eq_true rfl) (xdec_at tX5_lose_0 10 rfl) ⟨(Nat.le_of_ble_eq_true rfl), (Nat.le_of_ble_eq_true rfl)⟩ ⟨(Nat.le_of_ble_eq_true rfl), (Nat.le_of_ble_eq_true rfl)⟩ ?_
    rintro v9 lay9 C9 ⟨rfl, rfl, ⟨rfl, q_16⟩ | ⟨rfl, q_16⟩⟩
    · have q_16 : undW μ (ix t) := q_16
      refine v_if_ne (tgt := 28) X (xdec_at tX5_lose_0 11 rfl) (by decide) (fun _ => ?_) (fun h9 => absurd h9 (by decide))
      refine v_aload_n X (xdec_at tX5_lose_0 16 rfl) rfl rfl ?_
      refine r_A X 23 (by decide) rfl rfl (xdec_at tX5_lose_0 17 rfl) ?_
      refine v_iload_n X (xdec_at tX5_lose_0 18 rfl) rfl rfl ?_
      refine v_iconst (v := 3) X (xdec_at tX5_lose_0 19 rfl) (by decide) ?_
      refine r_PI X 23 (by decide) rfl rfl (hI.T (by assumption)) (xdec_at tX5_lose_0 20 rfl) ?_
      refine v_aload_n X (xdec_at tX5_lose_0 21 rfl) rfl rfl ?_
      refine r_A X 26 (by decide) rfl rfl (xdec_at tX5_lose_0 22 rfl) ?_
      refine v_iload_n X (xdec_at tX5_lose_0 23 rfl) rfl rfl ?_
      refine v_iconst (v := 0) X (xdec_at tX5_lose_0 24 rfl) (by decide) ?_
      refine r_PI X 26 (by decide) rfl rfl (hI.T (by assumption)) (xdec_at tX5_lose_0 25 rfl) ?_
      refine v_aload_n X (xdec_at tX5_lose_0 26 rfl) rfl rfl ?_
      refine r_A X 35 (by decide) rfl rfl (xdec_at tX5_lose_0 27 rfl) ?_
      refine v_iload_n X (xdec_at tX5_lose_0 28 rfl) rfl rfl ?_
      refine r_I (v := (μ.1 35 (ix t))) X 35 (by decide) rfl rfl (hI.T (by assumption)) (xdec_at tX5_lose_0 29 rfl) rfl ?_
      refine v_if_ne (tgt := 55) X (xdec_at tX5_lose_0 30 rfl) (by decide) (fun c_48 => ?_) (fun c_48 => ?_)
      · refine v_aload_n X (xdec_at tX5_lose_0 33 rfl) rfl rfl ?_
        refine r_A X 31 (by decide) rfl rfl (xdec_at tX5_lose_0 34 rfl) ?_
        refine v_aload_n X (xdec_at tX5_lose_0 35 rfl) rfl rfl ?_
        refine r_A X 34 (by decide) rfl rfl (xdec_at tX5_lose_0 36 rfl) ?_
        refine v_iload_n X (xdec_at tX5_lose_0 37 rfl) rfl rfl ?_
        refine r_I (v := (μ.1 34 (ix t))) X 34 (by decide) rfl rfl (hI.T (by assumption)) (xdec_at tX5_lose_0 38 rfl) rfl ?_
        refine r_I (v := (μ.1 31 (ix (μ.1 34 (ix t))))) X 31 (by decide) rfl rfl (hI.lh (in_ix (hI.T (by assumption)))) (xdec_at tX5_lose_0 39 rfl) rfl ?_
        have e9 : M_lose μ t = ((μ.1 31 (ix (μ.1 34 (ix t)))), ((up2 (up2 (up2 μ.1 38 0 0) 23 (ix t) 3) 26 (ix t) 0), μ.2)) := by simp [M_lose, up2_at, (eq_true q_3), (eq_true q_16), c_48]
        exact v_iret X hr (xdec_at tX5_lose_1 0 rfl) (Nat.le_of_ble_eq_true rfl) (Nat.le_of_ble_eq_true rfl) ⟨rfl, by rw [e9], by rw [e9]⟩
      · refine v_iconst (v := (-1)) X (xdec_at tX5_lose_0 31 rfl) (by decide) ?_
        refine v_goto (tgt := 66) X (xdec_at tX5_lose_0 32 rfl) (by decide) ?_
        have e9 : M_lose μ t = ((-1), ((up2 (up2 (up2 μ.1 38 0 0) 23 (ix t) 3) 26 (ix t) 0), μ.2)) := by simp [M_lose, up2_at, (eq_true q_3), (eq_true q_16), (eq_true c_48)]
        exact v_iret X hr (xdec_at tX5_lose_1 0 rfl) (Nat.le_of_ble_eq_true rfl) (Nat.le_of_ble_eq_true rfl) ⟨rfl, by rw [e9], by rw [e9]⟩
    · have q_16 : ¬ undW μ (ix t) := q_16
      refine v_if_ne (tgt := 28) X (xdec_at tX5_lose_0 11 rfl) (by decide) (fun h9 => absurd h9 (by decide)) (fun _ => ?_)
      refine v_aload_n X (xdec_at tX5_lose_0 12 rfl) rfl rfl ?_
      refine v_iconst (v := 2) X (xdec_at tX5_lose_0 13 rfl) (by decide) ?_
      refine v_callV X myX5_fails [.int 2] [] (c_fails l Z B0 lay ((up2 μ.1 38 0 0), μ.2) r 2) (xw_at tW_18 11 rfl) (100, 0) cM_0 rfl rfl rfl rfl (by rfl) (Nat.le_of_ble_eq_true rfl) (xdec_at tX5_lose_0 14 rfl) ⟨(Nat.le_of_ble_eq_true rfl), (Nat.le_of_ble_eq_true rfl)⟩ ⟨(Nat.le_of_ble_eq_true rfl), (Nat.le_of_ble_eq_true rfl)⟩ ?_
      rintro v9 lay9 C9 ⟨rfl, rfl, rfl⟩
      have e9 : M_lose μ t = (0, ((up2 (up2 μ.1 38 0 0) 38 0 2), μ.2)) := by simp [M_lose, up2_at, (eq_true q_3), q_16]
      exact v_iret X hr (xdec_at tX5_lose_0 15 rfl) (Nat.le_of_ble_eq_true rfl) (Nat.le_of_ble_eq_true rfl) ⟨rfl, by rw [e9], by rw [e9]⟩
  · refine v_callV X myX5_asks [.int 0] [] (c_asks0 l Z B0 lay μ r) (xw_at tW_17 31 rfl) (100, 0) cM_0 rfl rfl rfl rfl (by rfl) (Nat.le_of_ble_eq_true rfl) (xdec_at tX5_lose_0 4 rfl) ⟨(Nat.le_of_ble_eq_true rfl), (Nat.le_of_ble_eq_true rfl)⟩ ⟨(Nat.le_of_ble_eq_true rfl), (Nat.le_of_ble_eq_true rfl)⟩ ?_
    rintro v9 lay9 C9 ⟨rfl, rfl, rfl⟩
    refine v_if_ne (tgt := 14) X (xdec_at tX5_lose_0 5 rfl) (by decide) (fun h9 => absurd h9 (by decide)) (fun _ => ?_)
    refine v_iconst (v := 0) X (xdec_at tX5_lose_0 6 rfl) (by decide) ?_
    have e9 : M_lose μ t = (0, ((up2 μ.1 38 0 1), μ.2)) := by simp [M_lose, up2_at, q_3]
    exact v_iret X hr (xdec_at tX5_lose_0 7 rfl) (Nat.le_of_ble_eq_true rfl) (Nat.le_of_ble_eq_true rfl) ⟨rfl, by rw [e9], by rw [e9]⟩
set_option maxRecDepth 100000 in
set_option maxHeartbeats 4000000 in
theorem c_rate (l : Launch) (Z : xZ) (B0 : Nat) (lay : xK → Nat) (μ : Mu) (r : xK → Option xE) (k p g b : Int32) (hI : RI μ) : YM l yX5_rate cX5_rate 5 ((some FieldType.int)) 2 43 0 0 Z B0 [.ref (lay (100, 0)), .int k, .int p, .int g, .int b] lay (cM Z lay μ r) (fun v lay' C' => lay = lay' ∧ v = some (.int (M_rate μ k p g b).1) ∧ C' = cM Z lay (M_rate μ k p g b).2 r) := by
  refine YM_of myX5_rate.2.2 RX5 rfl [some (.ref (lay (100, 0))), some (.int k), some (.int p), some (.int g), some (.int b)] rfl (Nat.le_of_ble_eq_true rfl) ?_
  intro P1 P2 P3 P4 P5 P6 P7 P8 X hr hnm
  refine v_aload_n X (xdec_at tX5_rate_0 0 rfl) rfl rfl ?_
  refine v_aload_n X (xdec_at tX5_rate_0 1 rfl) rfl rfl ?_
  refine v_iload_n X (xdec_at tX5_rate_0 2 rfl) rfl rfl ?_
  refine v_callV X myX5_isPost [.int p] [.ref (lay (100, 0))] (c_isPost l Z B0 lay μ r p) (xw_at tW_17 38 rfl) (100, 0) cM_0 rfl rfl rfl rfl (by rfl) (Nat.le_of_ble_eq_true rfl) (xdec_at tX5_rate_0 3 rfl) ⟨(Nat.le_of_ble_eq_true rfl), (Nat.le_of_ble_eq_true rfl)⟩ ⟨(Nat.le_of_ble_eq_true rfl), (Nat.le_of_ble_eq_true rfl)⟩ ?_
  rintro v9 lay9 C9 ⟨rfl, rfl, ⟨rfl, q_3⟩ | ⟨rfl, q_3⟩⟩
  · refine v_callV X myX5_asks [.int 1] [] (c_asks1 l Z B0 lay μ r) (xw_at tW_17 31 rfl) (100, 0) cM_0 rfl rfl rfl rfl (by rfl) (Nat.le_of_ble_eq_true rfl) (xdec_at tX5_rate_0 4 rfl) ⟨(Nat.le_of_ble_eq_true rfl), (Nat.le_of_ble_eq_true rfl)⟩ ⟨(Nat.le_of_ble_eq_true rfl), (Nat.le_of_ble_eq_true rfl)⟩ ?_
    rintro v9 lay9 C9 ⟨rfl, rfl, rfl⟩
    refine v_if_ne (tgt := 14) X (xdec_at tX5_rate_0 5 rfl) (by decide) (fun _ => ?_) (fun h9 => absurd h9 (by decide))
    refine v_iload_n X (xdec_at tX5_rate_0 8 rfl) rfl rfl ?_
    refine v_callS X myX5_isKind [.int k] [] (c_isKind l Z B0 lay (cM Z lay ((up2 μ.1 38 0 0), μ.2) r) k) (xw_at tW_18 4 rfl) rfl rfl (by rfl) (Nat.le_of_ble_eq_true rfl) (xdec_at tX5_rate_0 9 rfl) ⟨(Nat.le_of_ble_eq_true rfl), (Nat.le_of_ble_eq_true rfl)⟩ ⟨(Nat.le_of_ble_eq_true rfl), (Nat.le_of_ble_eq_true rfl)⟩ ?_
    rintro v9 lay9 C9 ⟨rfl, rfl, ⟨rfl, q_15⟩ | ⟨rfl, q_15⟩⟩
    · refine v_if_eq (tgt := 41) X (xdec_at tX5_rate_0 10 rfl) (by decide) (fun h9 => absurd h9 (by decide)) (fun _ => ?_)
      refine v_iload_n X (xdec_at tX5_rate_0 11 rfl) rfl rfl ?_
      refine v_iload_n X (xdec_at tX5_rate_0 12 rfl) rfl rfl ?_
      refine v_callS X myX5_areGrams [.int k, .int g] [] (c_areGrams l Z B0 lay (cM Z lay ((up2 μ.1 38 0 0), μ.2) r) k g) (xw_at tW_19 26 rfl) rfl rfl (by rfl) (Nat.le_of_ble_eq_true rfl) (xdec_at tX5_rate_0 13 rfl) ⟨(Nat.le_of_ble_eq_true rfl), (Nat.le_of_ble_eq_true rfl)⟩ ⟨(Nat.le_of_ble_eq_true rfl), (Nat.le_of_ble_eq_true rfl)⟩ ?_
      rintro v9 lay9 C9 ⟨rfl, rfl, ⟨rfl, q_23⟩ | ⟨rfl, q_23⟩⟩
      · refine v_if_eq (tgt := 41) X (xdec_at tX5_rate_0 14 rfl) (by decide) (fun h9 => absurd h9 (by decide)) (fun _ => ?_)
        refine v_aload_n X (xdec_at tX5_rate_0 15 rfl) rfl rfl ?_
        refine v_iload_n X (xdec_at tX5_rate_0 16 rfl) rfl rfl ?_
        refine v_iload_n X (xdec_at tX5_rate_0 17 rfl) rfl rfl ?_
        refine v_iload_n X (xdec_at tX5_rate_0 18 rfl) rfl rfl ?_
        refine v_iload X (xdec_at tX5_rate_0 19 rfl) rfl ?_
        refine v_callV X myX5_rateOf [.int k, .int p, .int g, .int b] [] (c_rateOf l Z B0 lay ((up2 μ.1 38 0 0), μ.2) r k p g b (hI.PK (by assumption) (by assumption))) (xw_at tW_19 30 rfl) (100, 0) cM_0 rfl rfl rfl rfl (by rfl) (Nat.le_of_ble_eq_true rfl) (xdec_at tX5_rate_0 20 rfl) ⟨(Nat.le_of_ble_eq_true rfl), (Nat.le_of_ble_eq_true rfl)⟩ ⟨(Nat.le_of_ble_eq_true rfl), (Nat.le_of_ble_eq_true rfl)⟩ ?_
        rintro v9 lay9 C9 ⟨rfl, rfl, rfl⟩
        refine v_goto (tgt := 46) X (xdec_at tX5_rate_0 21 rfl) (by decide) ?_
        have e9 : M_rate μ k p g b = ((M_rateOf ((up2 μ.1 38 0 0), μ.2) k p g b), ((up2 μ.1 38 0 0), μ.2)) := by simp [M_rate, up2_at, (eq_true q_3), (eq_true q_15), (eq_true q_23), M_rateOf, up2]
        exact v_iret X hr (xdec_at tX5_rate_0 25 rfl) (Nat.le_of_ble_eq_true rfl) (Nat.le_of_ble_eq_true rfl) ⟨rfl, by rw [e9], by rw [e9]⟩
      · refine v_if_eq (tgt := 41) X (xdec_at tX5_rate_0 14 rfl) (by decide) (fun _ => ?_) (fun h9 => absurd h9 (by decide))
        refine v_aload_n X (xdec_at tX5_rate_0 22 rfl) rfl rfl ?_
        refine v_iconst (v := 2) X (xdec_at tX5_rate_0 23 rfl) (by decide) ?_
        refine v_callV X myX5_fails [.int 2] [] (c_fails l Z B0 lay ((up2 μ.1 38 0 0), μ.2) r 2) (xw_at tW_18 11 rfl) (100, 0) cM_0 rfl rfl rfl rfl (by rfl) (Nat.le_of_ble_eq_true rfl) (xdec_at tX5_rate_0 24 rfl) ⟨(Nat.le_of_ble_eq_true rfl), (Nat.le_of_ble_eq_true rfl)⟩ ⟨(Nat.le_of_ble_eq_true rfl), (Nat.le_of_ble_eq_true rfl)⟩ ?_
        rintro v9 lay9 C9 ⟨rfl, rfl, rfl⟩
        have e9 : M_rate μ k p g b = (0, ((up2 (up2 μ.1 38 0 0) 38 0 2), μ.2)) := by simp [M_rate, up2_at, (eq_true q_3), (eq_true q_15), q_23, M_rateOf, up2]
        exact v_iret X hr (xdec_at tX5_rate_0 25 rfl) (Nat.le_of_ble_eq_true rfl) (Nat.le_of_ble_eq_true rfl) ⟨rfl, by rw [e9], by rw [e9]⟩
    · refine v_if_eq (tgt := 41) X (xdec_at tX5_rate_0 10 rfl) (by decide) (fun _ => ?_) (fun h9 => absurd h9 (by decide))
      refine v_aload_n X (xdec_at tX5_rate_0 22 rfl) rfl rfl ?_
      refine v_iconst (v := 2) X (xdec_at tX5_rate_0 23 rfl) (by decide) ?_
      refine v_callV X myX5_fails [.int 2] [] (c_fails l Z B0 lay ((up2 μ.1 38 0 0), μ.2) r 2) (xw_at tW_18 11 rfl) (100, 0) cM_0 rfl rfl rfl rfl (by rfl) (Nat.le_of_ble_eq_true rfl) (xdec_at tX5_rate_0 24 rfl) ⟨(Nat.le_of_ble_eq_true rfl), (Nat.le_of_ble_eq_true rfl)⟩ ⟨(Nat.le_of_ble_eq_true rfl), (Nat.le_of_ble_eq_true rfl)⟩ ?_
      rintro v9 lay9 C9 ⟨rfl, rfl, rfl⟩
      have e9 : M_rate μ k p g b = (0, ((up2 (up2 μ.1 38 0 0) 38 0 2), μ.2)) := by simp [M_rate, up2_at, (eq_true q_3), q_15, M_rateOf, up2]
      exact v_iret X hr (xdec_at tX5_rate_0 25 rfl) (Nat.le_of_ble_eq_true rfl) (Nat.le_of_ble_eq_true rfl) ⟨rfl, by rw [e9], by rw [e9]⟩
  · refine v_callV X myX5_asks [.int 0] [] (c_asks0 l Z B0 lay μ r) (xw_at tW_17 31 rfl) (100, 0) cM_0 rfl rfl rfl rfl (by rfl) (Nat.le_of_ble_eq_true rfl) (xdec_at tX5_rate_0 4 rfl) ⟨(Nat.le_of_ble_eq_true rfl), (Nat.le_of_ble_eq_true rfl)⟩ ⟨(Nat.le_of_ble_eq_true rfl), (Nat.le_of_ble_eq_true rfl)⟩ ?_
    rintro v9 lay9 C9 ⟨rfl, rfl, rfl⟩
    refine v_if_ne (tgt := 14) X (xdec_at tX5_rate_0 5 rfl) (by decide) (fun h9 => absurd h9 (by decide)) (fun _ => ?_)
    refine v_iconst (v := 0) X (xdec_at tX5_rate_0 6 rfl) (by decide) ?_
    have e9 : M_rate μ k p g b = (0, ((up2 μ.1 38 0 1), μ.2)) := by simp [M_rate, up2_at, q_3, M_rateOf, up2]
    exact v_iret X hr (xdec_at tX5_rate_0 7 rfl) (Nat.le_of_ble_eq_true rfl) (Nat.le_of_ble_eq_true rfl) ⟨rfl, by rw [e9], by rw [e9]⟩
set_option maxRecDepth 100000 in
set_option maxHeartbeats 4000000 in
theorem c_ofThing (l : Launch) (Z : xZ) (B0 : Nat) (lay : xK → Nat) (μ : Mu) (r : xK → Option xE) (t w : Int32) (hI : RI μ) : YM l yX5_ofThing cX5_ofThing 3 ((some FieldType.long)) 2 43 0 0 Z B0 [.ref (lay (100, 0)), .int t, .int w] lay (cM Z lay μ r) (fun v lay' C' => lay = lay' ∧ v = some (.long (M_ofThing μ t w).1) ∧ C' = cM Z lay (M_ofThing μ t w).2 r) := by
  refine YM_of myX5_ofThing.2.2 RX5 rfl [some (.ref (lay (100, 0))), some (.int t), some (.int w)] rfl (Nat.le_of_ble_eq_true rfl) ?_
  intro P1 P2 P3 P4 P5 P6 P7 P8 X hr hnm
  refine v_aload_n X (xdec_at tX5_ofThing_0 0 rfl) rfl rfl ?_
  refine v_aload_n X (xdec_at tX5_ofThing_0 1 rfl) rfl rfl ?_
  refine v_iload_n X (xdec_at tX5_ofThing_0 2 rfl) rfl rfl ?_
  refine v_callV X myX5_isThing [.int t] [.ref (lay (100, 0))] (c_isThing l Z B0 lay μ r t) (xw_at tW_20 0 rfl) (100, 0) cM_0 rfl rfl rfl rfl (by rfl) (Nat.le_of_ble_eq_true rfl) (xdec_at tX5_ofThing_0 3 rfl) ⟨(Nat.le_of_ble_eq_true rfl), (Nat.le_of_ble_eq_true rfl)⟩ ⟨(Nat.le_of_ble_eq_true rfl), (Nat.le_of_ble_eq_true rfl)⟩ ?_
  rintro v9 lay9 C9 ⟨rfl, rfl, ⟨rfl, q_3⟩ | ⟨rfl, q_3⟩⟩
  · refine v_callV X myX5_asks [.int 1] [] (c_asks1 l Z B0 lay μ r) (xw_at tW_17 31 rfl) (100, 0) cM_0 rfl rfl rfl rfl (by rfl) (Nat.le_of_ble_eq_true rfl) (xdec_at tX5_ofThing_0 4 rfl) ⟨(Nat.le_of_ble_eq_true rfl), (Nat.le_of_ble_eq_true rfl)⟩ ⟨(Nat.le_of_ble_eq_true rfl), (Nat.le_of_ble_eq_true rfl)⟩ ?_
    rintro v9 lay9 C9 ⟨rfl, rfl, rfl⟩
    refine v_if_ne (tgt := 14) X (xdec_at tX5_ofThing_0 5 rfl) (by decide) (fun _ => ?_) (fun h9 => absurd h9 (by decide))
    refine v_iload_n X (xdec_at tX5_ofThing_0 8 rfl) rfl rfl ?_
    by_cases w_0 : w = 0
    · refine v_tableIn (tgt := 56) X (xdec_at tX5_ofThing_0 9 rfl) (by rw [w_0]; decide) (by rw [w_0]; decide) (by rw [w_0]; rfl) (by decide) ?_
      refine v_aload_n X (xdec_at tX5_ofThing_0 10 rfl) rfl rfl ?_
      refine r_A X 23 (by decide) rfl rfl (xdec_at tX5_ofThing_0 11 rfl) ?_
      refine v_iload_n X (xdec_at tX5_ofThing_0 12 rfl) rfl rfl ?_
      refine r_I (v := (μ.1 23 (ix t))) X 23 (by decide) rfl rfl (hI.T (by assumption)) (xdec_at tX5_ofThing_0 13 rfl) rfl ?_
      refine v_i2l X (xdec_at tX5_ofThing_0 14 rfl) rfl ?_
      have e9 : M_ofThing μ t w = (((μ.1 23 (ix t))).toInt64, ((up2 μ.1 38 0 0), μ.2)) := by simp [M_ofThing, up2_at, (eq_true q_3), w_0, M_taxOf, up2]
      exact v_lret X hr (xdec_at tX5_ofThing_0 15 rfl) (Nat.le_of_ble_eq_true rfl) (Nat.le_of_ble_eq_true rfl) ⟨rfl, by rw [e9], by rw [e9]⟩
    by_cases w_1 : w = 1
    · refine v_tableIn (tgt := 64) X (xdec_at tX5_ofThing_0 9 rfl) (by rw [w_1]; decide) (by rw [w_1]; decide) (by rw [w_1]; rfl) (by decide) ?_
      refine v_aload_n X (xdec_at tX5_ofThing_0 16 rfl) rfl rfl ?_
      refine r_A X 24 (by decide) rfl rfl (xdec_at tX5_ofThing_0 17 rfl) ?_
      refine v_iload_n X (xdec_at tX5_ofThing_0 18 rfl) rfl rfl ?_
      refine r_I (v := (μ.1 24 (ix t))) X 24 (by decide) rfl rfl (hI.T (by assumption)) (xdec_at tX5_ofThing_0 19 rfl) rfl ?_
      refine v_i2l X (xdec_at tX5_ofThing_0 20 rfl) rfl ?_
      have e9 : M_ofThing μ t w = (((μ.1 24 (ix t))).toInt64, ((up2 μ.1 38 0 0), μ.2)) := by simp [M_ofThing, up2_at, (eq_true q_3), w_0, w_1, M_taxOf, up2]
      exact v_lret X hr (xdec_at tX5_ofThing_0 21 rfl) (Nat.le_of_ble_eq_true rfl) (Nat.le_of_ble_eq_true rfl) ⟨rfl, by rw [e9], by rw [e9]⟩
    by_cases w_2 : w = 2
    · refine v_tableIn (tgt := 72) X (xdec_at tX5_ofThing_0 9 rfl) (by rw [w_2]; decide) (by rw [w_2]; decide) (by rw [w_2]; rfl) (by decide) ?_
      refine v_aload_n X (xdec_at tX5_ofThing_0 22 rfl) rfl rfl ?_
      refine r_A X 26 (by decide) rfl rfl (xdec_at tX5_ofThing_0 23 rfl) ?_
      refine v_iload_n X (xdec_at tX5_ofThing_0 24 rfl) rfl rfl ?_
      refine r_I (v := (μ.1 26 (ix t))) X 26 (by decide) rfl rfl (hI.T (by assumption)) (xdec_at tX5_ofThing_0 25 rfl) rfl ?_
      refine v_i2l X (xdec_at tX5_ofThing_0 26 rfl) rfl ?_
      have e9 : M_ofThing μ t w = (((μ.1 26 (ix t))).toInt64, ((up2 μ.1 38 0 0), μ.2)) := by simp [M_ofThing, up2_at, (eq_true q_3), w_0, w_1, w_2, M_taxOf, up2]
      exact v_lret X hr (xdec_at tX5_ofThing_0 27 rfl) (Nat.le_of_ble_eq_true rfl) (Nat.le_of_ble_eq_true rfl) ⟨rfl, by rw [e9], by rw [e9]⟩
    by_cases w_3 : w = 3
    · refine v_tableIn (tgt := 80) X (xdec_at tX5_ofThing_0 9 rfl) (by rw [w_3]; decide) (by rw [w_3]; decide) (by rw [w_3]; rfl) (by decide) ?_
      refine v_aload_n X (xdec_at tX5_ofThing_0 28 rfl) rfl rfl ?_
      refine r_A X 19 (by decide) rfl rfl (xdec_at tX5_ofThing_0 29 rfl) ?_
      refine v_iload_n X (xdec_at tX5_ofThing_0 30 rfl) rfl rfl ?_
      refine r_I (v := (μ.1 19 (ix t))) X 19 (by decide) rfl rfl (hI.T (by assumption)) (xdec_at tX5_ofThing_0 31 rfl) rfl ?_
      refine v_i2l X (xdec_at tX5_ofThing_0 32 rfl) rfl ?_
      have e9 : M_ofThing μ t w = (((μ.1 19 (ix t))).toInt64, ((up2 μ.1 38 0 0), μ.2)) := by simp [M_ofThing, up2_at, (eq_true q_3), w_0, w_1, w_2, w_3, M_taxOf, up2]
      exact v_lret X hr (xdec_at tX5_ofThing_0 33 rfl) (Nat.le_of_ble_eq_true rfl) (Nat.le_of_ble_eq_true rfl) ⟨rfl, by rw [e9], by rw [e9]⟩
    by_cases w_4 : w = 4
    · refine v_tableIn (tgt := 88) X (xdec_at tX5_ofThing_0 9 rfl) (by rw [w_4]; decide) (by rw [w_4]; decide) (by rw [w_4]; rfl) (by decide) ?_
      refine v_aload_n X (xdec_at tX5_ofThing_0 34 rfl) rfl rfl ?_
      refine v_iload_n X (xdec_at tX5_ofThing_0 35 rfl) rfl rfl ?_
      refine v_st (st' := [.int (nI (ix t)), .ref (lay (100, 0))]) (by rw [in_eq (hI.T (by assumption)) (by decide)] <;> rfl) ?_
      refine v_callV X myX5_taxOf [.int (nI (ix t))] [] (c_taxOf l Z B0 lay ((up2 μ.1 38 0 0), μ.2) r (ix t) (in_ix (hI.T (by assumption))) (hI.or (in_ix (hI.T (by assumption)))) (hI.ta (in_ix (hI.T (by assumption))))) (xw_at tW_20 20 rfl) (100, 0) cM_0 rfl rfl rfl rfl (by rfl) (Nat.le_of_ble_eq_true rfl) (xdec_at tX5_ofThing_0 36 rfl) ⟨(Nat.le_of_ble_eq_true rfl), (Nat.le_of_ble_eq_true rfl)⟩ ⟨(Nat.le_of_ble_eq_true rfl), (Nat.le_of_ble_eq_true rfl)⟩ ?_
      rintro v9 lay9 C9 ⟨rfl, rfl, rfl⟩
      have e9 : M_ofThing μ t w = ((M_taxOf ((up2 μ.1 38 0 0), μ.2) (ix t)), ((up2 μ.1 38 0 0), μ.2)) := by simp [M_ofThing, up2_at, (eq_true q_3), w_0, w_1, w_2, w_3, w_4, M_taxOf, up2]
      exact v_lret X hr (xdec_at tX5_ofThing_0 37 rfl) (Nat.le_of_ble_eq_true rfl) (Nat.le_of_ble_eq_true rfl) ⟨rfl, by rw [e9], by rw [e9]⟩
    by_cases w_5 : w = 5
    · refine v_tableIn (tgt := 94) X (xdec_at tX5_ofThing_0 9 rfl) (by rw [w_5]; decide) (by rw [w_5]; decide) (by rw [w_5]; rfl) (by decide) ?_
      refine v_aload_n X (xdec_at tX5_ofThing_0 38 rfl) rfl rfl ?_
      refine r_A X 27 (by decide) rfl rfl (xdec_at tX5_ofThing_0 39 rfl) ?_
      refine v_iload_n X (xdec_at tX5_ofThing_1 0 rfl) rfl rfl ?_
      refine r_Z (v := (μ.1 27 (ix t))) X 27 (by decide) rfl rfl (hI.T (by assumption)) (xdec_at tX5_ofThing_1 1 rfl) rfl ?_
      refine v_if_eq (tgt := 107) X (xdec_at tX5_ofThing_1 2 rfl) (by decide) (fun c_100 => ?_) (fun c_100 => ?_)
      · refine v_lconst (v := 0) X (xdec_at tX5_ofThing_1 5 rfl) (by decide) ?_
        have e9 : M_ofThing μ t w = (0, ((up2 μ.1 38 0 0), μ.2)) := by simp [M_ofThing, up2_at, (eq_true q_3), w_0, w_1, w_2, w_3, w_4, w_5, (eq_true c_100), M_taxOf, up2]
        exact v_lret X hr (xdec_at tX5_ofThing_1 6 rfl) (Nat.le_of_ble_eq_true rfl) (Nat.le_of_ble_eq_true rfl) ⟨rfl, by rw [e9], by rw [e9]⟩
      · refine v_lconst (v := 1) X (xdec_at tX5_ofThing_1 3 rfl) (by decide) ?_
        refine v_goto (tgt := 108) X (xdec_at tX5_ofThing_1 4 rfl) (by decide) ?_
        have e9 : M_ofThing μ t w = (1, ((up2 μ.1 38 0 0), μ.2)) := by simp [M_ofThing, up2_at, (eq_true q_3), w_0, w_1, w_2, w_3, w_4, w_5, c_100, M_taxOf, up2]
        exact v_lret X hr (xdec_at tX5_ofThing_1 6 rfl) (Nat.le_of_ble_eq_true rfl) (Nat.le_of_ble_eq_true rfl) ⟨rfl, by rw [e9], by rw [e9]⟩
    by_cases w_6 : w = 6
    · refine v_tableIn (tgt := 109) X (xdec_at tX5_ofThing_0 9 rfl) (by rw [w_6]; decide) (by rw [w_6]; decide) (by rw [w_6]; rfl) (by decide) ?_
      refine v_aload_n X (xdec_at tX5_ofThing_1 7 rfl) rfl rfl ?_
      refine r_A X 35 (by decide) rfl rfl (xdec_at tX5_ofThing_1 8 rfl) ?_
      refine v_iload_n X (xdec_at tX5_ofThing_1 9 rfl) rfl rfl ?_
      refine r_I (v := (μ.1 35 (ix t))) X 35 (by decide) rfl rfl (hI.T (by assumption)) (xdec_at tX5_ofThing_1 10 rfl) rfl ?_
      refine v_i2l X (xdec_at tX5_ofThing_1 11 rfl) rfl ?_
      have e9 : M_ofThing μ t w = (((μ.1 35 (ix t))).toInt64, ((up2 μ.1 38 0 0), μ.2)) := by simp [M_ofThing, up2_at, (eq_true q_3), w_0, w_1, w_2, w_3, w_4, w_5, w_6, M_taxOf, up2]
      exact v_lret X hr (xdec_at tX5_ofThing_1 12 rfl) (Nat.le_of_ble_eq_true rfl) (Nat.le_of_ble_eq_true rfl) ⟨rfl, by rw [e9], by rw [e9]⟩
    refine v_tableOut (tgt := 117) X (xdec_at tX5_ofThing_0 9 rfl) (by have h8 := tab_out_le (x := w) (k := 6) (by decide) (fun i h9 => match i, h9 with | 0, _ => w_0 | 1, _ => w_1 | 2, _ => w_2 | 3, _ => w_3 | 4, _ => w_4 | 5, _ => w_5 | 6, _ => w_6 | i + 7, h9 => absurd h9 (by omega)); simpa using h8) (by decide) ?_
    refine v_aload_n X (xdec_at tX5_ofThing_1 13 rfl) rfl rfl ?_
    refine v_iconst (v := 2) X (xdec_at tX5_ofThing_1 14 rfl) (by decide) ?_
    refine v_callV X myX5_fails [.int 2] [] (c_fails l Z B0 lay ((up2 μ.1 38 0 0), μ.2) r 2) (xw_at tW_18 11 rfl) (100, 0) cM_0 rfl rfl rfl rfl (by rfl) (Nat.le_of_ble_eq_true rfl) (xdec_at tX5_ofThing_1 15 rfl) ⟨(Nat.le_of_ble_eq_true rfl), (Nat.le_of_ble_eq_true rfl)⟩ ⟨(Nat.le_of_ble_eq_true rfl), (Nat.le_of_ble_eq_true rfl)⟩ ?_
    rintro v9 lay9 C9 ⟨rfl, rfl, rfl⟩
    refine v_i2l (v := 0) X (xdec_at tX5_ofThing_1 16 rfl) (by decide) ?_
    have e9 : M_ofThing μ t w = (0, ((up2 (up2 μ.1 38 0 0) 38 0 2), μ.2)) := by simp [M_ofThing, up2_at, (eq_true q_3), w_0, w_1, w_2, w_3, w_4, w_5, w_6, M_taxOf, up2]
    exact v_lret X hr (xdec_at tX5_ofThing_1 17 rfl) (Nat.le_of_ble_eq_true rfl) (Nat.le_of_ble_eq_true rfl) ⟨rfl, by rw [e9], by rw [e9]⟩
  · refine v_callV X myX5_asks [.int 0] [] (c_asks0 l Z B0 lay μ r) (xw_at tW_17 31 rfl) (100, 0) cM_0 rfl rfl rfl rfl (by rfl) (Nat.le_of_ble_eq_true rfl) (xdec_at tX5_ofThing_0 4 rfl) ⟨(Nat.le_of_ble_eq_true rfl), (Nat.le_of_ble_eq_true rfl)⟩ ⟨(Nat.le_of_ble_eq_true rfl), (Nat.le_of_ble_eq_true rfl)⟩ ?_
    rintro v9 lay9 C9 ⟨rfl, rfl, rfl⟩
    refine v_if_ne (tgt := 14) X (xdec_at tX5_ofThing_0 5 rfl) (by decide) (fun h9 => absurd h9 (by decide)) (fun _ => ?_)
    refine v_lconst (v := 0) X (xdec_at tX5_ofThing_0 6 rfl) (by decide) ?_
    have e9 : M_ofThing μ t w = (0, ((up2 μ.1 38 0 1), μ.2)) := by simp [M_ofThing, up2_at, q_3, M_taxOf, up2]
    exact v_lret X hr (xdec_at tX5_ofThing_0 7 rfl) (Nat.le_of_ble_eq_true rfl) (Nat.le_of_ble_eq_true rfl) ⟨rfl, by rw [e9], by rw [e9]⟩
