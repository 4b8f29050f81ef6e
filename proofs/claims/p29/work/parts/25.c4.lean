set_option maxRecDepth 100000 in
set_option maxHeartbeats 4000000 in
theorem kyX4_counted (l : Launch) (hl0 : l.stackTraces = false) (Z : xZ) (B0 : Nat) (lay : xK → Nat) (μ : Mu) (tb : Tb) (r : xK → Option xE)  (hI : RI μ) (a b : Int32) : YX l yX4_counted cX4_counted 5 ((some FieldType.long)) 7 111 2 12 Z B0 [.ref (lay (0, 0)), .int a, .int b] lay (cX Z lay μ tb r) (fun v lay' C' => lay = lay' ∧ v = some (.long (M_counted μ a b).1) ∧ (M_counted μ a b).2.1 38 0 = 0 ∧ C' = cX Z lay (M_counted μ a b).2 tb r) (fun E => (E = eO ∧ (M_counted μ a b).2.1 38 0 = 1)) := by
  refine YX_of myX4_counted.2.2 RX4 rfl [some (.ref (lay (0, 0))), some (.int a), some (.int b), none, none] rfl (Nat.le_of_ble_eq_true rfl) ?_
  intro P1 P2 P3 P4 P5 P6 P7 P8 X hr hE
  refine v_aload_n X (xdec_at tX4_counted_0 0 rfl) rfl rfl ?_
  refine v_iload_n X (xdec_at tX4_counted_0 1 rfl) rfl rfl ?_
  refine v_xV X hE myX4_postOf [.int a] [] (kyX4_postOf l hl0 Z B0 lay μ tb r hI a) (xw_at tW_2 39 rfl) (0, 0) cX_X rfl rfl rfl rfl (by rfl) (Nat.le_of_ble_eq_true rfl) (xdec_at tX4_counted_0 2 rfl) ⟨(Nat.le_of_ble_eq_true rfl), (Nat.le_of_ble_eq_true rfl)⟩ ⟨(Nat.le_of_ble_eq_true rfl), (Nat.le_of_ble_eq_true rfl)⟩ ⟨(Nat.le_of_ble_eq_true rfl), (Nat.le_of_ble_eq_true rfl)⟩ (fun E h9 => (⟨h9.1, by simp [M_counted, up2_at, h9.2]⟩)) ?_
  rintro v9 lay9 C9 ⟨rfl, rfl, rfl, q_2⟩
  refine v_astore_n (lv' := [some (.ref (lay (0, 0))), some (.int a), some (.int b), some (.ref (lay (10, ix a))), none]) X (xdec_at tX4_counted_0 3 rfl) rfl (by decide) rfl ?_
  refine v_aload_n X (xdec_at tX4_counted_0 4 rfl) rfl rfl ?_
  refine v_iload_n X (xdec_at tX4_counted_0 5 rfl) rfl rfl ?_
  refine v_xV X hE myX4_postOf [.int b] [] (kyX4_postOf l hl0 Z B0 lay μ tb r hI b) (xw_at tW_2 39 rfl) (0, 0) cX_X rfl rfl rfl rfl (by rfl) (Nat.le_of_ble_eq_true rfl) (xdec_at tX4_counted_0 6 rfl) ⟨(Nat.le_of_ble_eq_true rfl), (Nat.le_of_ble_eq_true rfl)⟩ ⟨(Nat.le_of_ble_eq_true rfl), (Nat.le_of_ble_eq_true rfl)⟩ ⟨(Nat.le_of_ble_eq_true rfl), (Nat.le_of_ble_eq_true rfl)⟩ (fun E h9 => (⟨h9.1, by simp [M_counted, (eq_true q_2), up2_at, h9.2]⟩)) ?_
  rintro v9 lay9 C9 ⟨rfl, rfl, rfl, q_8⟩
  refine v_astore (lv' := [some (.ref (lay (0, 0))), some (.int a), some (.int b), some (.ref (lay (10, ix a))), some (.ref (lay (10, ix b)))]) X (xdec_at tX4_counted_0 7 rfl) (by decide) rfl ?_
  refine v_aload_n X (xdec_at tX4_counted_0 8 rfl) rfl rfl ?_
  refine x_get (v := .ref (lay (14, ix a))) X hinX1 (10, ix a) (cX_P (μ := μ) (isP_lt hI q_2).1) rfl 4 (by decide) (xw_at tW_7 15 rfl) rfl rfl rfl (xdec_at tX4_counted_0 9 rfl) ?_
  refine v_aload X (xdec_at tX4_counted_0 10 rfl) rfl ?_
  refine x_get (v := .int b) X hinX1 (10, ix b) (cX_P (μ := μ) (isP_lt hI q_8).1) rfl 0 (by decide) (xw_at tW_7 6 rfl) rfl rfl (congrArg Value.int (in_eq (hI.P q_8) (by decide))) (xdec_at tX4_counted_0 11 rfl) ?_
  refine x_lald (v := (μ.2 9 (8 * ix a + ix b))) X (14, ix a) (cX_c (μ := μ) (isP_lt hI q_2).1) (hI.P q_8) rfl (row8_at (in_ix (hI.P q_8))) (xdec_at tX4_counted_0 12 rfl) ?_
  have e9 : M_counted μ a b = ((μ.2 9 (8 * ix a + ix b)), ((up2 μ.1 38 0 0), μ.2)) := by simp [M_counted, (eq_true q_2), (eq_true q_8), i8k hI q_2 q_8]
  exact v_x (v_lret X hr (xdec_at tX4_counted_0 13 rfl) (Nat.le_of_ble_eq_true rfl) (Nat.le_of_ble_eq_true rfl) ⟨rfl, by rw [e9], by rw [e9]; simp [up2_at], cX_eq (fun j hj => by rw [e9]; funext b; simp [up2, (com38 hj).1]) (by rw [e9])⟩)
set_option maxRecDepth 100000 in
set_option maxHeartbeats 4000000 in
theorem kyX4_rate (l : Launch) (hl0 : l.stackTraces = false) (Z : xZ) (B0 : Nat) (lay : xK → Nat) (μ : Mu) (tb : Tb) (r : xK → Option xE)  (hI : RI μ) (k p g b : Int32) : YX l yX4_rate cX4_rate 6 ((some FieldType.int)) 8 133 3 18 Z B0 [.ref (lay (0, 0)), .int k, .int p, .int g, .int b] lay (cX Z lay μ tb r) (fun v lay' C' => lay = lay' ∧ v = some (.int (M_rate μ k p g b).1) ∧ (M_rate μ k p g b).2.1 38 0 = 0 ∧ C' = cX Z lay (M_rate μ k p g b).2 tb r) (fun E => (E = eO ∧ (M_rate μ k p g b).2.1 38 0 = 1) ∨ (E = eA ∧ (M_rate μ k p g b).2.1 38 0 = 2)) := by
  refine YX_of myX4_rate.2.2 RX4 rfl [some (.ref (lay (0, 0))), some (.int k), some (.int p), some (.int g), some (.int b), none] rfl (Nat.le_of_ble_eq_true rfl) ?_
  intro P1 P2 P3 P4 P5 P6 P7 P8 X hr hE
  refine v_aload_n X (xdec_at tX4_rate_0 0 rfl) rfl rfl ?_
  refine v_iload_n X (xdec_at tX4_rate_0 1 rfl) rfl rfl ?_
  refine v_xV X hE myX4_postOf [.int p] [] (kyX4_postOf l hl0 Z B0 lay μ tb r hI p) (xw_at tW_2 39 rfl) (0, 0) cX_X rfl rfl rfl rfl (by rfl) (Nat.le_of_ble_eq_true rfl) (xdec_at tX4_rate_0 2 rfl) ⟨(Nat.le_of_ble_eq_true rfl), (Nat.le_of_ble_eq_true rfl)⟩ ⟨(Nat.le_of_ble_eq_true rfl), (Nat.le_of_ble_eq_true rfl)⟩ ⟨(Nat.le_of_ble_eq_true rfl), (Nat.le_of_ble_eq_true rfl)⟩ (fun E h9 => Or.inl (⟨h9.1, by simp [M_rate, up2_at, h9.2]⟩)) ?_
  rintro v9 lay9 C9 ⟨rfl, rfl, rfl, q_2⟩
  refine v_astore (lv' := [some (.ref (lay (0, 0))), some (.int k), some (.int p), some (.int g), some (.int b), some (.ref (lay (10, ix p)))]) X (xdec_at tX4_rate_0 3 rfl) (by decide) rfl ?_
  refine v_iload_n X (xdec_at tX4_rate_0 4 rfl) rfl rfl ?_
  refine v_xS X hE myX4_demandKind [.int k] [] (kyX4_demandKind l hl0 Z B0 lay (cX Z lay μ tb r) k) (xw_at tW_5 2 rfl) rfl rfl (by rfl) (Nat.le_of_ble_eq_true rfl) (xdec_at tX4_rate_0 5 rfl) ⟨(Nat.le_of_ble_eq_true rfl), (Nat.le_of_ble_eq_true rfl)⟩ ⟨(Nat.le_of_ble_eq_true rfl), (Nat.le_of_ble_eq_true rfl)⟩ ⟨(Nat.le_of_ble_eq_true rfl), (Nat.le_of_ble_eq_true rfl)⟩ (fun E h9 => Or.inr ((⟨h9.1, by simp [M_rate, (eq_true q_2), up2_at, h9.2]⟩))) ?_
  rintro v9 lay9 C9 ⟨rfl, rfl, rfl, q_8⟩
  refine v_iload_n X (xdec_at tX4_rate_0 6 rfl) rfl rfl ?_
  refine v_iload_n X (xdec_at tX4_rate_0 7 rfl) rfl rfl ?_
  refine v_xS X hE myX4_demandGrams [.int k, .int g] [] (kyX4_demandGrams l hl0 Z B0 lay (cX Z lay μ tb r) k g) (xw_at tW_5 21 rfl) rfl rfl (by rfl) (Nat.le_of_ble_eq_true rfl) (xdec_at tX4_rate_0 8 rfl) ⟨(Nat.le_of_ble_eq_true rfl), (Nat.le_of_ble_eq_true rfl)⟩ ⟨(Nat.le_of_ble_eq_true rfl), (Nat.le_of_ble_eq_true rfl)⟩ ⟨(Nat.le_of_ble_eq_true rfl), (Nat.le_of_ble_eq_true rfl)⟩ (fun E h9 => Or.inr ((⟨h9.1, by simp [M_rate, (eq_true q_2), (eq_true q_8), up2_at, h9.2]⟩))) ?_
  rintro v9 lay9 C9 ⟨rfl, rfl, rfl, q_13⟩
  refine v_aload X (xdec_at tX4_rate_0 9 rfl) rfl ?_
  refine v_iload_n X (xdec_at tX4_rate_0 10 rfl) rfl rfl ?_
  refine v_iload_n X (xdec_at tX4_rate_0 11 rfl) rfl rfl ?_
  refine v_iload X (xdec_at tX4_rate_0 12 rfl) rfl ?_
  refine v_callV X myX1_rateOf [.int k, .int g, .int b] [] (kyX1_rateOf l Z B0 lay μ tb r (ix p) (isP_lt hI q_2).1 k g b (isK_in q_8)) (xw_at tW_5 24 rfl) (10, ix p) (cX_P (μ := μ) (isP_lt hI q_2).1) rfl rfl rfl rfl (by rfl) (Nat.le_of_ble_eq_true rfl) (xdec_at tX4_rate_0 13 rfl) ⟨(Nat.le_of_ble_eq_true rfl), (Nat.le_of_ble_eq_true rfl)⟩ ⟨(Nat.le_of_ble_eq_true rfl), (Nat.le_of_ble_eq_true rfl)⟩ ?_
  rintro v9 lay9 C9 ⟨rfl, rfl, rfl⟩
  rw [rate_eq hI q_2 q_8 q_13]
  have e9 : M_rate μ k p g b = ((M_rateOf μ k p g b), ((up2 μ.1 38 0 0), μ.2)) := by simp [M_rate, (eq_true q_2), (eq_true q_8), (eq_true q_13)]
  exact v_x (v_iret X hr (xdec_at tX4_rate_0 14 rfl) (Nat.le_of_ble_eq_true rfl) (Nat.le_of_ble_eq_true rfl) ⟨rfl, by rw [e9], by rw [e9]; simp [up2_at], cX_eq (fun j hj => by rw [e9]; funext b; simp [up2, (com38 hj).1]) (by rw [e9])⟩)
set_option maxRecDepth 100000 in
set_option maxHeartbeats 4000000 in
theorem kyX4_refuse (l : Launch) (hl0 : l.stackTraces = false) (Z : xZ) (B0 : Nat) (lay : xK → Nat) (μ : Mu) (tb : Tb) (r : xK → Option xE)  (hI : RI μ) (t c : Int32) (hc : c = 0 ∨ c = 1) : YX l yX4_refuse cX4_refuse 5 ((some FieldType.boolean)) 7 111 2 12 Z B0 [.ref (lay (0, 0)), .int t, .int c] lay (cX Z lay μ tb r) (fun v lay' C' => lay = lay' ∧ v = some (.int (M_refuse μ t c).1) ∧ (M_refuse μ t c).2.1 38 0 = 0 ∧ C' = cX Z lay (M_refuse μ t c).2 tb r) (fun E => (E = eO ∧ (M_refuse μ t c).2.1 38 0 = 1) ∨ (E = eS ∧ (M_refuse μ t c).2.1 38 0 = 2)) := by
  refine YX_of myX4_refuse.2.2 RX4 rfl [some (.ref (lay (0, 0))), some (.int t), some (.int c), none, none] rfl (Nat.le_of_ble_eq_true rfl) ?_
  intro P1 P2 P3 P4 P5 P6 P7 P8 X hr hE
  refine v_aload_n X (xdec_at tX4_refuse_0 0 rfl) rfl rfl ?_
  refine v_iload_n X (xdec_at tX4_refuse_0 1 rfl) rfl rfl ?_
  refine v_xV X hE myX4_thingOf [.int t] [] (kyX4_thingOf l hl0 Z B0 lay μ tb r hI t) (xw_at tW_5 34 rfl) (0, 0) cX_X rfl rfl rfl rfl (by rfl) (Nat.le_of_ble_eq_true rfl) (xdec_at tX4_refuse_0 2 rfl) ⟨(Nat.le_of_ble_eq_true rfl), (Nat.le_of_ble_eq_true rfl)⟩ ⟨(Nat.le_of_ble_eq_true rfl), (Nat.le_of_ble_eq_true rfl)⟩ ⟨(Nat.le_of_ble_eq_true rfl), (Nat.le_of_ble_eq_true rfl)⟩ (fun E h9 => Or.inl (⟨h9.1, by simp [M_refuse, up2_at, h9.2]⟩)) ?_
  rintro v9 lay9 C9 ⟨rfl, rfl, rfl, q_2⟩
  refine v_astore_n (lv' := [some (.ref (lay (0, 0))), some (.int t), some (.int c), some (.ref (lay (30, ix t))), none]) X (xdec_at tX4_refuse_0 3 rfl) rfl (by decide) rfl ?_
  refine v_aload_n X (xdec_at tX4_refuse_0 4 rfl) rfl rfl ?_
  refine v_xS X hE myX4_demandChangeable [.ref (lay (30, ix t))] [] (kyX4_demandChangeable l hl0 Z B0 lay μ tb r (ix t) (isT_lt hI q_2).1) (xw_at tW_9 32 rfl) rfl rfl (by rfl) (Nat.le_of_ble_eq_true rfl) (xdec_at tX4_refuse_0 5 rfl) ⟨(Nat.le_of_ble_eq_true rfl), (Nat.le_of_ble_eq_true rfl)⟩ ⟨(Nat.le_of_ble_eq_true rfl), (Nat.le_of_ble_eq_true rfl)⟩ ⟨(Nat.le_of_ble_eq_true rfl), (Nat.le_of_ble_eq_true rfl)⟩ (fun E h9 => Or.inr ((⟨h9.1, by have h8 := eq_true (nn_or h9.2); simp only [M_refuse, h8, (eq_true q_2), if_true]; simp [up2_at]⟩))) ?_
  rintro v9 lay9 C9 ⟨rfl, rfl, rfl, q_7⟩
  refine v_aload_n X (xdec_at tX4_refuse_0 6 rfl) rfl rfl ?_
  refine x_get (v := .int (μ.1 28 (ix t))) X hinX3 (30, ix t) (cX_T (μ := μ) (isT_lt hI q_2).1) rfl 10 (by decide) (xw_at tW_13 2 rfl) rfl rfl rfl (xdec_at tX4_refuse_0 7 rfl) ?_
  refine v_istore (lv' := [some (.ref (lay (0, 0))), some (.int t), some (.int c), some (.ref (lay (30, ix t))), some (.int (μ.1 28 (ix t)))]) X (xdec_at tX4_refuse_0 8 rfl) (by decide) rfl ?_
  refine v_aload_n X (xdec_at tX4_refuse_0 9 rfl) rfl rfl ?_
  refine v_iload_n X (xdec_at tX4_refuse_0 10 rfl) rfl rfl ?_
  refine x_put (C' := (cX Z lay ((up2 μ.1 28 (ix t) c), μ.2) tb r)) X hinX3 tyX3 tyX3_ok nmX3 (30, ix t) (cX_T (μ := μ) (isT_lt hI q_2).1) rfl 10 (by decide) (xw_at tW_13 2 rfl) rfl rfl (nb01 hc) (by rcases hc with h9 | h9 <;> rw [h9] <;> rfl) rfl (cw_T10 (μ := μ) (h := (isT_lt hI q_2).1)) (xdec_at tX4_refuse_0 11 rfl) ?_
  refine v_iload X (xdec_at tX4_refuse_0 12 rfl) rfl ?_
  have e9 : M_refuse μ t c = ((μ.1 28 (ix t)), ((up2 (up2 μ.1 38 0 0) 28 (ix t) c), μ.2)) := by simp [M_refuse, (eq_true q_2), (eq_true q_7.1), (eq_true q_7.2)]
  exact v_x (v_zret X hr (xdec_at tX4_refuse_0 13 rfl) (Nat.le_of_ble_eq_true rfl) (Nat.le_of_ble_eq_true rfl) (hI.B (by decide)) ⟨rfl, by rw [e9], by rw [e9]; simp [up2_at], cX_eq (fun j hj => by rw [e9]; funext b; simp [up2, (com38 hj).1]) (by rw [e9])⟩)
set_option maxRecDepth 100000 in
set_option maxHeartbeats 4000000 in
theorem kyX4_redirect (l : Launch) (hl0 : l.stackTraces = false) (Z : xZ) (B0 : Nat) (lay : xK → Nat) (μ : Mu) (tb : Tb) (r : xK → Option xE)  (hI : RI μ) (t b : Int32) (hK : KI μ) : YX l yX4_redirect cX4_redirect 6 ((some FieldType.int)) 7 111 3 18 Z B0 [.ref (lay (0, 0)), .int t, .int b] lay (cX Z lay μ tb r) (fun v lay' C' => lay = lay' ∧ v = some (.int (M_redirect μ t b).1) ∧ (M_redirect μ t b).2.1 38 0 = 0 ∧ C' = cX Z lay (M_redirect μ t b).2 tb r) (fun E => (E = eO ∧ (M_redirect μ t b).2.1 38 0 = 1) ∨ (E = eA ∧ (M_redirect μ t b).2.1 38 0 = 2) ∨ (E = eS ∧ (M_redirect μ t b).2.1 38 0 = 3)) := by
  refine YX_of myX4_redirect.2.2 RX4 rfl [some (.ref (lay (0, 0))), some (.int t), some (.int b), none, none, none] rfl (Nat.le_of_ble_eq_true rfl) ?_
  intro P1 P2 P3 P4 P5 P6 P7 P8 X hr hE
  refine v_inj fun hinj => ?_
  refine v_aload_n X (xdec_at tX4_redirect_0 0 rfl) rfl rfl ?_
  refine v_iload_n X (xdec_at tX4_redirect_0 1 rfl) rfl rfl ?_
  refine v_xV X hE myX4_thingOf [.int t] [] (kyX4_thingOf l hl0 Z B0 lay μ tb r hI t) (xw_at tW_5 34 rfl) (0, 0) cX_X rfl rfl rfl rfl (by rfl) (Nat.le_of_ble_eq_true rfl) (xdec_at tX4_redirect_0 2 rfl) ⟨(Nat.le_of_ble_eq_true rfl), (Nat.le_of_ble_eq_true rfl)⟩ ⟨(Nat.le_of_ble_eq_true rfl), (Nat.le_of_ble_eq_true rfl)⟩ ⟨(Nat.le_of_ble_eq_true rfl), (Nat.le_of_ble_eq_true rfl)⟩ (fun E h9 => Or.inl (⟨h9.1, by simp [M_redirect, up2_at, h9.2]⟩)) ?_
  rintro v9 lay9 C9 ⟨rfl, rfl, rfl, q_2⟩
  refine v_astore_n (lv' := [some (.ref (lay (0, 0))), some (.int t), some (.int b), some (.ref (lay (30, ix t))), none, none]) X (xdec_at tX4_redirect_0 3 rfl) rfl (by decide) rfl ?_
  refine v_aload_n X (xdec_at tX4_redirect_0 4 rfl) rfl rfl ?_
  refine v_iload_n X (xdec_at tX4_redirect_0 5 rfl) rfl rfl ?_
  refine v_xV X hE myX4_postOf [.int b] [] (kyX4_postOf l hl0 Z B0 lay μ tb r hI b) (xw_at tW_2 39 rfl) (0, 0) cX_X rfl rfl rfl rfl (by rfl) (Nat.le_of_ble_eq_true rfl) (xdec_at tX4_redirect_0 6 rfl) ⟨(Nat.le_of_ble_eq_true rfl), (Nat.le_of_ble_eq_true rfl)⟩ ⟨(Nat.le_of_ble_eq_true rfl), (Nat.le_of_ble_eq_true rfl)⟩ ⟨(Nat.le_of_ble_eq_true rfl), (Nat.le_of_ble_eq_true rfl)⟩ (fun E h9 => Or.inl (⟨h9.1, by simp [M_redirect, (eq_true q_2), up2_at, h9.2]⟩)) ?_
  rintro v9 lay9 C9 ⟨rfl, rfl, rfl, q_8⟩
  refine v_astore (lv' := [some (.ref (lay (0, 0))), some (.int t), some (.int b), some (.ref (lay (30, ix t))), some (.ref (lay (10, ix b))), none]) X (xdec_at tX4_redirect_0 7 rfl) (by decide) rfl ?_
  refine v_aload_n X (xdec_at tX4_redirect_0 8 rfl) rfl rfl ?_
  refine x_get (v := .int (μ.1 23 (ix t))) X hinX3 (30, ix t) (cX_T (μ := μ) (isT_lt hI q_2).1) rfl 8 (by decide) (xw_at tW_12 38 rfl) rfl rfl rfl (xdec_at tX4_redirect_0 9 rfl) ?_
  refine v_if_ne (tgt := 39) X (xdec_at tX4_redirect_0 10 rfl) (by decide) (fun c_17 => ?_) (fun c_17 => ?_)
  · refine v_aload_n X (xdec_at tX4_redirect_0 20 rfl) rfl rfl ?_
    refine v_xS X hE myX4_demandChangeable [.ref (lay (30, ix t))] [] (kyX4_demandChangeable l hl0 Z B0 lay μ tb r (ix t) (isT_lt hI q_2).1) (xw_at tW_9 32 rfl) rfl rfl (by rfl) (Nat.le_of_ble_eq_true rfl) (xdec_at tX4_redirect_0 21 rfl) ⟨(Nat.le_of_ble_eq_true rfl), (Nat.le_of_ble_eq_true rfl)⟩ ⟨(Nat.le_of_ble_eq_true rfl), (Nat.le_of_ble_eq_true rfl)⟩ ⟨(Nat.le_of_ble_eq_true rfl), (Nat.le_of_ble_eq_true rfl)⟩ (fun E h9 => Or.inr (Or.inr ((⟨h9.1, by have h8 := eq_true (nn_or h9.2); simp only [M_redirect, h8, (eq_true q_2), (eq_true q_8), c_17, if_true]; simp [up2_at]⟩)))) ?_
    rintro v9 lay9 C9 ⟨rfl, rfl, rfl, q_40⟩
    refine v_aload_n X (xdec_at tX4_redirect_0 22 rfl) rfl rfl ?_
    refine x_get (v := .ref (lay (10, ix (μ.1 19 (ix t))))) X hinX3 (30, ix t) (cX_T (μ := μ) (isT_lt hI q_2).1) rfl 5 (by decide) (xw_at tW_12 32 rfl) rfl rfl rfl (xdec_at tX4_redirect_0 23 rfl) ?_
    refine x_get (v := .int (μ.1 19 (ix t))) X hinX1 (10, ix (μ.1 19 (ix t))) (cX_P (μ := μ) (hK.ta (isT_lt hI q_2).1)) rfl 0 (by decide) (xw_at tW_7 6 rfl) rfl rfl (congrArg Value.int (in_eq (hI.ta (in_ix (hI.T q_2))) (by decide))) (xdec_at tX4_redirect_0 24 rfl) ?_
    refine v_istore (lv' := [some (.ref (lay (0, 0))), some (.int t), some (.int b), some (.ref (lay (30, ix t))), some (.ref (lay (10, ix b))), some (.int (μ.1 19 (ix t)))]) X (xdec_at tX4_redirect_0 25 rfl) (by decide) rfl ?_
    refine v_aload_n X (xdec_at tX4_redirect_0 26 rfl) rfl rfl ?_
    refine v_aload X (xdec_at tX4_redirect_0 27 rfl) rfl ?_
    refine x_put (C' := (cX Z lay ((up2 μ.1 19 (ix t) b), μ.2) tb r)) X hinX3 tyX3 tyX3_ok nmX3 (30, ix t) (cX_T (μ := μ) (isT_lt hI q_2).1) rfl 5 (by decide) (xw_at tW_12 32 rfl) rfl rfl rfl rfl rfl (cw_T5 (μ := μ) (h := (isT_lt hI q_2).1) (v := b)) (xdec_at tX4_redirect_0 28 rfl) ?_
    refine v_iload X (xdec_at tX4_redirect_0 29 rfl) rfl ?_
    have e9 : M_redirect μ t b = ((μ.1 19 (ix t)), ((up2 (up2 μ.1 38 0 0) 19 (ix t) b), μ.2)) := by simp [M_redirect, (eq_true q_2), (eq_true q_8), c_17, (eq_true q_40.1), (eq_true q_40.2)]
    exact v_x (v_iret X hr (xdec_at tX4_redirect_0 30 rfl) (Nat.le_of_ble_eq_true rfl) (Nat.le_of_ble_eq_true rfl) ⟨rfl, by rw [e9], by rw [e9]; simp [up2_at], cX_eq (fun j hj => by rw [e9]; funext b; simp [up2, (com38 hj).1]) (by rw [e9])⟩)
  · refine v_aload_n X (xdec_at tX4_redirect_0 11 rfl) rfl rfl ?_
    refine x_get (v := .ref (lay (10, ix (μ.1 24 (ix t))))) X hinX3 (30, ix t) (cX_T (μ := μ) (isT_lt hI q_2).1) rfl 6 (by decide) (xw_at tW_12 34 rfl) rfl rfl rfl (xdec_at tX4_redirect_0 12 rfl) ?_
    refine v_aload X (xdec_at tX4_redirect_0 13 rfl) rfl ?_
    refine v_acmpR_ne (tgt := 39) X (xdec_at tX4_redirect_0 14 rfl) (by decide) (fun c_26 => ?_) (fun c_26 => ?_)
    · have h26 : ¬ (μ.1 24 (ix t)) = b := fun z => c_26 (by rw [z])
      refine v_aload_n X (xdec_at tX4_redirect_0 20 rfl) rfl rfl ?_
      refine v_xS X hE myX4_demandChangeable [.ref (lay (30, ix t))] [] (kyX4_demandChangeable l hl0 Z B0 lay μ tb r (ix t) (isT_lt hI q_2).1) (xw_at tW_9 32 rfl) rfl rfl (by rfl) (Nat.le_of_ble_eq_true rfl) (xdec_at tX4_redirect_0 21 rfl) ⟨(Nat.le_of_ble_eq_true rfl), (Nat.le_of_ble_eq_true rfl)⟩ ⟨(Nat.le_of_ble_eq_true rfl), (Nat.le_of_ble_eq_true rfl)⟩ ⟨(Nat.le_of_ble_eq_true rfl), (Nat.le_of_ble_eq_true rfl)⟩ (fun E h9 => Or.inr (Or.inr ((⟨h9.1, by have h8 := eq_true (nn_or h9.2); simp only [M_redirect, h8, (eq_true q_2), (eq_true q_8), (eq_true c_17), h26, if_true]; simp [up2_at]⟩)))) ?_
      rintro v9 lay9 C9 ⟨rfl, rfl, rfl, q_40⟩
      refine v_aload_n X (xdec_at tX4_redirect_0 22 rfl) rfl rfl ?_
      refine x_get (v := .ref (lay (10, ix (μ.1 19 (ix t))))) X hinX3 (30, ix t) (cX_T (μ := μ) (isT_lt hI q_2).1) rfl 5 (by decide) (xw_at tW_12 32 rfl) rfl rfl rfl (xdec_at tX4_redirect_0 23 rfl) ?_
      refine x_get (v := .int (μ.1 19 (ix t))) X hinX1 (10, ix (μ.1 19 (ix t))) (cX_P (μ := μ) (hK.ta (isT_lt hI q_2).1)) rfl 0 (by decide) (xw_at tW_7 6 rfl) rfl rfl (congrArg Value.int (in_eq (hI.ta (in_ix (hI.T q_2))) (by decide))) (xdec_at tX4_redirect_0 24 rfl) ?_
      refine v_istore (lv' := [some (.ref (lay (0, 0))), some (.int t), some (.int b), some (.ref (lay (30, ix t))), some (.ref (lay (10, ix b))), some (.int (μ.1 19 (ix t)))]) X (xdec_at tX4_redirect_0 25 rfl) (by decide) rfl ?_
      refine v_aload_n X (xdec_at tX4_redirect_0 26 rfl) rfl rfl ?_
      refine v_aload X (xdec_at tX4_redirect_0 27 rfl) rfl ?_
      refine x_put (C' := (cX Z lay ((up2 μ.1 19 (ix t) b), μ.2) tb r)) X hinX3 tyX3 tyX3_ok nmX3 (30, ix t) (cX_T (μ := μ) (isT_lt hI q_2).1) rfl 5 (by decide) (xw_at tW_12 32 rfl) rfl rfl rfl rfl rfl (cw_T5 (μ := μ) (h := (isT_lt hI q_2).1) (v := b)) (xdec_at tX4_redirect_0 28 rfl) ?_
      refine v_iload X (xdec_at tX4_redirect_0 29 rfl) rfl ?_
      have e9 : M_redirect μ t b = ((μ.1 19 (ix t)), ((up2 (up2 μ.1 38 0 0) 19 (ix t) b), μ.2)) := by simp [M_redirect, (eq_true q_2), (eq_true q_8), (eq_true c_17), h26, (eq_true q_40.1), (eq_true q_40.2)]
      exact v_x (v_iret X hr (xdec_at tX4_redirect_0 30 rfl) (Nat.le_of_ble_eq_true rfl) (Nat.le_of_ble_eq_true rfl) ⟨rfl, by rw [e9], by rw [e9]; simp [up2_at], cX_eq (fun j hj => by rw [e9]; funext b; simp [up2, (com38 hj).1]) (by rw [e9])⟩)
    · have h26 : (μ.1 24 (ix t)) = b := ix_inj (hI.at (in_ix (hI.T q_2))) (hI.P q_8) (by decide) (P_inj hinj (hK.at (isT_lt hI q_2).1) (isP_lt hI q_8).1 (c_26))
      exact v_throw X hE hl0 (text := "the thing waits at that post") xinA xkA xiA (List.mem_of_getElem? (i := 9) rfl) xfA (xdec_at tX4_redirect_0 15 rfl) (xdec_at tX4_redirect_0 16 rfl) (xdec_at tX4_redirect_0 17 rfl) (xdec_at tX4_redirect_0 18 rfl) (xdec_at tX4_redirect_0 19 rfl) ⟨(Nat.le_of_ble_eq_true rfl), (Nat.le_of_ble_eq_true rfl), (Nat.le_of_ble_eq_true rfl), (Nat.le_of_ble_eq_true rfl)⟩ ⟨(Nat.le_of_ble_eq_true rfl), (Nat.le_of_ble_eq_true rfl)⟩ (Or.inr (Or.inl (⟨rfl, by simp [M_redirect, up2_at, (eq_true q_2), (eq_true q_8), (eq_true c_17), (eq_true h26)]⟩)))
set_option maxRecDepth 100000 in
set_option maxHeartbeats 4000000 in
theorem kyX4_lose (l : Launch) (hl0 : l.stackTraces = false) (Z : xZ) (B0 : Nat) (lay : xK → Nat) (μ : Mu) (tb : Tb) (r : xK → Option xE)  (hI : RI μ) (t : Int32) (cl : Nat → Nat → Nat) (hH : HR μ tb cl) : YX l yX4_lose cX4_lose 3 ((some FieldType.int)) 7 111 2 12 Z B0 [.ref (lay (0, 0)), .int t] lay (cX Z lay μ tb r) (fun v lay' C' => lay = lay' ∧ v = some (.int (M_lose μ t).1) ∧ (M_lose μ t).2.1 38 0 = 0 ∧ C' = cX Z lay (M_lose μ t).2 tb r) (fun E => (E = eO ∧ (M_lose μ t).2.1 38 0 = 1) ∨ (E = eS ∧ (M_lose μ t).2.1 38 0 = 2)) := by
  refine YX_of myX4_lose.2.2 RX4 rfl [some (.ref (lay (0, 0))), some (.int t), none] rfl (Nat.le_of_ble_eq_true rfl) ?_
  intro P1 P2 P3 P4 P5 P6 P7 P8 X hr hE
  refine v_aload_n X (xdec_at tX4_lose_0 0 rfl) rfl rfl ?_
  refine v_iload_n X (xdec_at tX4_lose_0 1 rfl) rfl rfl ?_
  refine v_xV X hE myX4_thingOf [.int t] [] (kyX4_thingOf l hl0 Z B0 lay μ tb r hI t) (xw_at tW_5 34 rfl) (0, 0) cX_X rfl rfl rfl rfl (by rfl) (Nat.le_of_ble_eq_true rfl) (xdec_at tX4_lose_0 2 rfl) ⟨(Nat.le_of_ble_eq_true rfl), (Nat.le_of_ble_eq_true rfl)⟩ ⟨(Nat.le_of_ble_eq_true rfl), (Nat.le_of_ble_eq_true rfl)⟩ ⟨(Nat.le_of_ble_eq_true rfl), (Nat.le_of_ble_eq_true rfl)⟩ (fun E h9 => Or.inl (⟨h9.1, by simp [M_lose, up2_at, h9.2]⟩)) ?_
  rintro v9 lay9 C9 ⟨rfl, rfl, rfl, q_2⟩
  refine v_astore_n (lv' := [some (.ref (lay (0, 0))), some (.int t), some (.ref (lay (30, ix t)))]) X (xdec_at tX4_lose_0 3 rfl) rfl (by decide) rfl ?_
  refine v_aload_n X (xdec_at tX4_lose_0 4 rfl) rfl rfl ?_
  refine v_callV X myX3_isUnderWay [] [] (kyX3_isUnderWay l Z B0 lay μ tb r (ix t) (isT_lt hI q_2).1) (xw_at tW_9 35 rfl) (30, ix t) (cX_T (μ := μ) (isT_lt hI q_2).1) rfl rfl rfl rfl (by rfl) (Nat.le_of_ble_eq_true rfl) (xdec_at tX4_lose_0 5 rfl) ⟨(Nat.le_of_ble_eq_true rfl), (Nat.le_of_ble_eq_true rfl)⟩ ⟨(Nat.le_of_ble_eq_true rfl), (Nat.le_of_ble_eq_true rfl)⟩ ?_
  rintro v9 lay9 C9 ⟨rfl, rfl, ⟨rfl, q_7⟩ | ⟨rfl, q_7⟩⟩
  · refine v_if_ne (tgt := 23) X (xdec_at tX4_lose_0 6 rfl) (by decide) (fun _ => ?_) (fun h9 => absurd h9 (by decide))
    refine v_aload_n X (xdec_at tX4_lose_0 12 rfl) rfl rfl ?_
    refine v_iconst (v := 3) X (xdec_at tX4_lose_0 13 rfl) (by decide) ?_
    refine x_put (C' := (cX Z lay ((up2 μ.1 23 (ix t) 3), μ.2) tb r)) X hinX3 tyX3 tyX3_ok nmX3 (30, ix t) (cX_T (μ := μ) (isT_lt hI q_2).1) rfl 8 (by decide) (xw_at tW_12 38 rfl) rfl rfl rfl rfl rfl (cw_T8 (μ := μ) (h := (isT_lt hI q_2).1)) (xdec_at tX4_lose_0 14 rfl) ?_
    refine v_aload_n X (xdec_at tX4_lose_0 15 rfl) rfl rfl ?_
    refine v_iconst (v := 0) X (xdec_at tX4_lose_0 16 rfl) (by decide) ?_
    refine x_put (C' := (cX Z lay ((up2 (up2 μ.1 23 (ix t) 3) 26 (ix t) 0), μ.2) tb r)) X hinX3 tyX3 tyX3_ok nmX3 (30, ix t) (cX_T (μ := ((up2 μ.1 23 (ix t) 3), μ.2)) (isT_lt hI q_2).1) rfl 9 (by decide) (xw_at tW_13 0 rfl) rfl rfl rfl rfl rfl (cw_T9 (μ := ((up2 μ.1 23 (ix t) 3), μ.2)) (h := (isT_lt hI q_2).1)) (xdec_at tX4_lose_0 17 rfl) ?_
    refine v_aload_n X (xdec_at tX4_lose_0 18 rfl) rfl rfl ?_
    refine v_callV X myX3_latestHand [] [] (kyX3_latestHand l Z B0 lay ((up2 (up2 μ.1 23 (ix t) 3) 26 (ix t) 0), μ.2) tb r (ix t) (isT_lt hI q_2).1 (hH.last hI (isT_lt hI q_2).1).1) (xw_at tW_11 20 rfl) (30, ix t) (cX_T (μ := ((up2 (up2 μ.1 23 (ix t) 3) 26 (ix t) 0), μ.2)) (isT_lt hI q_2).1) rfl rfl rfl rfl (by rfl) (Nat.le_of_ble_eq_true rfl) (xdec_at tX4_lose_0 19 rfl) ⟨(Nat.le_of_ble_eq_true rfl), (Nat.le_of_ble_eq_true rfl)⟩ ⟨(Nat.le_of_ble_eq_true rfl), (Nat.le_of_ble_eq_true rfl)⟩ ?_
    rintro v9 lay9 C9 ⟨rfl, rfl, rfl⟩
    refine v_st (st' := [.int (if μ.1 35 (ix t) = 0 then -1 else μ.1 31 (ix (μ.1 34 (ix t))))]) (congrArg (fun q => [Value.int q]) (hH.last hI (isT_lt hI q_2).1).2) ?_
    have e9 : M_lose μ t = ((if μ.1 35 (ix t) = 0 then -1 else μ.1 31 (ix (μ.1 34 (ix t)))), ((up2 (up2 (up2 μ.1 38 0 0) 23 (ix t) 3) 26 (ix t) 0), μ.2)) := by simp [M_lose, (eq_true q_2), (eq_true q_7)]
    exact v_x (v_iret X hr (xdec_at tX4_lose_0 20 rfl) (Nat.le_of_ble_eq_true rfl) (Nat.le_of_ble_eq_true rfl) ⟨rfl, by rw [e9], by rw [e9]; simp [up2_at], cX_eq (fun j hj => by rw [e9]; funext b; simp [up2, (com38 hj).1]) (by rw [e9])⟩)
  · refine v_if_ne (tgt := 23) X (xdec_at tX4_lose_0 6 rfl) (by decide) (fun h9 => absurd h9 (by decide)) (fun _ => ?_)
    exact v_throw X hE hl0 (text := "the thing neither waits nor travels") xinS xkS xiS (List.mem_of_getElem? (i := 11) rfl) xfS (xdec_at tX4_lose_0 7 rfl) (xdec_at tX4_lose_0 8 rfl) (xdec_at tX4_lose_0 9 rfl) (xdec_at tX4_lose_0 10 rfl) (xdec_at tX4_lose_0 11 rfl) ⟨(Nat.le_of_ble_eq_true rfl), (Nat.le_of_ble_eq_true rfl), (Nat.le_of_ble_eq_true rfl), (Nat.le_of_ble_eq_true rfl)⟩ ⟨(Nat.le_of_ble_eq_true rfl), (Nat.le_of_ble_eq_true rfl)⟩ (Or.inr ((⟨rfl, by simp [M_lose, up2_at, (eq_true q_2), q_7]⟩)))
set_option maxRecDepth 100000 in
set_option maxHeartbeats 4000000 in
theorem kyX4_hand (l : Launch) (hl0 : l.stackTraces = false) (Z : xZ) (B0 : Nat) (lay : xK → Nat) (μ : Mu) (tb : Tb) (r : xK → Option xE)  (hI : RI μ) (t n : Int32) (cl : Nat → Nat → Nat) (hH : HR μ tb cl) : YX l yX4_hand cX4_hand 4 ((some FieldType.int)) 7 111 2 12 Z B0 [.ref (lay (0, 0)), .int t, .int n] lay (cX Z lay μ tb r) (fun v lay' C' => lay = lay' ∧ v = some (.int (M_hand μ t n).1) ∧ (M_hand μ t n).2.1 38 0 = 0 ∧ C' = cX Z lay (M_hand μ t n).2 tb r) (fun E => (E = eO ∧ (M_hand μ t n).2.1 38 0 = 1)) := by
  refine YX_of myX4_hand.2.2 RX4 rfl [some (.ref (lay (0, 0))), some (.int t), some (.int n), none] rfl (Nat.le_of_ble_eq_true rfl) ?_
  intro P1 P2 P3 P4 P5 P6 P7 P8 X hr hE
  refine v_aload_n X (xdec_at tX4_hand_0 0 rfl) rfl rfl ?_
  refine v_iload_n X (xdec_at tX4_hand_0 1 rfl) rfl rfl ?_
  refine v_xV X hE myX4_thingOf [.int t] [] (kyX4_thingOf l hl0 Z B0 lay μ tb r hI t) (xw_at tW_5 34 rfl) (0, 0) cX_X rfl rfl rfl rfl (by rfl) (Nat.le_of_ble_eq_true rfl) (xdec_at tX4_hand_0 2 rfl) ⟨(Nat.le_of_ble_eq_true rfl), (Nat.le_of_ble_eq_true rfl)⟩ ⟨(Nat.le_of_ble_eq_true rfl), (Nat.le_of_ble_eq_true rfl)⟩ ⟨(Nat.le_of_ble_eq_true rfl), (Nat.le_of_ble_eq_true rfl)⟩ (fun E h9 => (⟨h9.1, by simp [M_hand, up2_at, h9.2]⟩)) ?_
  rintro v9 lay9 C9 ⟨rfl, rfl, rfl, q_2⟩
  refine v_astore_n (lv' := [some (.ref (lay (0, 0))), some (.int t), some (.int n), some (.ref (lay (30, ix t)))]) X (xdec_at tX4_hand_0 3 rfl) rfl (by decide) rfl ?_
  refine v_iload_n X (xdec_at tX4_hand_0 4 rfl) rfl rfl ?_
  refine v_if_lt (tgt := 18) X (xdec_at tX4_hand_0 5 rfl) (by decide) (fun c_7 => ?_) (fun c_7 => ?_)
  · exact v_throw X hE hl0 (text := "the thing has not so many hands") xinO xkO xiO (List.mem_of_getElem? (i := 14) rfl) xfO (xdec_at tX4_hand_0 10 rfl) (xdec_at tX4_hand_0 11 rfl) (xdec_at tX4_hand_0 12 rfl) (xdec_at tX4_hand_0 13 rfl) (xdec_at tX4_hand_0 14 rfl) ⟨(Nat.le_of_ble_eq_true rfl), (Nat.le_of_ble_eq_true rfl), (Nat.le_of_ble_eq_true rfl), (Nat.le_of_ble_eq_true rfl)⟩ ⟨(Nat.le_of_ble_eq_true rfl), (Nat.le_of_ble_eq_true rfl)⟩ ((⟨rfl, by simp [M_hand, up2_at, (eq_true q_2), c_7]⟩))
  · refine v_iload_n X (xdec_at tX4_hand_0 6 rfl) rfl rfl ?_
    refine v_aload_n X (xdec_at tX4_hand_0 7 rfl) rfl rfl ?_
    refine x_get (v := .int (μ.1 35 (ix t))) X hinX3 (30, ix t) (cX_T (μ := μ) (isT_lt hI q_2).1) rfl 14 (by decide) (xw_at tW_13 10 rfl) rfl rfl rfl (xdec_at tX4_hand_0 8 rfl) ?_
    refine v_icmp_lt (tgt := 28) X (xdec_at tX4_hand_0 9 rfl) (by decide) (fun c_15 => ?_) (fun c_15 => ?_)
    · refine v_aload_n X (xdec_at tX4_hand_0 15 rfl) rfl rfl ?_
      refine x_get (v := .ref (lay (31, ix t))) X hinX3 (30, ix t) (cX_T (μ := μ) (isT_lt hI q_2).1) rfl 13 (by decide) (xw_at tW_13 8 rfl) rfl rfl rfl (xdec_at tX4_hand_0 16 rfl) ?_
      refine v_iload_n X (xdec_at tX4_hand_0 17 rfl) rfl rfl ?_
      refine x_iald (v := (tb.2.1 (ix t) (ix n))) X (31, ix t) (cX_h (μ := μ) (isT_lt hI q_2).1) (hH.hand hI (isT_lt hI q_2).1 c_7 c_15).1 rfl rfl (xdec_at tX4_hand_0 18 rfl) ?_
      have e9 : M_hand μ t n = ((tb.2.1 (ix t) (ix n)), ((up2 μ.1 38 0 0), μ.2)) := by simp [M_hand, (eq_true q_2), c_7, c_15, (hH.hand hI (isT_lt hI q_2).1 c_7 c_15).2]
      exact v_x (v_iret X hr (xdec_at tX4_hand_0 19 rfl) (Nat.le_of_ble_eq_true rfl) (Nat.le_of_ble_eq_true rfl) ⟨rfl, by rw [e9], by rw [e9]; simp [up2_at], cX_eq (fun j hj => by rw [e9]; funext b; simp [up2, (com38 hj).1]) (by rw [e9])⟩)
    · exact v_throw X hE hl0 (text := "the thing has not so many hands") xinO xkO xiO (List.mem_of_getElem? (i := 14) rfl) xfO (xdec_at tX4_hand_0 10 rfl) (xdec_at tX4_hand_0 11 rfl) (xdec_at tX4_hand_0 12 rfl) (xdec_at tX4_hand_0 13 rfl) (xdec_at tX4_hand_0 14 rfl) ⟨(Nat.le_of_ble_eq_true rfl), (Nat.le_of_ble_eq_true rfl), (Nat.le_of_ble_eq_true rfl), (Nat.le_of_ble_eq_true rfl)⟩ ⟨(Nat.le_of_ble_eq_true rfl), (Nat.le_of_ble_eq_true rfl)⟩ ((⟨rfl, by simp [M_hand, up2_at, (eq_true q_2), c_7, c_15]⟩))
set_option maxRecDepth 100000 in
set_option maxHeartbeats 4000000 in
theorem kyX4_ofThing (l : Launch) (hl0 : l.stackTraces = false) (Z : xZ) (B0 : Nat) (lay : xK → Nat) (μ : Mu) (tb : Tb) (r : xK → Option xE)  (hI : RI μ) (t w : Int32) (hK : KI μ) : YX l yX4_ofThing cX4_ofThing 4 ((some FieldType.long)) 7 111 2 12 Z B0 [.ref (lay (0, 0)), .int t, .int w] lay (cX Z lay μ tb r) (fun v lay' C' => lay = lay' ∧ v = some (.long (M_ofThing μ t w).1) ∧ (M_ofThing μ t w).2.1 38 0 = 0 ∧ C' = cX Z lay (M_ofThing μ t w).2 tb r) (fun E => (E = eO ∧ (M_ofThing μ t w).2.1 38 0 = 1) ∨ (E = eA ∧ (M_ofThing μ t w).2.1 38 0 = 2)) := by
  refine YX_of myX4_ofThing.2.2 RX4 rfl [some (.ref (lay (0, 0))), some (.int t), some (.int w), none] rfl (Nat.le_of_ble_eq_true rfl) ?_
  intro P1 P2 P3 P4 P5 P6 P7 P8 X hr hE
  refine v_aload_n X (xdec_at tX4_ofThing_0 0 rfl) rfl rfl ?_
  refine v_iload_n X (xdec_at tX4_ofThing_0 1 rfl) rfl rfl ?_
  refine v_xV X hE myX4_thingOf [.int t] [] (kyX4_thingOf l hl0 Z B0 lay μ tb r hI t) (xw_at tW_5 34 rfl) (0, 0) cX_X rfl rfl rfl rfl (by rfl) (Nat.le_of_ble_eq_true rfl) (xdec_at tX4_ofThing_0 2 rfl) ⟨(Nat.le_of_ble_eq_true rfl), (Nat.le_of_ble_eq_true rfl)⟩ ⟨(Nat.le_of_ble_eq_true rfl), (Nat.le_of_ble_eq_true rfl)⟩ ⟨(Nat.le_of_ble_eq_true rfl), (Nat.le_of_ble_eq_true rfl)⟩ (fun E h9 => Or.inl (⟨h9.1, by simp [M_ofThing, up2_at, h9.2]⟩)) ?_
  rintro v9 lay9 C9 ⟨rfl, rfl, rfl, q_2⟩
  refine v_astore_n (lv' := [some (.ref (lay (0, 0))), some (.int t), some (.int w), some (.ref (lay (30, ix t)))]) X (xdec_at tX4_ofThing_0 3 rfl) rfl (by decide) rfl ?_
  refine v_iload_n X (xdec_at tX4_ofThing_0 4 rfl) rfl rfl ?_
  by_cases w_0 : w = 0
  · refine v_tableIn (tgt := 48) X (xdec_at tX4_ofThing_0 5 rfl) (by rw [w_0]; decide) (by rw [w_0]; decide) (by rw [w_0]; rfl) (by decide) ?_
    refine v_aload_n X (xdec_at tX4_ofThing_0 6 rfl) rfl rfl ?_
    refine x_get (v := .int (μ.1 23 (ix t))) X hinX3 (30, ix t) (cX_T (μ := μ) (isT_lt hI q_2).1) rfl 8 (by decide) (xw_at tW_12 38 rfl) rfl rfl rfl (xdec_at tX4_ofThing_0 7 rfl) ?_
    refine v_i2l X (xdec_at tX4_ofThing_0 8 rfl) rfl ?_
    have e9 : M_ofThing μ t w = (((μ.1 23 (ix t))).toInt64, ((up2 μ.1 38 0 0), μ.2)) := by simp [M_ofThing, (eq_true q_2), w_0]
    exact v_x (v_lret X hr (xdec_at tX4_ofThing_0 9 rfl) (Nat.le_of_ble_eq_true rfl) (Nat.le_of_ble_eq_true rfl) ⟨rfl, by rw [e9], by rw [e9]; simp [up2_at], cX_eq (fun j hj => by rw [e9]; funext b; simp [up2, (com38 hj).1]) (by rw [e9])⟩)
  by_cases w_1 : w = 1
  · refine v_tableIn (tgt := 54) X (xdec_at tX4_ofThing_0 5 rfl) (by rw [w_1]; decide) (by rw [w_1]; decide) (by rw [w_1]; rfl) (by decide) ?_
    refine v_aload_n X (xdec_at tX4_ofThing_0 10 rfl) rfl rfl ?_
    refine x_get (v := .ref (lay (10, ix (μ.1 24 (ix t))))) X hinX3 (30, ix t) (cX_T (μ := μ) (isT_lt hI q_2).1) rfl 6 (by decide) (xw_at tW_12 34 rfl) rfl rfl rfl (xdec_at tX4_ofThing_0 11 rfl) ?_
    refine x_get (v := .int (μ.1 24 (ix t))) X hinX1 (10, ix (μ.1 24 (ix t))) (cX_P (μ := μ) (hK.at (isT_lt hI q_2).1)) rfl 0 (by decide) (xw_at tW_7 6 rfl) rfl rfl (congrArg Value.int (in_eq (hI.at (in_ix (hI.T q_2))) (by decide))) (xdec_at tX4_ofThing_0 12 rfl) ?_
    refine v_i2l X (xdec_at tX4_ofThing_0 13 rfl) rfl ?_
    have e9 : M_ofThing μ t w = (((μ.1 24 (ix t))).toInt64, ((up2 μ.1 38 0 0), μ.2)) := by simp [M_ofThing, (eq_true q_2), w_0, w_1]
    exact v_x (v_lret X hr (xdec_at tX4_ofThing_0 14 rfl) (Nat.le_of_ble_eq_true rfl) (Nat.le_of_ble_eq_true rfl) ⟨rfl, by rw [e9], by rw [e9]; simp [up2_at], cX_eq (fun j hj => by rw [e9]; funext b; simp [up2, (com38 hj).1]) (by rw [e9])⟩)
  by_cases w_2 : w = 2
  · refine v_tableIn (tgt := 63) X (xdec_at tX4_ofThing_0 5 rfl) (by rw [w_2]; decide) (by rw [w_2]; decide) (by rw [w_2]; rfl) (by decide) ?_
    refine v_aload_n X (xdec_at tX4_ofThing_0 15 rfl) rfl rfl ?_
    refine x_get (v := .int (μ.1 26 (ix t))) X hinX3 (30, ix t) (cX_T (μ := μ) (isT_lt hI q_2).1) rfl 9 (by decide) (xw_at tW_13 0 rfl) rfl rfl rfl (xdec_at tX4_ofThing_0 16 rfl) ?_
    refine v_i2l X (xdec_at tX4_ofThing_0 17 rfl) rfl ?_
    have e9 : M_ofThing μ t w = (((μ.1 26 (ix t))).toInt64, ((up2 μ.1 38 0 0), μ.2)) := by simp [M_ofThing, (eq_true q_2), w_0, w_1, w_2]
    exact v_x (v_lret X hr (xdec_at tX4_ofThing_0 18 rfl) (Nat.le_of_ble_eq_true rfl) (Nat.le_of_ble_eq_true rfl) ⟨rfl, by rw [e9], by rw [e9]; simp [up2_at], cX_eq (fun j hj => by rw [e9]; funext b; simp [up2, (com38 hj).1]) (by rw [e9])⟩)
  by_cases w_3 : w = 3
  · refine v_tableIn (tgt := 69) X (xdec_at tX4_ofThing_0 5 rfl) (by rw [w_3]; decide) (by rw [w_3]; decide) (by rw [w_3]; rfl) (by decide) ?_
    refine v_aload_n X (xdec_at tX4_ofThing_0 19 rfl) rfl rfl ?_
    refine x_get (v := .ref (lay (10, ix (μ.1 19 (ix t))))) X hinX3 (30, ix t) (cX_T (μ := μ) (isT_lt hI q_2).1) rfl 5 (by decide) (xw_at tW_12 32 rfl) rfl rfl rfl (xdec_at tX4_ofThing_0 20 rfl) ?_
    refine x_get (v := .int (μ.1 19 (ix t))) X hinX1 (10, ix (μ.1 19 (ix t))) (cX_P (μ := μ) (hK.ta (isT_lt hI q_2).1)) rfl 0 (by decide) (xw_at tW_7 6 rfl) rfl rfl (congrArg Value.int (in_eq (hI.ta (in_ix (hI.T q_2))) (by decide))) (xdec_at tX4_ofThing_0 21 rfl) ?_
    refine v_i2l X (xdec_at tX4_ofThing_0 22 rfl) rfl ?_
    have e9 : M_ofThing μ t w = (((μ.1 19 (ix t))).toInt64, ((up2 μ.1 38 0 0), μ.2)) := by simp [M_ofThing, (eq_true q_2), w_0, w_1, w_2, w_3]
    exact v_x (v_lret X hr (xdec_at tX4_ofThing_0 23 rfl) (Nat.le_of_ble_eq_true rfl) (Nat.le_of_ble_eq_true rfl) ⟨rfl, by rw [e9], by rw [e9]; simp [up2_at], cX_eq (fun j hj => by rw [e9]; funext b; simp [up2, (com38 hj).1]) (by rw [e9])⟩)
  by_cases w_4 : w = 4
  · refine v_tableIn (tgt := 78) X (xdec_at tX4_ofThing_0 5 rfl) (by rw [w_4]; decide) (by rw [w_4]; decide) (by rw [w_4]; rfl) (by decide) ?_
    refine v_aload_n X (xdec_at tX4_ofThing_0 24 rfl) rfl rfl ?_
    refine v_callV X myX3_taxOfNow [] [] (kyX3_taxOfNow l Z B0 lay μ tb r (ix t) (isT_lt hI q_2).1 (hK.or (isT_lt hI q_2).1) (hK.ta (isT_lt hI q_2).1)) (xw_at tW_5 37 rfl) (30, ix t) (cX_T (μ := μ) (isT_lt hI q_2).1) rfl rfl rfl rfl (by rfl) (Nat.le_of_ble_eq_true rfl) (xdec_at tX4_ofThing_0 25 rfl) ⟨(Nat.le_of_ble_eq_true rfl), (Nat.le_of_ble_eq_true rfl)⟩ ⟨(Nat.le_of_ble_eq_true rfl), (Nat.le_of_ble_eq_true rfl)⟩ ?_
    rintro v9 lay9 C9 ⟨rfl, rfl, rfl⟩
    rw [tax_eq hI (in_ix (hI.T q_2))]
    have e9 : M_ofThing μ t w = ((M_taxOf μ (ix t)), ((up2 μ.1 38 0 0), μ.2)) := by simp [M_ofThing, (eq_true q_2), w_0, w_1, w_2, w_3, w_4]
    exact v_x (v_lret X hr (xdec_at tX4_ofThing_0 26 rfl) (Nat.le_of_ble_eq_true rfl) (Nat.le_of_ble_eq_true rfl) ⟨rfl, by rw [e9], by rw [e9]; simp [up2_at], cX_eq (fun j hj => by rw [e9]; funext b; simp [up2, (com38 hj).1]) (by rw [e9])⟩)
  by_cases w_5 : w = 5
  · refine v_tableIn (tgt := 83) X (xdec_at tX4_ofThing_0 5 rfl) (by rw [w_5]; decide) (by rw [w_5]; decide) (by rw [w_5]; rfl) (by decide) ?_
    refine v_aload_n X (xdec_at tX4_ofThing_0 27 rfl) rfl rfl ?_
    refine x_get (v := .int (μ.1 27 (ix t))) X hinX3 (30, ix t) (cX_T (μ := μ) (isT_lt hI q_2).1) rfl 11 (by decide) (xw_at tW_13 4 rfl) rfl rfl rfl (xdec_at tX4_ofThing_0 28 rfl) ?_
    refine v_if_eq (tgt := 94) X (xdec_at tX4_ofThing_0 29 rfl) (by decide) (fun c_87 => ?_) (fun c_87 => ?_)
    · refine v_lconst (v := 0) X (xdec_at tX4_ofThing_0 32 rfl) (by decide) ?_
      have e9 : M_ofThing μ t w = (0, ((up2 μ.1 38 0 0), μ.2)) := by simp [M_ofThing, (eq_true q_2), w_0, w_1, w_2, w_3, w_4, w_5, (eq_true c_87)]
      exact v_x (v_lret X hr (xdec_at tX4_ofThing_0 33 rfl) (Nat.le_of_ble_eq_true rfl) (Nat.le_of_ble_eq_true rfl) ⟨rfl, by rw [e9], by rw [e9]; simp [up2_at], cX_eq (fun j hj => by rw [e9]; funext b; simp [up2, (com38 hj).1]) (by rw [e9])⟩)
    · refine v_lconst (v := 1) X (xdec_at tX4_ofThing_0 30 rfl) (by decide) ?_
      refine v_goto (tgt := 95) X (xdec_at tX4_ofThing_0 31 rfl) (by decide) ?_
      have e9 : M_ofThing μ t w = (1, ((up2 μ.1 38 0 0), μ.2)) := by simp [M_ofThing, (eq_true q_2), w_0, w_1, w_2, w_3, w_4, w_5, c_87]
      exact v_x (v_lret X hr (xdec_at tX4_ofThing_0 33 rfl) (Nat.le_of_ble_eq_true rfl) (Nat.le_of_ble_eq_true rfl) ⟨rfl, by rw [e9], by rw [e9]; simp [up2_at], cX_eq (fun j hj => by rw [e9]; funext b; simp [up2, (com38 hj).1]) (by rw [e9])⟩)
  by_cases w_6 : w = 6
  · refine v_tableIn (tgt := 96) X (xdec_at tX4_ofThing_0 5 rfl) (by rw [w_6]; decide) (by rw [w_6]; decide) (by rw [w_6]; rfl) (by decide) ?_
    refine v_aload_n X (xdec_at tX4_ofThing_0 34 rfl) rfl rfl ?_
    refine x_get (v := .int (μ.1 35 (ix t))) X hinX3 (30, ix t) (cX_T (μ := μ) (isT_lt hI q_2).1) rfl 14 (by decide) (xw_at tW_13 10 rfl) rfl rfl rfl (xdec_at tX4_ofThing_0 35 rfl) ?_
    refine v_i2l X (xdec_at tX4_ofThing_0 36 rfl) rfl ?_
    have e9 : M_ofThing μ t w = (((μ.1 35 (ix t))).toInt64, ((up2 μ.1 38 0 0), μ.2)) := by simp [M_ofThing, (eq_true q_2), w_0, w_1, w_2, w_3, w_4, w_5, w_6]
    exact v_x (v_lret X hr (xdec_at tX4_ofThing_0 37 rfl) (Nat.le_of_ble_eq_true rfl) (Nat.le_of_ble_eq_true rfl) ⟨rfl, by rw [e9], by rw [e9]; simp [up2_at], cX_eq (fun j hj => by rw [e9]; funext b; simp [up2, (com38 hj).1]) (by rw [e9])⟩)
  refine v_tableOut (tgt := 102) X (xdec_at tX4_ofThing_0 5 rfl) (by have h8 := tab_out_le (x := w) (k := 6) (by decide) (fun i h9 => match i, h9 with | 0, _ => w_0 | 1, _ => w_1 | 2, _ => w_2 | 3, _ => w_3 | 4, _ => w_4 | 5, _ => w_5 | 6, _ => w_6 | i + 7, h9 => absurd h9 (by omega)); simpa using h8) (by decide) ?_
  exact v_throw X hE hl0 (text := "what is out of range") xinA xkA xiA (List.mem_of_getElem? (i := 13) rfl) xfA (xdec_at tX4_ofThing_0 38 rfl) (xdec_at tX4_ofThing_0 39 rfl) (xdec_at tX4_ofThing_1 0 rfl) (xdec_at tX4_ofThing_1 1 rfl) (xdec_at tX4_ofThing_1 2 rfl) ⟨(Nat.le_of_ble_eq_true rfl), (Nat.le_of_ble_eq_true rfl), (Nat.le_of_ble_eq_true rfl), (Nat.le_of_ble_eq_true rfl)⟩ ⟨(Nat.le_of_ble_eq_true rfl), (Nat.le_of_ble_eq_true rfl)⟩ (Or.inr ((⟨rfl, by simp [M_ofThing, up2_at, (eq_true q_2), w_0, w_1, w_2, w_3, w_4, w_5, w_6]⟩)))
