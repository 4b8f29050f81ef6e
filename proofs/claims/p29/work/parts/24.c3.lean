set_option maxRecDepth 100000 in
set_option maxHeartbeats 4000000 in
theorem kyX4_due (l : Launch) (hl0 : l.stackTraces = false) (Z : xZ) (B0 : Nat) (lay : xK → Nat) (μ : Mu) (tb : Tb) (r : xK → Option xE)  (hI : RI μ) (p k c : Int32) : YX l yX4_due cX4_due 6 ((some FieldType.int)) 8 132 3 18 Z B0 [.ref (lay (0, 0)), .int p, .int k, .int c] lay (cX Z lay μ tb r) (fun v lay' C' => lay = lay' ∧ v = some (.int (M_due μ p k c).1) ∧ (M_due μ p k c).2.1 38 0 = 0 ∧ C' = cX Z lay (M_due μ p k c).2 tb r) (fun E => (E = eO ∧ (M_due μ p k c).2.1 38 0 = 1) ∨ (E = eA ∧ (M_due μ p k c).2.1 38 0 = 2)) := by
  refine YX_of myX4_due.2.2 RX4 rfl [some (.ref (lay (0, 0))), some (.int p), some (.int k), some (.int c), none, none] rfl (Nat.le_of_ble_eq_true rfl) ?_
  intro P1 P2 P3 P4 P5 P6 P7 P8 X hr hE
  refine v_aload_n X (xdec_at tX4_due_0 0 rfl) rfl rfl ?_
  refine v_iload_n X (xdec_at tX4_due_0 1 rfl) rfl rfl ?_
  refine v_xV X hE myX4_postOf [.int p] [] (kyX4_postOf l hl0 Z B0 lay μ tb r hI p) (xw_at tW_2 39 rfl) (0, 0) cX_X rfl rfl rfl rfl (by rfl) (Nat.le_of_ble_eq_true rfl) (xdec_at tX4_due_0 2 rfl) ⟨(Nat.le_of_ble_eq_true rfl), (Nat.le_of_ble_eq_true rfl)⟩ ⟨(Nat.le_of_ble_eq_true rfl), (Nat.le_of_ble_eq_true rfl)⟩ ⟨(Nat.le_of_ble_eq_true rfl), (Nat.le_of_ble_eq_true rfl)⟩ (fun E h9 => Or.inl (⟨h9.1, by simp [M_due, up2_at, h9.2]⟩)) ?_
  rintro v9 lay9 C9 ⟨rfl, rfl, rfl, q_2⟩
  refine v_astore (lv' := [some (.ref (lay (0, 0))), some (.int p), some (.int k), some (.int c), some (.ref (lay (10, ix p))), none]) X (xdec_at tX4_due_0 3 rfl) (by decide) rfl ?_
  refine v_iload_n X (xdec_at tX4_due_0 4 rfl) rfl rfl ?_
  refine v_xS X hE myX4_demandKind [.int k] [] (kyX4_demandKind l hl0 Z B0 lay (cX Z lay μ tb r) k) (xw_at tW_5 2 rfl) rfl rfl (by rfl) (Nat.le_of_ble_eq_true rfl) (xdec_at tX4_due_0 5 rfl) ⟨(Nat.le_of_ble_eq_true rfl), (Nat.le_of_ble_eq_true rfl)⟩ ⟨(Nat.le_of_ble_eq_true rfl), (Nat.le_of_ble_eq_true rfl)⟩ ⟨(Nat.le_of_ble_eq_true rfl), (Nat.le_of_ble_eq_true rfl)⟩ (fun E h9 => Or.inr ((⟨h9.1, by simp [M_due, (eq_true q_2), up2_at, h9.2]⟩))) ?_
  rintro v9 lay9 C9 ⟨rfl, rfl, rfl, q_8⟩
  refine v_iload_n X (xdec_at tX4_due_0 6 rfl) rfl rfl ?_
  refine v_iconst (v := 0) X (xdec_at tX4_due_0 7 rfl) (by decide) ?_
  refine v_sipush (v := 10000) X (xdec_at tX4_due_0 8 rfl) (by decide) ?_
  refine v_xS X hE myX4_demandWithin [.int c, .int 0, .int 10000] [] (kyX4_demandWithin l hl0 Z B0 lay (cX Z lay μ tb r) c 0 10000) (xw_at tW_5 5 rfl) rfl rfl (by rfl) (Nat.le_of_ble_eq_true rfl) (xdec_at tX4_due_0 9 rfl) ⟨(Nat.le_of_ble_eq_true rfl), (Nat.le_of_ble_eq_true rfl)⟩ ⟨(Nat.le_of_ble_eq_true rfl), (Nat.le_of_ble_eq_true rfl)⟩ ⟨(Nat.le_of_ble_eq_true rfl), (Nat.le_of_ble_eq_true rfl)⟩ (fun E h9 => Or.inr ((⟨h9.1, by simp [M_due, (eq_true q_2), (eq_true q_8), up2_at, h9.2]⟩))) ?_
  rintro v9 lay9 C9 ⟨rfl, rfl, rfl, q_16⟩
  refine v_aload X (xdec_at tX4_due_0 10 rfl) rfl ?_
  refine x_get (v := .ref (lay (13, ix p))) X hinX1 (10, ix p) (cX_P (μ := μ) (isP_lt hI q_2).1) rfl 3 (by decide) (xw_at tW_7 13 rfl) rfl rfl rfl (xdec_at tX4_due_0 11 rfl) ?_
  refine v_iload_n X (xdec_at tX4_due_0 12 rfl) rfl rfl ?_
  refine x_iald (v := (μ.1 3 (3 * ix p + ix k))) X (13, ix p) (cX_r3 (μ := μ) (isP_lt hI q_2).1) (isK_in (by assumption)) rfl (row3_at (k3 (by assumption))) (xdec_at tX4_due_0 13 rfl) ?_
  refine v_istore (lv' := [some (.ref (lay (0, 0))), some (.int p), some (.int k), some (.int c), some (.ref (lay (10, ix p))), some (.int (μ.1 3 (3 * ix p + ix k)))]) X (xdec_at tX4_due_0 14 rfl) (by decide) rfl ?_
  refine v_aload X (xdec_at tX4_due_0 15 rfl) rfl ?_
  refine x_get (v := .ref (lay (13, ix p))) X hinX1 (10, ix p) (cX_P (μ := μ) (isP_lt hI q_2).1) rfl 3 (by decide) (xw_at tW_7 13 rfl) rfl rfl rfl (xdec_at tX4_due_0 16 rfl) ?_
  refine v_iload_n X (xdec_at tX4_due_0 17 rfl) rfl rfl ?_
  refine v_iload_n X (xdec_at tX4_due_0 18 rfl) rfl rfl ?_
  refine x_iast (C' := (cX Z lay ((up2 μ.1 3 (3 * ix p + ix k) c), μ.2) tb r)) X (13, ix p) (cX_r3 (μ := μ) (isP_lt hI q_2).1) (isK_in (by assumption)) rfl (cw_r3 (μ := μ) (h := (isP_lt hI q_2).1) (k3 (by assumption))) (xdec_at tX4_due_0 19 rfl) ?_
  refine v_iload X (xdec_at tX4_due_0 20 rfl) rfl ?_
  have e9 : M_due μ p k c = ((μ.1 3 (3 * ix p + ix k)), ((up2 (up2 μ.1 38 0 0) 3 (3 * ix p + ix k) c), μ.2)) := by simp [M_due, (eq_true q_2), (eq_true q_8), (eq_true q_16), i3k hI q_2 q_8]
  exact v_x (v_iret X hr (xdec_at tX4_due_0 21 rfl) (Nat.le_of_ble_eq_true rfl) (Nat.le_of_ble_eq_true rfl) ⟨rfl, by rw [e9], by rw [e9]; simp [up2_at], cX_eq (fun j hj => by rw [e9]; funext b; simp [up2, (com38 hj).1]) (by rw [e9])⟩)
set_option maxRecDepth 100000 in
set_option maxHeartbeats 4000000 in
theorem kyX4_rates (l : Launch) (hl0 : l.stackTraces = false) (Z : xZ) (B0 : Nat) (lay : xK → Nat) (μ : Mu) (tb : Tb) (r : xK → Option xE)  (hI : RI μ) (p k f g : Int32) : YX l yX4_rates cX4_rates 6 ((none : Option FieldType)) 8 132 4 24 Z B0 [.ref (lay (0, 0)), .int p, .int k, .int f, .int g] lay (cX Z lay μ tb r) (fun v lay' C' => lay = lay' ∧ v = none ∧ (M_rates μ p k f g).1 38 0 = 0 ∧ C' = cX Z lay (M_rates μ p k f g) tb r) (fun E => (E = eO ∧ (M_rates μ p k f g).1 38 0 = 1) ∨ (E = eA ∧ (M_rates μ p k f g).1 38 0 = 2)) := by
  refine YX_of myX4_rates.2.2 RX4 rfl [some (.ref (lay (0, 0))), some (.int p), some (.int k), some (.int f), some (.int g), none] rfl (Nat.le_of_ble_eq_true rfl) ?_
  intro P1 P2 P3 P4 P5 P6 P7 P8 X hr hE
  refine v_aload_n X (xdec_at tX4_rates_0 0 rfl) rfl rfl ?_
  refine v_iload_n X (xdec_at tX4_rates_0 1 rfl) rfl rfl ?_
  refine v_xV X hE myX4_postOf [.int p] [] (kyX4_postOf l hl0 Z B0 lay μ tb r hI p) (xw_at tW_2 39 rfl) (0, 0) cX_X rfl rfl rfl rfl (by rfl) (Nat.le_of_ble_eq_true rfl) (xdec_at tX4_rates_0 2 rfl) ⟨(Nat.le_of_ble_eq_true rfl), (Nat.le_of_ble_eq_true rfl)⟩ ⟨(Nat.le_of_ble_eq_true rfl), (Nat.le_of_ble_eq_true rfl)⟩ ⟨(Nat.le_of_ble_eq_true rfl), (Nat.le_of_ble_eq_true rfl)⟩ (fun E h9 => Or.inl (⟨h9.1, by simp [M_rates, up2_at, h9.2]⟩)) ?_
  rintro v9 lay9 C9 ⟨rfl, rfl, rfl, q_2⟩
  refine v_astore (lv' := [some (.ref (lay (0, 0))), some (.int p), some (.int k), some (.int f), some (.int g), some (.ref (lay (10, ix p)))]) X (xdec_at tX4_rates_0 3 rfl) (by decide) rfl ?_
  refine v_iload_n X (xdec_at tX4_rates_0 4 rfl) rfl rfl ?_
  refine v_xS X hE myX4_demandKind [.int k] [] (kyX4_demandKind l hl0 Z B0 lay (cX Z lay μ tb r) k) (xw_at tW_5 2 rfl) rfl rfl (by rfl) (Nat.le_of_ble_eq_true rfl) (xdec_at tX4_rates_0 5 rfl) ⟨(Nat.le_of_ble_eq_true rfl), (Nat.le_of_ble_eq_true rfl)⟩ ⟨(Nat.le_of_ble_eq_true rfl), (Nat.le_of_ble_eq_true rfl)⟩ ⟨(Nat.le_of_ble_eq_true rfl), (Nat.le_of_ble_eq_true rfl)⟩ (fun E h9 => Or.inr ((⟨h9.1, by simp [M_rates, (eq_true q_2), up2_at, h9.2]⟩))) ?_
  rintro v9 lay9 C9 ⟨rfl, rfl, rfl, q_8⟩
  refine v_iload_n X (xdec_at tX4_rates_0 6 rfl) rfl rfl ?_
  refine v_iconst (v := 0) X (xdec_at tX4_rates_0 7 rfl) (by decide) ?_
  refine v_sipush (v := 10000) X (xdec_at tX4_rates_0 8 rfl) (by decide) ?_
  refine v_xS X hE myX4_demandWithin [.int f, .int 0, .int 10000] [] (kyX4_demandWithin l hl0 Z B0 lay (cX Z lay μ tb r) f 0 10000) (xw_at tW_5 5 rfl) rfl rfl (by rfl) (Nat.le_of_ble_eq_true rfl) (xdec_at tX4_rates_0 9 rfl) ⟨(Nat.le_of_ble_eq_true rfl), (Nat.le_of_ble_eq_true rfl)⟩ ⟨(Nat.le_of_ble_eq_true rfl), (Nat.le_of_ble_eq_true rfl)⟩ ⟨(Nat.le_of_ble_eq_true rfl), (Nat.le_of_ble_eq_true rfl)⟩ (fun E h9 => Or.inr ((⟨h9.1, by simp [M_rates, (eq_true q_2), (eq_true q_8), up2_at, h9.2]⟩))) ?_
  rintro v9 lay9 C9 ⟨rfl, rfl, rfl, q_16⟩
  refine v_iload X (xdec_at tX4_rates_0 10 rfl) rfl ?_
  refine v_iconst (v := 0) X (xdec_at tX4_rates_0 11 rfl) (by decide) ?_
  refine v_sipush (v := 10000) X (xdec_at tX4_rates_0 12 rfl) (by decide) ?_
  refine v_xS X hE myX4_demandWithin [.int g, .int 0, .int 10000] [] (kyX4_demandWithin l hl0 Z B0 lay (cX Z lay μ tb r) g 0 10000) (xw_at tW_5 5 rfl) rfl rfl (by rfl) (Nat.le_of_ble_eq_true rfl) (xdec_at tX4_rates_0 13 rfl) ⟨(Nat.le_of_ble_eq_true rfl), (Nat.le_of_ble_eq_true rfl)⟩ ⟨(Nat.le_of_ble_eq_true rfl), (Nat.le_of_ble_eq_true rfl)⟩ ⟨(Nat.le_of_ble_eq_true rfl), (Nat.le_of_ble_eq_true rfl)⟩ (fun E h9 => Or.inr ((⟨h9.1, by simp [M_rates, (eq_true q_2), (eq_true q_8), (eq_true q_16), up2_at, h9.2]⟩))) ?_
  rintro v9 lay9 C9 ⟨rfl, rfl, rfl, q_25⟩
  refine v_aload X (xdec_at tX4_rates_0 14 rfl) rfl ?_
  refine x_get (v := .ref (lay (11, ix p))) X hinX1 (10, ix p) (cX_P (μ := μ) (isP_lt hI q_2).1) rfl 1 (by decide) (xw_at tW_7 9 rfl) rfl rfl rfl (xdec_at tX4_rates_0 15 rfl) ?_
  refine v_iload_n X (xdec_at tX4_rates_0 16 rfl) rfl rfl ?_
  refine v_iload_n X (xdec_at tX4_rates_0 17 rfl) rfl rfl ?_
  refine x_iast (C' := (cX Z lay ((up2 μ.1 1 (3 * ix p + ix k) f), μ.2) tb r)) X (11, ix p) (cX_r1 (μ := μ) (isP_lt hI q_2).1) (isK_in (by assumption)) rfl (cw_r1 (μ := μ) (h := (isP_lt hI q_2).1) (k3 (by assumption))) (xdec_at tX4_rates_0 18 rfl) ?_
  refine v_aload X (xdec_at tX4_rates_0 19 rfl) rfl ?_
  refine x_get (v := .ref (lay (12, ix p))) X hinX1 (10, ix p) (cX_P (μ := ((up2 μ.1 1 (3 * ix p + ix k) f), μ.2)) (isP_lt hI q_2).1) rfl 2 (by decide) (xw_at tW_7 11 rfl) rfl rfl rfl (xdec_at tX4_rates_0 20 rfl) ?_
  refine v_iload_n X (xdec_at tX4_rates_0 21 rfl) rfl rfl ?_
  refine v_iload X (xdec_at tX4_rates_0 22 rfl) rfl ?_
  refine x_iast (C' := (cX Z lay ((up2 (up2 μ.1 1 (3 * ix p + ix k) f) 2 (3 * ix p + ix k) g), μ.2) tb r)) X (12, ix p) (cX_r2 (μ := ((up2 μ.1 1 (3 * ix p + ix k) f), μ.2)) (isP_lt hI q_2).1) (isK_in (by assumption)) rfl (cw_r2 (μ := ((up2 μ.1 1 (3 * ix p + ix k) f), μ.2)) (h := (isP_lt hI q_2).1) (k3 (by assumption))) (xdec_at tX4_rates_0 23 rfl) ?_
  have e9 : M_rates μ p k f g = ((up2 (up2 (up2 μ.1 38 0 0) 1 (3 * ix p + ix k) f) 2 (3 * ix p + ix k) g), μ.2) := by simp [M_rates, (eq_true q_2), (eq_true q_8), (eq_true q_16), (eq_true q_25), i3k hI q_2 q_8]
  exact v_x (v_vret X hr (xdec_at tX4_rates_0 24 rfl) (Nat.le_of_ble_eq_true rfl) (Nat.le_of_ble_eq_true rfl) ⟨rfl, rfl, by rw [e9]; simp [up2_at], cX_eq (fun j hj => by rw [e9]; funext b; simp [up2, (com38 hj).1]) (by rw [e9])⟩)
set_option maxRecDepth 100000 in
set_option maxHeartbeats 4000000 in
theorem kyX4_charge (l : Launch) (hl0 : l.stackTraces = false) (Z : xZ) (B0 : Nat) (lay : xK → Nat) (μ : Mu) (tb : Tb) (r : xK → Option xE)  (hI : RI μ) (p c : Int32) : YX l yX4_charge cX4_charge 5 ((some FieldType.int)) 7 112 2 12 Z B0 [.ref (lay (0, 0)), .int p, .int c] lay (cX Z lay μ tb r) (fun v lay' C' => lay = lay' ∧ v = some (.int (M_charge μ p c).1) ∧ (M_charge μ p c).2.1 38 0 = 0 ∧ C' = cX Z lay (M_charge μ p c).2 tb r) (fun E => (E = eO ∧ (M_charge μ p c).2.1 38 0 = 1) ∨ (E = eA ∧ (M_charge μ p c).2.1 38 0 = 2)) := by
  refine YX_of myX4_charge.2.2 RX4 rfl [some (.ref (lay (0, 0))), some (.int p), some (.int c), none, none] rfl (Nat.le_of_ble_eq_true rfl) ?_
  intro P1 P2 P3 P4 P5 P6 P7 P8 X hr hE
  refine v_aload_n X (xdec_at tX4_charge_0 0 rfl) rfl rfl ?_
  refine v_iload_n X (xdec_at tX4_charge_0 1 rfl) rfl rfl ?_
  refine v_xV X hE myX4_postOf [.int p] [] (kyX4_postOf l hl0 Z B0 lay μ tb r hI p) (xw_at tW_2 39 rfl) (0, 0) cX_X rfl rfl rfl rfl (by rfl) (Nat.le_of_ble_eq_true rfl) (xdec_at tX4_charge_0 2 rfl) ⟨(Nat.le_of_ble_eq_true rfl), (Nat.le_of_ble_eq_true rfl)⟩ ⟨(Nat.le_of_ble_eq_true rfl), (Nat.le_of_ble_eq_true rfl)⟩ ⟨(Nat.le_of_ble_eq_true rfl), (Nat.le_of_ble_eq_true rfl)⟩ (fun E h9 => Or.inl (⟨h9.1, by simp [M_charge, up2_at, h9.2]⟩)) ?_
  rintro v9 lay9 C9 ⟨rfl, rfl, rfl, q_2⟩
  refine v_astore_n (lv' := [some (.ref (lay (0, 0))), some (.int p), some (.int c), some (.ref (lay (10, ix p))), none]) X (xdec_at tX4_charge_0 3 rfl) rfl (by decide) rfl ?_
  refine v_iload_n X (xdec_at tX4_charge_0 4 rfl) rfl rfl ?_
  refine v_iconst (v := 0) X (xdec_at tX4_charge_0 5 rfl) (by decide) ?_
  refine v_sipush (v := 1000) X (xdec_at tX4_charge_0 6 rfl) (by decide) ?_
  refine v_xS X hE myX4_demandWithin [.int c, .int 0, .int 1000] [] (kyX4_demandWithin l hl0 Z B0 lay (cX Z lay μ tb r) c 0 1000) (xw_at tW_5 5 rfl) rfl rfl (by rfl) (Nat.le_of_ble_eq_true rfl) (xdec_at tX4_charge_0 7 rfl) ⟨(Nat.le_of_ble_eq_true rfl), (Nat.le_of_ble_eq_true rfl)⟩ ⟨(Nat.le_of_ble_eq_true rfl), (Nat.le_of_ble_eq_true rfl)⟩ ⟨(Nat.le_of_ble_eq_true rfl), (Nat.le_of_ble_eq_true rfl)⟩ (fun E h9 => Or.inr ((⟨h9.1, by simp [M_charge, (eq_true q_2), up2_at, h9.2]⟩))) ?_
  rintro v9 lay9 C9 ⟨rfl, rfl, rfl, q_11⟩
  refine v_aload_n X (xdec_at tX4_charge_0 8 rfl) rfl rfl ?_
  refine x_get (v := .int (μ.1 4 (ix p))) X hinX1 (10, ix p) (cX_P (μ := μ) (isP_lt hI q_2).1) rfl 5 (by decide) (xw_at tW_7 17 rfl) rfl rfl rfl (xdec_at tX4_charge_0 9 rfl) ?_
  refine v_istore (lv' := [some (.ref (lay (0, 0))), some (.int p), some (.int c), some (.ref (lay (10, ix p))), some (.int (μ.1 4 (ix p)))]) X (xdec_at tX4_charge_0 10 rfl) (by decide) rfl ?_
  refine v_aload_n X (xdec_at tX4_charge_0 11 rfl) rfl rfl ?_
  refine v_iload_n X (xdec_at tX4_charge_0 12 rfl) rfl rfl ?_
  refine x_put (C' := (cX Z lay ((up2 μ.1 4 (ix p) c), μ.2) tb r)) X hinX1 tyX1 tyX1_ok nmX1 (10, ix p) (cX_P (μ := μ) (isP_lt hI q_2).1) rfl 5 (by decide) (xw_at tW_7 17 rfl) rfl rfl rfl rfl rfl (cw_P5 (μ := μ) (h := (isP_lt hI q_2).1)) (xdec_at tX4_charge_0 13 rfl) ?_
  refine v_iload X (xdec_at tX4_charge_0 14 rfl) rfl ?_
  have e9 : M_charge μ p c = ((μ.1 4 (ix p)), ((up2 (up2 μ.1 38 0 0) 4 (ix p) c), μ.2)) := by simp [M_charge, (eq_true q_2), (eq_true q_11)]
  exact v_x (v_iret X hr (xdec_at tX4_charge_0 15 rfl) (Nat.le_of_ble_eq_true rfl) (Nat.le_of_ble_eq_true rfl) ⟨rfl, by rw [e9], by rw [e9]; simp [up2_at], cX_eq (fun j hj => by rw [e9]; funext b; simp [up2, (com38 hj).1]) (by rw [e9])⟩)
set_option maxRecDepth 100000 in
set_option maxHeartbeats 4000000 in
theorem kyX4_coupon (l : Launch) (hl0 : l.stackTraces = false) (Z : xZ) (B0 : Nat) (lay : xK → Nat) (μ : Mu) (tb : Tb) (r : xK → Option xE)  (hI : RI μ) (p c : Int32) : YX l yX4_coupon cX4_coupon 5 ((some FieldType.int)) 7 112 2 12 Z B0 [.ref (lay (0, 0)), .int p, .int c] lay (cX Z lay μ tb r) (fun v lay' C' => lay = lay' ∧ v = some (.int (M_coupon μ p c).1) ∧ (M_coupon μ p c).2.1 38 0 = 0 ∧ C' = cX Z lay (M_coupon μ p c).2 tb r) (fun E => (E = eO ∧ (M_coupon μ p c).2.1 38 0 = 1) ∨ (E = eA ∧ (M_coupon μ p c).2.1 38 0 = 2)) := by
  refine YX_of myX4_coupon.2.2 RX4 rfl [some (.ref (lay (0, 0))), some (.int p), some (.int c), none, none] rfl (Nat.le_of_ble_eq_true rfl) ?_
  intro P1 P2 P3 P4 P5 P6 P7 P8 X hr hE
  refine v_aload_n X (xdec_at tX4_coupon_0 0 rfl) rfl rfl ?_
  refine v_iload_n X (xdec_at tX4_coupon_0 1 rfl) rfl rfl ?_
  refine v_xV X hE myX4_postOf [.int p] [] (kyX4_postOf l hl0 Z B0 lay μ tb r hI p) (xw_at tW_2 39 rfl) (0, 0) cX_X rfl rfl rfl rfl (by rfl) (Nat.le_of_ble_eq_true rfl) (xdec_at tX4_coupon_0 2 rfl) ⟨(Nat.le_of_ble_eq_true rfl), (Nat.le_of_ble_eq_true rfl)⟩ ⟨(Nat.le_of_ble_eq_true rfl), (Nat.le_of_ble_eq_true rfl)⟩ ⟨(Nat.le_of_ble_eq_true rfl), (Nat.le_of_ble_eq_true rfl)⟩ (fun E h9 => Or.inl (⟨h9.1, by simp [M_coupon, up2_at, h9.2]⟩)) ?_
  rintro v9 lay9 C9 ⟨rfl, rfl, rfl, q_2⟩
  refine v_astore_n (lv' := [some (.ref (lay (0, 0))), some (.int p), some (.int c), some (.ref (lay (10, ix p))), none]) X (xdec_at tX4_coupon_0 3 rfl) rfl (by decide) rfl ?_
  refine v_iload_n X (xdec_at tX4_coupon_0 4 rfl) rfl rfl ?_
  refine v_iconst (v := 0) X (xdec_at tX4_coupon_0 5 rfl) (by decide) ?_
  refine v_sipush (v := 10000) X (xdec_at tX4_coupon_0 6 rfl) (by decide) ?_
  refine v_xS X hE myX4_demandWithin [.int c, .int 0, .int 10000] [] (kyX4_demandWithin l hl0 Z B0 lay (cX Z lay μ tb r) c 0 10000) (xw_at tW_5 5 rfl) rfl rfl (by rfl) (Nat.le_of_ble_eq_true rfl) (xdec_at tX4_coupon_0 7 rfl) ⟨(Nat.le_of_ble_eq_true rfl), (Nat.le_of_ble_eq_true rfl)⟩ ⟨(Nat.le_of_ble_eq_true rfl), (Nat.le_of_ble_eq_true rfl)⟩ ⟨(Nat.le_of_ble_eq_true rfl), (Nat.le_of_ble_eq_true rfl)⟩ (fun E h9 => Or.inr ((⟨h9.1, by simp [M_coupon, (eq_true q_2), up2_at, h9.2]⟩))) ?_
  rintro v9 lay9 C9 ⟨rfl, rfl, rfl, q_11⟩
  refine v_aload_n X (xdec_at tX4_coupon_0 8 rfl) rfl rfl ?_
  refine x_get (v := .int (μ.1 5 (ix p))) X hinX1 (10, ix p) (cX_P (μ := μ) (isP_lt hI q_2).1) rfl 6 (by decide) (xw_at tW_7 19 rfl) rfl rfl rfl (xdec_at tX4_coupon_0 9 rfl) ?_
  refine v_istore (lv' := [some (.ref (lay (0, 0))), some (.int p), some (.int c), some (.ref (lay (10, ix p))), some (.int (μ.1 5 (ix p)))]) X (xdec_at tX4_coupon_0 10 rfl) (by decide) rfl ?_
  refine v_aload_n X (xdec_at tX4_coupon_0 11 rfl) rfl rfl ?_
  refine v_iload_n X (xdec_at tX4_coupon_0 12 rfl) rfl rfl ?_
  refine x_put (C' := (cX Z lay ((up2 μ.1 5 (ix p) c), μ.2) tb r)) X hinX1 tyX1 tyX1_ok nmX1 (10, ix p) (cX_P (μ := μ) (isP_lt hI q_2).1) rfl 6 (by decide) (xw_at tW_7 19 rfl) rfl rfl rfl rfl rfl (cw_P6 (μ := μ) (h := (isP_lt hI q_2).1)) (xdec_at tX4_coupon_0 13 rfl) ?_
  refine v_iload X (xdec_at tX4_coupon_0 14 rfl) rfl ?_
  have e9 : M_coupon μ p c = ((μ.1 5 (ix p)), ((up2 (up2 μ.1 38 0 0) 5 (ix p) c), μ.2)) := by simp [M_coupon, (eq_true q_2), (eq_true q_11)]
  exact v_x (v_iret X hr (xdec_at tX4_coupon_0 15 rfl) (Nat.le_of_ble_eq_true rfl) (Nat.le_of_ble_eq_true rfl) ⟨rfl, by rw [e9], by rw [e9]; simp [up2_at], cX_eq (fun j hj => by rw [e9]; funext b; simp [up2, (com38 hj).1]) (by rw [e9])⟩)
set_option maxRecDepth 100000 in
set_option maxHeartbeats 4000000 in
theorem kyX4_strike (l : Launch) (hl0 : l.stackTraces = false) (Z : xZ) (B0 : Nat) (lay : xK → Nat) (μ : Mu) (tb : Tb) (r : xK → Option xE)  (hI : RI μ) (p c : Int32) (hc : c = 0 ∨ c = 1) : YX l yX4_strike cX4_strike 5 ((some FieldType.boolean)) 7 111 1 6 Z B0 [.ref (lay (0, 0)), .int p, .int c] lay (cX Z lay μ tb r) (fun v lay' C' => lay = lay' ∧ v = some (.int (M_strike μ p c).1) ∧ (M_strike μ p c).2.1 38 0 = 0 ∧ C' = cX Z lay (M_strike μ p c).2 tb r) (fun E => (E = eO ∧ (M_strike μ p c).2.1 38 0 = 1)) := by
  refine YX_of myX4_strike.2.2 RX4 rfl [some (.ref (lay (0, 0))), some (.int p), some (.int c), none, none] rfl (Nat.le_of_ble_eq_true rfl) ?_
  intro P1 P2 P3 P4 P5 P6 P7 P8 X hr hE
  refine v_aload_n X (xdec_at tX4_strike_0 0 rfl) rfl rfl ?_
  refine v_iload_n X (xdec_at tX4_strike_0 1 rfl) rfl rfl ?_
  refine v_xV X hE myX4_postOf [.int p] [] (kyX4_postOf l hl0 Z B0 lay μ tb r hI p) (xw_at tW_2 39 rfl) (0, 0) cX_X rfl rfl rfl rfl (by rfl) (Nat.le_of_ble_eq_true rfl) (xdec_at tX4_strike_0 2 rfl) ⟨(Nat.le_of_ble_eq_true rfl), (Nat.le_of_ble_eq_true rfl)⟩ ⟨(Nat.le_of_ble_eq_true rfl), (Nat.le_of_ble_eq_true rfl)⟩ ⟨(Nat.le_of_ble_eq_true rfl), (Nat.le_of_ble_eq_true rfl)⟩ (fun E h9 => (⟨h9.1, by simp [M_strike, up2_at, h9.2]⟩)) ?_
  rintro v9 lay9 C9 ⟨rfl, rfl, rfl, q_2⟩
  refine v_astore_n (lv' := [some (.ref (lay (0, 0))), some (.int p), some (.int c), some (.ref (lay (10, ix p))), none]) X (xdec_at tX4_strike_0 3 rfl) rfl (by decide) rfl ?_
  refine v_aload_n X (xdec_at tX4_strike_0 4 rfl) rfl rfl ?_
  refine x_get (v := .int (μ.1 6 (ix p))) X hinX1 (10, ix p) (cX_P (μ := μ) (isP_lt hI q_2).1) rfl 7 (by decide) (xw_at tW_7 21 rfl) rfl rfl rfl (xdec_at tX4_strike_0 5 rfl) ?_
  refine v_istore (lv' := [some (.ref (lay (0, 0))), some (.int p), some (.int c), some (.ref (lay (10, ix p))), some (.int (μ.1 6 (ix p)))]) X (xdec_at tX4_strike_0 6 rfl) (by decide) rfl ?_
  refine v_aload_n X (xdec_at tX4_strike_0 7 rfl) rfl rfl ?_
  refine v_iload_n X (xdec_at tX4_strike_0 8 rfl) rfl rfl ?_
  refine x_put (C' := (cX Z lay ((up2 μ.1 6 (ix p) c), μ.2) tb r)) X hinX1 tyX1 tyX1_ok nmX1 (10, ix p) (cX_P (μ := μ) (isP_lt hI q_2).1) rfl 7 (by decide) (xw_at tW_7 21 rfl) rfl rfl (nb01 hc) (by rcases hc with h9 | h9 <;> rw [h9] <;> rfl) rfl (cw_P7 (μ := μ) (h := (isP_lt hI q_2).1)) (xdec_at tX4_strike_0 9 rfl) ?_
  refine v_iload X (xdec_at tX4_strike_0 10 rfl) rfl ?_
  have e9 : M_strike μ p c = ((μ.1 6 (ix p)), ((up2 (up2 μ.1 38 0 0) 6 (ix p) c), μ.2)) := by simp [M_strike, (eq_true q_2)]
  exact v_x (v_zret X hr (xdec_at tX4_strike_0 11 rfl) (Nat.le_of_ble_eq_true rfl) (Nat.le_of_ble_eq_true rfl) (hI.B (by decide)) ⟨rfl, by rw [e9], by rw [e9]; simp [up2_at], cX_eq (fun j hj => by rw [e9]; funext b; simp [up2, (com38 hj).1]) (by rw [e9])⟩)
set_option maxRecDepth 100000 in
set_option maxHeartbeats 4000000 in
theorem kyX4_account (l : Launch) (hl0 : l.stackTraces = false) (Z : xZ) (B0 : Nat) (lay : xK → Nat) (μ : Mu) (tb : Tb) (r : xK → Option xE)  (hI : RI μ) (p : Int32) : YX l yX4_account cX4_account 2 ((some FieldType.long)) 7 111 1 6 Z B0 [.ref (lay (0, 0)), .int p] lay (cX Z lay μ tb r) (fun v lay' C' => lay = lay' ∧ v = some (.long (M_account μ p).1) ∧ (M_account μ p).2.1 38 0 = 0 ∧ C' = cX Z lay (M_account μ p).2 tb r) (fun E => (E = eO ∧ (M_account μ p).2.1 38 0 = 1)) := by
  refine YX_of myX4_account.2.2 RX4 rfl [some (.ref (lay (0, 0))), some (.int p)] rfl (Nat.le_of_ble_eq_true rfl) ?_
  intro P1 P2 P3 P4 P5 P6 P7 P8 X hr hE
  refine v_aload_n X (xdec_at tX4_account_0 0 rfl) rfl rfl ?_
  refine v_iload_n X (xdec_at tX4_account_0 1 rfl) rfl rfl ?_
  refine v_xV X hE myX4_postOf [.int p] [] (kyX4_postOf l hl0 Z B0 lay μ tb r hI p) (xw_at tW_2 39 rfl) (0, 0) cX_X rfl rfl rfl rfl (by rfl) (Nat.le_of_ble_eq_true rfl) (xdec_at tX4_account_0 2 rfl) ⟨(Nat.le_of_ble_eq_true rfl), (Nat.le_of_ble_eq_true rfl)⟩ ⟨(Nat.le_of_ble_eq_true rfl), (Nat.le_of_ble_eq_true rfl)⟩ ⟨(Nat.le_of_ble_eq_true rfl), (Nat.le_of_ble_eq_true rfl)⟩ (fun E h9 => (⟨h9.1, by simp [M_account, up2_at, h9.2]⟩)) ?_
  rintro v9 lay9 C9 ⟨rfl, rfl, rfl, q_2⟩
  refine x_get (v := .long (μ.2 7 (ix p))) X hinX1 (10, ix p) (cX_P (μ := μ) (isP_lt hI q_2).1) rfl 8 (by decide) (xw_at tW_7 23 rfl) rfl rfl rfl (xdec_at tX4_account_0 3 rfl) ?_
  have e9 : M_account μ p = ((μ.2 7 (ix p)), ((up2 μ.1 38 0 0), μ.2)) := by simp [M_account, (eq_true q_2)]
  exact v_x (v_lret X hr (xdec_at tX4_account_0 4 rfl) (Nat.le_of_ble_eq_true rfl) (Nat.le_of_ble_eq_true rfl) ⟨rfl, by rw [e9], by rw [e9]; simp [up2_at], cX_eq (fun j hj => by rw [e9]; funext b; simp [up2, (com38 hj).1]) (by rw [e9])⟩)
set_option maxRecDepth 100000 in
set_option maxHeartbeats 4000000 in
theorem kyX4_till (l : Launch) (hl0 : l.stackTraces = false) (Z : xZ) (B0 : Nat) (lay : xK → Nat) (μ : Mu) (tb : Tb) (r : xK → Option xE)  (hI : RI μ) (p : Int32) : YX l yX4_till cX4_till 2 ((some FieldType.long)) 7 111 1 6 Z B0 [.ref (lay (0, 0)), .int p] lay (cX Z lay μ tb r) (fun v lay' C' => lay = lay' ∧ v = some (.long (M_till μ p).1) ∧ (M_till μ p).2.1 38 0 = 0 ∧ C' = cX Z lay (M_till μ p).2 tb r) (fun E => (E = eO ∧ (M_till μ p).2.1 38 0 = 1)) := by
  refine YX_of myX4_till.2.2 RX4 rfl [some (.ref (lay (0, 0))), some (.int p)] rfl (Nat.le_of_ble_eq_true rfl) ?_
  intro P1 P2 P3 P4 P5 P6 P7 P8 X hr hE
  refine v_aload_n X (xdec_at tX4_till_0 0 rfl) rfl rfl ?_
  refine v_iload_n X (xdec_at tX4_till_0 1 rfl) rfl rfl ?_
  refine v_xV X hE myX4_postOf [.int p] [] (kyX4_postOf l hl0 Z B0 lay μ tb r hI p) (xw_at tW_2 39 rfl) (0, 0) cX_X rfl rfl rfl rfl (by rfl) (Nat.le_of_ble_eq_true rfl) (xdec_at tX4_till_0 2 rfl) ⟨(Nat.le_of_ble_eq_true rfl), (Nat.le_of_ble_eq_true rfl)⟩ ⟨(Nat.le_of_ble_eq_true rfl), (Nat.le_of_ble_eq_true rfl)⟩ ⟨(Nat.le_of_ble_eq_true rfl), (Nat.le_of_ble_eq_true rfl)⟩ (fun E h9 => (⟨h9.1, by simp [M_till, up2_at, h9.2]⟩)) ?_
  rintro v9 lay9 C9 ⟨rfl, rfl, rfl, q_2⟩
  refine x_get (v := .long (μ.2 8 (ix p))) X hinX1 (10, ix p) (cX_P (μ := μ) (isP_lt hI q_2).1) rfl 9 (by decide) (xw_at tW_7 25 rfl) rfl rfl rfl (xdec_at tX4_till_0 3 rfl) ?_
  have e9 : M_till μ p = ((μ.2 8 (ix p)), ((up2 μ.1 38 0 0), μ.2)) := by simp [M_till, (eq_true q_2)]
  exact v_x (v_lret X hr (xdec_at tX4_till_0 4 rfl) (Nat.le_of_ble_eq_true rfl) (Nat.le_of_ble_eq_true rfl) ⟨rfl, by rw [e9], by rw [e9]; simp [up2_at], cX_eq (fun j hj => by rw [e9]; funext b; simp [up2, (com38 hj).1]) (by rw [e9])⟩)
