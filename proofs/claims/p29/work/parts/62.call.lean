/-! the law's does, call, both, mail, long0: one call of the class each -/
def bo (b : Int32) : Int32 := if b = 1 then 1 else 0
theorem bo01 (b : Int32) : bo b = 0 ∨ bo b = 1 := by
  unfold bo
  split
  · exact Or.inr rfl
  · exact Or.inl rfl
theorem b01_strike {μ : Mu} (a c : Int32) (hI : RI μ) : (M_strike μ a c).1 = 0 ∨ (M_strike μ a c).1 = 1 := by
  unfold M_strike
  split
  · exact hI.b (Or.inl rfl)
  · exact Or.inl rfl
theorem b01_close {μ : Mu} (a c : Int32) (hI : RI μ) : (M_close μ a c).1 = 0 ∨ (M_close μ a c).1 = 1 := by
  unfold M_close
  split
  · exact hI.b (Or.inl rfl)
  · exact Or.inl rfl
theorem b01_refuse {μ : Mu} (a c : Int32) (hI : RI μ) : (M_refuse μ a c).1 = 0 ∨ (M_refuse μ a c).1 = 1 := by
  unfold M_refuse
  split
  · split
    · exact Or.inl rfl
    · exact hI.b (Or.inl rfl)
  · exact Or.inl rfl
theorem b01_sample {μ : Mu} (c : Int32) (hI : RI μ) : (M_sample μ c).1 = 0 ∨ (M_sample μ c).1 = 1 := hI.b (Or.inr rfl)
theorem cX_smp {Z : xZ} {lay : xK → Nat} {μ : Mu} {tb : Tb} {r : xK → Option xE} {q : Int32} : cX Z lay (up2 μ.1 36 0 q, μ.2) tb r = cX Z lay (M_sample μ q).2 tb r := by
  refine (cX_eq (μ := (up2 μ.1 36 0 q, μ.2)) (μ' := (M_sample μ q).2) (fun j hj => ?_) rfl).symm
  show up2 (up2 μ.1 38 0 0) 36 0 q j = up2 μ.1 36 0 q j
  funext y
  rw [up2_at, up2_at, up2_at, if_neg (fun z : j = 38 ∧ y = 0 => (com38 hj).1 z.1)]
set_option maxRecDepth 100000 in
set_option maxHeartbeats 4000000 in
theorem dd_post (l : Launch) (hl0 : l.stackTraces = false) (Z : xZ) (B0 : Nat) (lay : xK → Nat) (μ : Mu) (tb : Tb) (r : xK → Option xE) (a b c d : Int32) (hI : RI μ) (hK : KI μ) : YX l yL_does cL_does 6 (some FieldType.int) 20 700 5 27 Z B0 [.ref (lay (0, 0)), .int 0, .int a, .int b, .int c, .int d] lay (cX Z lay μ tb r) (fun v lay' C' => v = some (.int ((M_post μ).1)) ∧ (M_post μ).2.1 38 0 = 0 ∧ lyB lay lay' ∧ lay' (0, 0) = lay (0, 0) ∧ C' = cX Z lay' (M_post μ).2 tb r) (fun E => (E = eS ∧ (M_post μ).2.1 38 0 = 1)) := by
  refine YX_of myL_does.2 RL rfl [some (.ref (lay (0, 0))), some (.int 0), some (.int a), some (.int b), some (.int c), some (.int d)] rfl (Nat.le_of_ble_eq_true rfl) ?_
  intro P1 P2 P3 P4 P5 P6 P7 P8 X hr hE
  refine v_iload_n X (xdec_at tL_does_0 0 rfl) rfl rfl ?_
  refine v_tableIn (tgt := 92) X (xdec_at tL_does_0 1 rfl) (by decide) (by decide) (off := 91) (by decide) (by decide) ?_
  refine v_aload_n X (xdec_at tL_does_0 2 rfl) rfl rfl ?_
  refine v_xV X hE myX4_post [] [] (kyX4_post l hl0 Z B0 lay μ tb r hI hK) (xw_at tW_6 20 rfl) (0, 0) cX_X rfl rfl rfl rfl (by rfl) (Nat.le_of_ble_eq_true rfl) (xdec_at tL_does_0 3 rfl) ⟨(Nat.le_of_ble_eq_true rfl), (Nat.le_of_ble_eq_true rfl)⟩ ⟨(Nat.le_of_ble_eq_true rfl), (Nat.le_of_ble_eq_true rfl)⟩ ⟨(Nat.le_of_ble_eq_true rfl), (Nat.le_of_ble_eq_true rfl)⟩ (fun _ z => z) ?_
  rintro v9 lay9 C9 ⟨hC9, hB, rfl, h0, rfl⟩
  exact v_x (v_iret X hr (xdec_at tL_does_0 4 rfl) (Nat.le_of_ble_eq_true rfl) (Nat.le_of_ble_eq_true rfl) ⟨rfl, h0, hB, hC9 (0, 0) (by rw [cX_X]; exact fun z => by cases z), rfl⟩)
set_option maxRecDepth 100000 in
set_option maxHeartbeats 4000000 in
theorem dd_rates (l : Launch) (hl0 : l.stackTraces = false) (Z : xZ) (B0 : Nat) (lay : xK → Nat) (μ : Mu) (tb : Tb) (r : xK → Option xE) (a b c d : Int32) (hI : RI μ) : YX l yL_does cL_does 6 (some FieldType.int) 20 700 4 24 Z B0 [.ref (lay (0, 0)), .int 1, .int a, .int b, .int c, .int d] lay (cX Z lay μ tb r) (fun v lay' C' => v = some (.int 0) ∧ (M_rates μ a b c d).1 38 0 = 0 ∧ lyB lay lay' ∧ lay' (0, 0) = lay (0, 0) ∧ C' = cX Z lay' (M_rates μ a b c d) tb r) (fun E => (E = eO ∧ (M_rates μ a b c d).1 38 0 = 1) ∨ (E = eA ∧ (M_rates μ a b c d).1 38 0 = 2)) := by
  refine YX_of myL_does.2 RL rfl [some (.ref (lay (0, 0))), some (.int 1), some (.int a), some (.int b), some (.int c), some (.int d)] rfl (Nat.le_of_ble_eq_true rfl) ?_
  intro P1 P2 P3 P4 P5 P6 P7 P8 X hr hE
  refine v_iload_n X (xdec_at tL_does_0 0 rfl) rfl rfl ?_
  refine v_tableIn (tgt := 97) X (xdec_at tL_does_0 1 rfl) (by decide) (by decide) (off := 96) (by decide) (by decide) ?_
  refine v_aload_n X (xdec_at tL_does_0 5 rfl) rfl rfl ?_
  refine v_iload_n X (xdec_at tL_does_0 6 rfl) rfl rfl ?_
  refine v_iload_n X (xdec_at tL_does_0 7 rfl) rfl rfl ?_
  refine v_iload X (xdec_at tL_does_0 8 rfl) rfl ?_
  refine v_iload X (xdec_at tL_does_0 9 rfl) rfl ?_
  refine v_xV X hE myX4_rates [.int a, .int b, .int c, .int d] [] (kyX4_rates l hl0 Z B0 lay μ tb r hI a b c d) (xw_at tW_7 37 rfl) (0, 0) cX_X rfl rfl rfl rfl (by rfl) (Nat.le_of_ble_eq_true rfl) (xdec_at tL_does_0 10 rfl) ⟨(Nat.le_of_ble_eq_true rfl), (Nat.le_of_ble_eq_true rfl)⟩ ⟨(Nat.le_of_ble_eq_true rfl), (Nat.le_of_ble_eq_true rfl)⟩ ⟨(Nat.le_of_ble_eq_true rfl), (Nat.le_of_ble_eq_true rfl)⟩ (fun _ z => z) ?_
  rintro v9 lay9 C9 ⟨rfl, rfl, h0, rfl⟩
  refine v_iconst (v := 0) X (xdec_at tL_does_0 11 rfl) (by decide) ?_
  exact v_x (v_iret X hr (xdec_at tL_does_0 12 rfl) (Nat.le_of_ble_eq_true rfl) (Nat.le_of_ble_eq_true rfl) ⟨rfl, h0, fun _ _ => rfl, rfl, rfl⟩)
set_option maxRecDepth 100000 in
set_option maxHeartbeats 4000000 in
theorem dd_due (l : Launch) (hl0 : l.stackTraces = false) (Z : xZ) (B0 : Nat) (lay : xK → Nat) (μ : Mu) (tb : Tb) (r : xK → Option xE) (a b c d : Int32) (hI : RI μ) : YX l yL_does cL_does 6 (some FieldType.int) 20 700 3 18 Z B0 [.ref (lay (0, 0)), .int 2, .int a, .int b, .int c, .int d] lay (cX Z lay μ tb r) (fun v lay' C' => v = some (.int ((M_due μ a b c).1)) ∧ (M_due μ a b c).2.1 38 0 = 0 ∧ lyB lay lay' ∧ lay' (0, 0) = lay (0, 0) ∧ C' = cX Z lay' (M_due μ a b c).2 tb r) (fun E => (E = eO ∧ (M_due μ a b c).2.1 38 0 = 1) ∨ (E = eA ∧ (M_due μ a b c).2.1 38 0 = 2)) := by
  refine YX_of myL_does.2 RL rfl [some (.ref (lay (0, 0))), some (.int 2), some (.int a), some (.int b), some (.int c), some (.int d)] rfl (Nat.le_of_ble_eq_true rfl) ?_
  intro P1 P2 P3 P4 P5 P6 P7 P8 X hr hE
  refine v_iload_n X (xdec_at tL_does_0 0 rfl) rfl rfl ?_
  refine v_tableIn (tgt := 109) X (xdec_at tL_does_0 1 rfl) (by decide) (by decide) (off := 108) (by decide) (by decide) ?_
  refine v_aload_n X (xdec_at tL_does_0 13 rfl) rfl rfl ?_
  refine v_iload_n X (xdec_at tL_does_0 14 rfl) rfl rfl ?_
  refine v_iload_n X (xdec_at tL_does_0 15 rfl) rfl rfl ?_
  refine v_iload X (xdec_at tL_does_0 16 rfl) rfl ?_
  refine v_xV X hE myX4_due [.int a, .int b, .int c] [] (kyX4_due l hl0 Z B0 lay μ tb r hI a b c) (xw_at tW_8 1 rfl) (0, 0) cX_X rfl rfl rfl rfl (by rfl) (Nat.le_of_ble_eq_true rfl) (xdec_at tL_does_0 17 rfl) ⟨(Nat.le_of_ble_eq_true rfl), (Nat.le_of_ble_eq_true rfl)⟩ ⟨(Nat.le_of_ble_eq_true rfl), (Nat.le_of_ble_eq_true rfl)⟩ ⟨(Nat.le_of_ble_eq_true rfl), (Nat.le_of_ble_eq_true rfl)⟩ (fun _ z => z) ?_
  rintro v9 lay9 C9 ⟨rfl, rfl, h0, rfl⟩
  exact v_x (v_iret X hr (xdec_at tL_does_0 18 rfl) (Nat.le_of_ble_eq_true rfl) (Nat.le_of_ble_eq_true rfl) ⟨rfl, h0, fun _ _ => rfl, rfl, rfl⟩)
set_option maxRecDepth 100000 in
set_option maxHeartbeats 4000000 in
theorem dd_charge (l : Launch) (hl0 : l.stackTraces = false) (Z : xZ) (B0 : Nat) (lay : xK → Nat) (μ : Mu) (tb : Tb) (r : xK → Option xE) (a b c d : Int32) (hI : RI μ) : YX l yL_does cL_does 6 (some FieldType.int) 20 700 2 12 Z B0 [.ref (lay (0, 0)), .int 3, .int a, .int b, .int c, .int d] lay (cX Z lay μ tb r) (fun v lay' C' => v = some (.int ((M_charge μ a b).1)) ∧ (M_charge μ a b).2.1 38 0 = 0 ∧ lyB lay lay' ∧ lay' (0, 0) = lay (0, 0) ∧ C' = cX Z lay' (M_charge μ a b).2 tb r) (fun E => (E = eO ∧ (M_charge μ a b).2.1 38 0 = 1) ∨ (E = eA ∧ (M_charge μ a b).2.1 38 0 = 2)) := by
  refine YX_of myL_does.2 RL rfl [some (.ref (lay (0, 0))), some (.int 3), some (.int a), some (.int b), some (.int c), some (.int d)] rfl (Nat.le_of_ble_eq_true rfl) ?_
  intro P1 P2 P3 P4 P5 P6 P7 P8 X hr hE
  refine v_iload_n X (xdec_at tL_does_0 0 rfl) rfl rfl ?_
  refine v_tableIn (tgt := 118) X (xdec_at tL_does_0 1 rfl) (by decide) (by decide) (off := 117) (by decide) (by decide) ?_
  refine v_aload_n X (xdec_at tL_does_0 19 rfl) rfl rfl ?_
  refine v_iload_n X (xdec_at tL_does_0 20 rfl) rfl rfl ?_
  refine v_iload_n X (xdec_at tL_does_0 21 rfl) rfl rfl ?_
  refine v_xV X hE myX4_charge [.int a, .int b] [] (kyX4_charge l hl0 Z B0 lay μ tb r hI a b) (xw_at tW_8 5 rfl) (0, 0) cX_X rfl rfl rfl rfl (by rfl) (Nat.le_of_ble_eq_true rfl) (xdec_at tL_does_0 22 rfl) ⟨(Nat.le_of_ble_eq_true rfl), (Nat.le_of_ble_eq_true rfl)⟩ ⟨(Nat.le_of_ble_eq_true rfl), (Nat.le_of_ble_eq_true rfl)⟩ ⟨(Nat.le_of_ble_eq_true rfl), (Nat.le_of_ble_eq_true rfl)⟩ (fun _ z => z) ?_
  rintro v9 lay9 C9 ⟨rfl, rfl, h0, rfl⟩
  exact v_x (v_iret X hr (xdec_at tL_does_0 23 rfl) (Nat.le_of_ble_eq_true rfl) (Nat.le_of_ble_eq_true rfl) ⟨rfl, h0, fun _ _ => rfl, rfl, rfl⟩)
set_option maxRecDepth 100000 in
set_option maxHeartbeats 4000000 in
theorem dd_coupon (l : Launch) (hl0 : l.stackTraces = false) (Z : xZ) (B0 : Nat) (lay : xK → Nat) (μ : Mu) (tb : Tb) (r : xK → Option xE) (a b c d : Int32) (hI : RI μ) : YX l yL_does cL_does 6 (some FieldType.int) 20 700 2 12 Z B0 [.ref (lay (0, 0)), .int 4, .int a, .int b, .int c, .int d] lay (cX Z lay μ tb r) (fun v lay' C' => v = some (.int ((M_coupon μ a b).1)) ∧ (M_coupon μ a b).2.1 38 0 = 0 ∧ lyB lay lay' ∧ lay' (0, 0) = lay (0, 0) ∧ C' = cX Z lay' (M_coupon μ a b).2 tb r) (fun E => (E = eO ∧ (M_coupon μ a b).2.1 38 0 = 1) ∨ (E = eA ∧ (M_coupon μ a b).2.1 38 0 = 2)) := by
  refine YX_of myL_does.2 RL rfl [some (.ref (lay (0, 0))), some (.int 4), some (.int a), some (.int b), some (.int c), some (.int d)] rfl (Nat.le_of_ble_eq_true rfl) ?_
  intro P1 P2 P3 P4 P5 P6 P7 P8 X hr hE
  refine v_iload_n X (xdec_at tL_does_0 0 rfl) rfl rfl ?_
  refine v_tableIn (tgt := 125) X (xdec_at tL_does_0 1 rfl) (by decide) (by decide) (off := 124) (by decide) (by decide) ?_
  refine v_aload_n X (xdec_at tL_does_0 24 rfl) rfl rfl ?_
  refine v_iload_n X (xdec_at tL_does_0 25 rfl) rfl rfl ?_
  refine v_iload_n X (xdec_at tL_does_0 26 rfl) rfl rfl ?_
  refine v_xV X hE myX4_coupon [.int a, .int b] [] (kyX4_coupon l hl0 Z B0 lay μ tb r hI a b) (xw_at tW_8 9 rfl) (0, 0) cX_X rfl rfl rfl rfl (by rfl) (Nat.le_of_ble_eq_true rfl) (xdec_at tL_does_0 27 rfl) ⟨(Nat.le_of_ble_eq_true rfl), (Nat.le_of_ble_eq_true rfl)⟩ ⟨(Nat.le_of_ble_eq_true rfl), (Nat.le_of_ble_eq_true rfl)⟩ ⟨(Nat.le_of_ble_eq_true rfl), (Nat.le_of_ble_eq_true rfl)⟩ (fun _ z => z) ?_
  rintro v9 lay9 C9 ⟨rfl, rfl, h0, rfl⟩
  exact v_x (v_iret X hr (xdec_at tL_does_0 28 rfl) (Nat.le_of_ble_eq_true rfl) (Nat.le_of_ble_eq_true rfl) ⟨rfl, h0, fun _ _ => rfl, rfl, rfl⟩)
set_option maxRecDepth 100000 in
set_option maxHeartbeats 4000000 in
theorem dd_strike (l : Launch) (hl0 : l.stackTraces = false) (Z : xZ) (B0 : Nat) (lay : xK → Nat) (μ : Mu) (tb : Tb) (r : xK → Option xE) (a b c d : Int32) (hI : RI μ) : YX l yL_does cL_does 6 (some FieldType.int) 20 700 1 6 Z B0 [.ref (lay (0, 0)), .int 5, .int a, .int b, .int c, .int d] lay (cX Z lay μ tb r) (fun v lay' C' => v = some (.int ((M_strike μ a (bo b)).1)) ∧ (M_strike μ a (bo b)).2.1 38 0 = 0 ∧ lyB lay lay' ∧ lay' (0, 0) = lay (0, 0) ∧ C' = cX Z lay' (M_strike μ a (bo b)).2 tb r) (fun E => (E = eO ∧ (M_strike μ a (bo b)).2.1 38 0 = 1)) := by
  refine YX_of myL_does.2 RL rfl [some (.ref (lay (0, 0))), some (.int 5), some (.int a), some (.int b), some (.int c), some (.int d)] rfl (Nat.le_of_ble_eq_true rfl) ?_
  intro P1 P2 P3 P4 P5 P6 P7 P8 X hr hE
  refine v_iload_n X (xdec_at tL_does_0 0 rfl) rfl rfl ?_
  refine v_tableIn (tgt := 132) X (xdec_at tL_does_0 1 rfl) (by decide) (by decide) (off := 131) (by decide) (by decide) ?_
  refine v_aload_n X (xdec_at tL_does_0 29 rfl) rfl rfl ?_
  refine v_iload_n X (xdec_at tL_does_0 30 rfl) rfl rfl ?_
  refine v_iload_n X (xdec_at tL_does_0 31 rfl) rfl rfl ?_
  refine v_iconst (v := 1) X (xdec_at tL_does_0 32 rfl) (by decide) ?_
  refine v_icmp_ne (tgt := 143) X (xdec_at tL_does_0 33 rfl) (by decide) (fun c_b => ?_) (fun c_b => ?_)
  · have hb : bo b = 0 := if_neg c_b
    refine v_iconst (v := 0) X (xdec_at tL_does_0 36 rfl) (by decide) ?_
    refine v_st (st' := [.int (bo b), .int a, .ref (lay (0, 0))]) (by rw [hb]) ?_
    refine v_xV X hE myX4_strike [.int a, .int (bo b)] [] (kyX4_strike l hl0 Z B0 lay μ tb r hI a (bo b) (bo01 b)) (xw_at tW_8 13 rfl) (0, 0) cX_X rfl rfl rfl rfl (by rfl) (Nat.le_of_ble_eq_true rfl) (xdec_at tL_does_0 37 rfl) ⟨(Nat.le_of_ble_eq_true rfl), (Nat.le_of_ble_eq_true rfl)⟩ ⟨(Nat.le_of_ble_eq_true rfl), (Nat.le_of_ble_eq_true rfl)⟩ ⟨(Nat.le_of_ble_eq_true rfl), (Nat.le_of_ble_eq_true rfl)⟩ (fun _ z => z) ?_
    rintro v9 lay9 C9 ⟨rfl, rfl, h0, rfl⟩
    refine v_if_eq (tgt := 154) X (xdec_at tL_does_0 38 rfl) (by decide) (fun c_v => ?_) (fun c_v => ?_)
    · refine v_iconst (v := 0) X (xdec_at tL_does_1 1 rfl) (by decide) ?_
      exact v_x (v_iret X hr (xdec_at tL_does_1 2 rfl) (Nat.le_of_ble_eq_true rfl) (Nat.le_of_ble_eq_true rfl) ⟨by rw [show (M_strike μ a (bo b)).1 = 0 from c_v], h0, fun _ _ => rfl, rfl, rfl⟩)
    · refine v_iconst (v := 1) X (xdec_at tL_does_0 39 rfl) (by decide) ?_
      refine v_goto (tgt := 155) X (xdec_at tL_does_1 0 rfl) (by decide) ?_
      exact v_x (v_iret X hr (xdec_at tL_does_1 2 rfl) (Nat.le_of_ble_eq_true rfl) (Nat.le_of_ble_eq_true rfl) ⟨by rw [show (M_strike μ a (bo b)).1 = 1 from (b01_strike a (bo b) hI).resolve_left c_v], h0, fun _ _ => rfl, rfl, rfl⟩)
  · have hb : bo b = 1 := if_pos c_b
    refine v_iconst (v := 1) X (xdec_at tL_does_0 34 rfl) (by decide) ?_
    refine v_goto (tgt := 144) X (xdec_at tL_does_0 35 rfl) (by decide) ?_
    refine v_st (st' := [.int (bo b), .int a, .ref (lay (0, 0))]) (by rw [hb]) ?_
    refine v_xV X hE myX4_strike [.int a, .int (bo b)] [] (kyX4_strike l hl0 Z B0 lay μ tb r hI a (bo b) (bo01 b)) (xw_at tW_8 13 rfl) (0, 0) cX_X rfl rfl rfl rfl (by rfl) (Nat.le_of_ble_eq_true rfl) (xdec_at tL_does_0 37 rfl) ⟨(Nat.le_of_ble_eq_true rfl), (Nat.le_of_ble_eq_true rfl)⟩ ⟨(Nat.le_of_ble_eq_true rfl), (Nat.le_of_ble_eq_true rfl)⟩ ⟨(Nat.le_of_ble_eq_true rfl), (Nat.le_of_ble_eq_true rfl)⟩ (fun _ z => z) ?_
    rintro v9 lay9 C9 ⟨rfl, rfl, h0, rfl⟩
    refine v_if_eq (tgt := 154) X (xdec_at tL_does_0 38 rfl) (by decide) (fun c_v => ?_) (fun c_v => ?_)
    · refine v_iconst (v := 0) X (xdec_at tL_does_1 1 rfl) (by decide) ?_
      exact v_x (v_iret X hr (xdec_at tL_does_1 2 rfl) (Nat.le_of_ble_eq_true rfl) (Nat.le_of_ble_eq_true rfl) ⟨by rw [show (M_strike μ a (bo b)).1 = 0 from c_v], h0, fun _ _ => rfl, rfl, rfl⟩)
    · refine v_iconst (v := 1) X (xdec_at tL_does_0 39 rfl) (by decide) ?_
      refine v_goto (tgt := 155) X (xdec_at tL_does_1 0 rfl) (by decide) ?_
      exact v_x (v_iret X hr (xdec_at tL_does_1 2 rfl) (Nat.le_of_ble_eq_true rfl) (Nat.le_of_ble_eq_true rfl) ⟨by rw [show (M_strike μ a (bo b)).1 = 1 from (b01_strike a (bo b) hI).resolve_left c_v], h0, fun _ _ => rfl, rfl, rfl⟩)
set_option maxRecDepth 100000 in
set_option maxHeartbeats 4000000 in
theorem dd_leg (l : Launch) (hl0 : l.stackTraces = false) (Z : xZ) (B0 : Nat) (lay : xK → Nat) (μ : Mu) (tb : Tb) (r : xK → Option xE) (a b c d : Int32) (hI : RI μ) (hK : KI μ) : YX l yL_does cL_does 6 (some FieldType.int) 20 700 5 28 Z B0 [.ref (lay (0, 0)), .int 6, .int a, .int b, .int c, .int d] lay (cX Z lay μ tb r) (fun v lay' C' => v = some (.int ((M_leg μ a b c).1)) ∧ (M_leg μ a b c).2.1 38 0 = 0 ∧ lyB lay lay' ∧ lay' (0, 0) = lay (0, 0) ∧ C' = cX Z lay' (M_leg μ a b c).2 (K_reckon (up2 (up2 (up2 (up2 μ.1 11 (ix (μ.1 10 0)) a) 12 (ix (μ.1 10 0)) b) 13 (ix (μ.1 10 0)) c) 10 0 (μ.1 10 0 + 1), μ.2) tb.1, tb.2) r) (fun E => (E = eO ∧ (M_leg μ a b c).2.1 38 0 = 1) ∨ (E = eA ∧ (M_leg μ a b c).2.1 38 0 = 2) ∨ (E = eS ∧ (M_leg μ a b c).2.1 38 0 = 3)) := by
  refine YX_of myL_does.2 RL rfl [some (.ref (lay (0, 0))), some (.int 6), some (.int a), some (.int b), some (.int c), some (.int d)] rfl (Nat.le_of_ble_eq_true rfl) ?_
  intro P1 P2 P3 P4 P5 P6 P7 P8 X hr hE
  refine v_iload_n X (xdec_at tL_does_0 0 rfl) rfl rfl ?_
  refine v_tableIn (tgt := 156) X (xdec_at tL_does_0 1 rfl) (by decide) (by decide) (off := 155) (by decide) (by decide) ?_
  refine v_aload_n X (xdec_at tL_does_1 3 rfl) rfl rfl ?_
  refine v_iload_n X (xdec_at tL_does_1 4 rfl) rfl rfl ?_
  refine v_iload_n X (xdec_at tL_does_1 5 rfl) rfl rfl ?_
  refine v_iload X (xdec_at tL_does_1 6 rfl) rfl ?_
  refine v_xV X hE myX4_leg [.int a, .int b, .int c] [] (kyX4_leg l hl0 Z B0 lay μ tb r hI hK a b c) (xw_at tW_8 17 rfl) (0, 0) cX_X rfl rfl rfl rfl (by rfl) (Nat.le_of_ble_eq_true rfl) (xdec_at tL_does_1 7 rfl) ⟨(Nat.le_of_ble_eq_true rfl), (Nat.le_of_ble_eq_true rfl)⟩ ⟨(Nat.le_of_ble_eq_true rfl), (Nat.le_of_ble_eq_true rfl)⟩ ⟨(Nat.le_of_ble_eq_true rfl), (Nat.le_of_ble_eq_true rfl)⟩ (fun _ z => z) ?_
  rintro v9 lay9 C9 ⟨hC9, hB, rfl, h0, rfl⟩
  exact v_x (v_iret X hr (xdec_at tL_does_1 8 rfl) (Nat.le_of_ble_eq_true rfl) (Nat.le_of_ble_eq_true rfl) ⟨rfl, h0, hB, hC9 (0, 0) (by rw [cX_X]; exact fun z => by cases z), rfl⟩)
set_option maxRecDepth 100000 in
set_option maxHeartbeats 4000000 in
theorem dd_close (l : Launch) (hl0 : l.stackTraces = false) (Z : xZ) (B0 : Nat) (lay : xK → Nat) (μ : Mu) (tb : Tb) (r : xK → Option xE) (a b c d : Int32) (hI : RI μ) (hK : KI μ) : YX l yL_does cL_does 6 (some FieldType.int) 20 700 1 6 Z B0 [.ref (lay (0, 0)), .int 7, .int a, .int b, .int c, .int d] lay (cX Z lay μ tb r) (fun v lay' C' => v = some (.int ((M_close μ a (bo b)).1)) ∧ (M_close μ a (bo b)).2.1 38 0 = 0 ∧ lyB lay lay' ∧ lay' (0, 0) = lay (0, 0) ∧ C' = cX Z lay' (M_close μ a (bo b)).2 (if μ.1 14 (ix a) = bo b then tb.1 else K_reckon (up2 μ.1 14 (ix a) (bo b), μ.2) tb.1, tb.2) r) (fun E => (E = eO ∧ (M_close μ a (bo b)).2.1 38 0 = 1)) := by
  refine YX_of myL_does.2 RL rfl [some (.ref (lay (0, 0))), some (.int 7), some (.int a), some (.int b), some (.int c), some (.int d)] rfl (Nat.le_of_ble_eq_true rfl) ?_
  intro P1 P2 P3 P4 P5 P6 P7 P8 X hr hE
  refine v_iload_n X (xdec_at tL_does_0 0 rfl) rfl rfl ?_
  refine v_tableIn (tgt := 165) X (xdec_at tL_does_0 1 rfl) (by decide) (by decide) (off := 164) (by decide) (by decide) ?_
  refine v_aload_n X (xdec_at tL_does_1 9 rfl) rfl rfl ?_
  refine v_iload_n X (xdec_at tL_does_1 10 rfl) rfl rfl ?_
  refine v_iload_n X (xdec_at tL_does_1 11 rfl) rfl rfl ?_
  refine v_iconst (v := 1) X (xdec_at tL_does_1 12 rfl) (by decide) ?_
  refine v_icmp_ne (tgt := 176) X (xdec_at tL_does_1 13 rfl) (by decide) (fun c_b => ?_) (fun c_b => ?_)
  · have hb : bo b = 0 := if_neg c_b
    refine v_iconst (v := 0) X (xdec_at tL_does_1 16 rfl) (by decide) ?_
    refine v_st (st' := [.int (bo b), .int a, .ref (lay (0, 0))]) (by rw [hb]) ?_
    refine v_xV X hE myX4_close [.int a, .int (bo b)] [] (kyX4_close l hl0 Z B0 lay μ tb r hI a (bo b) hK.1 (bo01 b)) (xw_at tW_9 5 rfl) (0, 0) cX_X rfl rfl rfl rfl (by rfl) (Nat.le_of_ble_eq_true rfl) (xdec_at tL_does_1 17 rfl) ⟨(Nat.le_of_ble_eq_true rfl), (Nat.le_of_ble_eq_true rfl)⟩ ⟨(Nat.le_of_ble_eq_true rfl), (Nat.le_of_ble_eq_true rfl)⟩ ⟨(Nat.le_of_ble_eq_true rfl), (Nat.le_of_ble_eq_true rfl)⟩ (fun _ z => z) ?_
    rintro v9 lay9 C9 ⟨rfl, rfl, h0, rfl⟩
    refine v_if_eq (tgt := 187) X (xdec_at tL_does_1 18 rfl) (by decide) (fun c_v => ?_) (fun c_v => ?_)
    · refine v_iconst (v := 0) X (xdec_at tL_does_1 21 rfl) (by decide) ?_
      exact v_x (v_iret X hr (xdec_at tL_does_1 22 rfl) (Nat.le_of_ble_eq_true rfl) (Nat.le_of_ble_eq_true rfl) ⟨by rw [show (M_close μ a (bo b)).1 = 0 from c_v], h0, fun _ _ => rfl, rfl, rfl⟩)
    · refine v_iconst (v := 1) X (xdec_at tL_does_1 19 rfl) (by decide) ?_
      refine v_goto (tgt := 188) X (xdec_at tL_does_1 20 rfl) (by decide) ?_
      exact v_x (v_iret X hr (xdec_at tL_does_1 22 rfl) (Nat.le_of_ble_eq_true rfl) (Nat.le_of_ble_eq_true rfl) ⟨by rw [show (M_close μ a (bo b)).1 = 1 from (b01_close a (bo b) hI).resolve_left c_v], h0, fun _ _ => rfl, rfl, rfl⟩)
  · have hb : bo b = 1 := if_pos c_b
    refine v_iconst (v := 1) X (xdec_at tL_does_1 14 rfl) (by decide) ?_
    refine v_goto (tgt := 177) X (xdec_at tL_does_1 15 rfl) (by decide) ?_
    refine v_st (st' := [.int (bo b), .int a, .ref (lay (0, 0))]) (by rw [hb]) ?_
    refine v_xV X hE myX4_close [.int a, .int (bo b)] [] (kyX4_close l hl0 Z B0 lay μ tb r hI a (bo b) hK.1 (bo01 b)) (xw_at tW_9 5 rfl) (0, 0) cX_X rfl rfl rfl rfl (by rfl) (Nat.le_of_ble_eq_true rfl) (xdec_at tL_does_1 17 rfl) ⟨(Nat.le_of_ble_eq_true rfl), (Nat.le_of_ble_eq_true rfl)⟩ ⟨(Nat.le_of_ble_eq_true rfl), (Nat.le_of_ble_eq_true rfl)⟩ ⟨(Nat.le_of_ble_eq_true rfl), (Nat.le_of_ble_eq_true rfl)⟩ (fun _ z => z) ?_
    rintro v9 lay9 C9 ⟨rfl, rfl, h0, rfl⟩
    refine v_if_eq (tgt := 187) X (xdec_at tL_does_1 18 rfl) (by decide) (fun c_v => ?_) (fun c_v => ?_)
    · refine v_iconst (v := 0) X (xdec_at tL_does_1 21 rfl) (by decide) ?_
      exact v_x (v_iret X hr (xdec_at tL_does_1 22 rfl) (Nat.le_of_ble_eq_true rfl) (Nat.le_of_ble_eq_true rfl) ⟨by rw [show (M_close μ a (bo b)).1 = 0 from c_v], h0, fun _ _ => rfl, rfl, rfl⟩)
    · refine v_iconst (v := 1) X (xdec_at tL_does_1 19 rfl) (by decide) ?_
      refine v_goto (tgt := 188) X (xdec_at tL_does_1 20 rfl) (by decide) ?_
      exact v_x (v_iret X hr (xdec_at tL_does_1 22 rfl) (Nat.le_of_ble_eq_true rfl) (Nat.le_of_ble_eq_true rfl) ⟨by rw [show (M_close μ a (bo b)).1 = 1 from (b01_close a (bo b) hI).resolve_left c_v], h0, fun _ _ => rfl, rfl, rfl⟩)
set_option maxRecDepth 100000 in
set_option maxHeartbeats 4000000 in
theorem dd_days (l : Launch) (hl0 : l.stackTraces = false) (Z : xZ) (B0 : Nat) (lay : xK → Nat) (μ : Mu) (tb : Tb) (r : xK → Option xE) (a b c d : Int32) (hI : RI μ) (hTS : TS μ tb.1) : YX l yL_does cL_does 6 (some FieldType.int) 20 700 2 12 Z B0 [.ref (lay (0, 0)), .int 8, .int a, .int b, .int c, .int d] lay (cX Z lay μ tb r) (fun v lay' C' => v = some (.int ((M_told μ a b).1)) ∧ (M_told μ a b).2.1 38 0 = 0 ∧ lyB lay lay' ∧ lay' (0, 0) = lay (0, 0) ∧ C' = cX Z lay' (M_told μ a b).2 tb r) (fun E => (E = eO ∧ (M_told μ a b).2.1 38 0 = 1)) := by
  refine YX_of myL_does.2 RL rfl [some (.ref (lay (0, 0))), some (.int 8), some (.int a), some (.int b), some (.int c), some (.int d)] rfl (Nat.le_of_ble_eq_true rfl) ?_
  intro P1 P2 P3 P4 P5 P6 P7 P8 X hr hE
  refine v_iload_n X (xdec_at tL_does_0 0 rfl) rfl rfl ?_
  refine v_tableIn (tgt := 189) X (xdec_at tL_does_0 1 rfl) (by decide) (by decide) (off := 188) (by decide) (by decide) ?_
  refine v_aload_n X (xdec_at tL_does_1 23 rfl) rfl rfl ?_
  refine v_iload_n X (xdec_at tL_does_1 24 rfl) rfl rfl ?_
  refine v_iload_n X (xdec_at tL_does_1 25 rfl) rfl rfl ?_
  refine v_xV X hE myX4_days [.int a, .int b] [] (kyX4_days l hl0 Z B0 lay μ tb r hI a b hTS) (xw_at tW_4 14 rfl) (0, 0) cX_X rfl rfl rfl rfl (by rfl) (Nat.le_of_ble_eq_true rfl) (xdec_at tL_does_1 26 rfl) ⟨(Nat.le_of_ble_eq_true rfl), (Nat.le_of_ble_eq_true rfl)⟩ ⟨(Nat.le_of_ble_eq_true rfl), (Nat.le_of_ble_eq_true rfl)⟩ ⟨(Nat.le_of_ble_eq_true rfl), (Nat.le_of_ble_eq_true rfl)⟩ (fun _ z => z) ?_
  rintro v9 lay9 C9 ⟨rfl, rfl, h0, rfl⟩
  exact v_x (v_iret X hr (xdec_at tL_does_1 27 rfl) (Nat.le_of_ble_eq_true rfl) (Nat.le_of_ble_eq_true rfl) ⟨rfl, h0, fun _ _ => rfl, rfl, rfl⟩)
set_option maxRecDepth 100000 in
set_option maxHeartbeats 4000000 in
theorem dd_daysAnew (l : Launch) (hl0 : l.stackTraces = false) (Z : xZ) (B0 : Nat) (lay : xK → Nat) (μ : Mu) (tb : Tb) (r : xK → Option xE) (a b c d : Int32) (hI : RI μ) (hTS : TS μ tb.1) : YX l yL_does cL_does 6 (some FieldType.int) 20 700 2 12 Z B0 [.ref (lay (0, 0)), .int 9, .int a, .int b, .int c, .int d] lay (cX Z lay μ tb r) (fun v lay' C' => v = some (.int ((M_told μ a b).1)) ∧ (M_told μ a b).2.1 38 0 = 0 ∧ lyB lay lay' ∧ lay' (0, 0) = lay (0, 0) ∧ C' = cX Z lay' (M_told μ a b).2 tb r) (fun E => (E = eO ∧ (M_told μ a b).2.1 38 0 = 1)) := by
  refine YX_of myL_does.2 RL rfl [some (.ref (lay (0, 0))), some (.int 9), some (.int a), some (.int b), some (.int c), some (.int d)] rfl (Nat.le_of_ble_eq_true rfl) ?_
  intro P1 P2 P3 P4 P5 P6 P7 P8 X hr hE
  refine v_iload_n X (xdec_at tL_does_0 0 rfl) rfl rfl ?_
  refine v_tableIn (tgt := 196) X (xdec_at tL_does_0 1 rfl) (by decide) (by decide) (off := 195) (by decide) (by decide) ?_
  refine v_aload_n X (xdec_at tL_does_1 28 rfl) rfl rfl ?_
  refine v_iload_n X (xdec_at tL_does_1 29 rfl) rfl rfl ?_
  refine v_iload_n X (xdec_at tL_does_1 30 rfl) rfl rfl ?_
  refine v_xV X hE myX4_daysAnew [.int a, .int b] [] (kyX4_daysAnew l hl0 Z B0 lay μ tb r hI a b hTS) (xw_at tW_9 17 rfl) (0, 0) cX_X rfl rfl rfl rfl (by rfl) (Nat.le_of_ble_eq_true rfl) (xdec_at tL_does_1 31 rfl) ⟨(Nat.le_of_ble_eq_true rfl), (Nat.le_of_ble_eq_true rfl)⟩ ⟨(Nat.le_of_ble_eq_true rfl), (Nat.le_of_ble_eq_true rfl)⟩ ⟨(Nat.le_of_ble_eq_true rfl), (Nat.le_of_ble_eq_true rfl)⟩ (fun _ z => z) ?_
  rintro v9 lay9 C9 ⟨rfl, rfl, h0, rfl⟩
  exact v_x (v_iret X hr (xdec_at tL_does_1 32 rfl) (Nat.le_of_ble_eq_true rfl) (Nat.le_of_ble_eq_true rfl) ⟨rfl, h0, fun _ _ => rfl, rfl, rfl⟩)
set_option maxRecDepth 100000 in
set_option maxHeartbeats 4000000 in
theorem dd_next (l : Launch) (hl0 : l.stackTraces = false) (Z : xZ) (B0 : Nat) (lay : xK → Nat) (μ : Mu) (tb : Tb) (r : xK → Option xE) (a b c d : Int32) (hI : RI μ) (hTS : TS μ tb.1) : YX l yL_does cL_does 6 (some FieldType.int) 20 700 2 12 Z B0 [.ref (lay (0, 0)), .int 10, .int a, .int b, .int c, .int d] lay (cX Z lay μ tb r) (fun v lay' C' => v = some (.int ((M_next μ a b).1)) ∧ (M_next μ a b).2.1 38 0 = 0 ∧ lyB lay lay' ∧ lay' (0, 0) = lay (0, 0) ∧ C' = cX Z lay' (M_next μ a b).2 tb r) (fun E => (E = eO ∧ (M_next μ a b).2.1 38 0 = 1)) := by
  refine YX_of myL_does.2 RL rfl [some (.ref (lay (0, 0))), some (.int 10), some (.int a), some (.int b), some (.int c), some (.int d)] rfl (Nat.le_of_ble_eq_true rfl) ?_
  intro P1 P2 P3 P4 P5 P6 P7 P8 X hr hE
  refine v_iload_n X (xdec_at tL_does_0 0 rfl) rfl rfl ?_
  refine v_tableIn (tgt := 203) X (xdec_at tL_does_0 1 rfl) (by decide) (by decide) (off := 202) (by decide) (by decide) ?_
  refine v_aload_n X (xdec_at tL_does_1 33 rfl) rfl rfl ?_
  refine v_iload_n X (xdec_at tL_does_1 34 rfl) rfl rfl ?_
  refine v_iload_n X (xdec_at tL_does_1 35 rfl) rfl rfl ?_
  refine v_xV X hE myX4_next [.int a, .int b] [] (kyX4_next l hl0 Z B0 lay μ tb r hI a b hTS) (xw_at tW_4 25 rfl) (0, 0) cX_X rfl rfl rfl rfl (by rfl) (Nat.le_of_ble_eq_true rfl) (xdec_at tL_does_1 36 rfl) ⟨(Nat.le_of_ble_eq_true rfl), (Nat.le_of_ble_eq_true rfl)⟩ ⟨(Nat.le_of_ble_eq_true rfl), (Nat.le_of_ble_eq_true rfl)⟩ ⟨(Nat.le_of_ble_eq_true rfl), (Nat.le_of_ble_eq_true rfl)⟩ (fun _ z => z) ?_
  rintro v9 lay9 C9 ⟨rfl, rfl, h0, rfl⟩
  exact v_x (v_iret X hr (xdec_at tL_does_1 37 rfl) (Nat.le_of_ble_eq_true rfl) (Nat.le_of_ble_eq_true rfl) ⟨rfl, h0, fun _ _ => rfl, rfl, rfl⟩)
set_option maxRecDepth 100000 in
set_option maxHeartbeats 4000000 in
theorem dd_redirect (l : Launch) (hl0 : l.stackTraces = false) (Z : xZ) (B0 : Nat) (lay : xK → Nat) (μ : Mu) (tb : Tb) (r : xK → Option xE) (a b c d : Int32) (hI : RI μ) (hK : KI μ) : YX l yL_does cL_does 6 (some FieldType.int) 20 700 3 18 Z B0 [.ref (lay (0, 0)), .int 11, .int a, .int b, .int c, .int d] lay (cX Z lay μ tb r) (fun v lay' C' => v = some (.int ((M_redirect μ a b).1)) ∧ (M_redirect μ a b).2.1 38 0 = 0 ∧ lyB lay lay' ∧ lay' (0, 0) = lay (0, 0) ∧ C' = cX Z lay' (M_redirect μ a b).2 tb r) (fun E => (E = eO ∧ (M_redirect μ a b).2.1 38 0 = 1) ∨ (E = eA ∧ (M_redirect μ a b).2.1 38 0 = 2) ∨ (E = eS ∧ (M_redirect μ a b).2.1 38 0 = 3)) := by
  refine YX_of myL_does.2 RL rfl [some (.ref (lay (0, 0))), some (.int 11), some (.int a), some (.int b), some (.int c), some (.int d)] rfl (Nat.le_of_ble_eq_true rfl) ?_
  intro P1 P2 P3 P4 P5 P6 P7 P8 X hr hE
  refine v_iload_n X (xdec_at tL_does_0 0 rfl) rfl rfl ?_
  refine v_tableIn (tgt := 210) X (xdec_at tL_does_0 1 rfl) (by decide) (by decide) (off := 209) (by decide) (by decide) ?_
  refine v_aload_n X (xdec_at tL_does_1 38 rfl) rfl rfl ?_
  refine v_iload_n X (xdec_at tL_does_1 39 rfl) rfl rfl ?_
  refine v_iload_n X (xdec_at tL_does_2 0 rfl) rfl rfl ?_
  refine v_xV X hE myX4_redirect [.int a, .int b] [] (kyX4_redirect l hl0 Z B0 lay μ tb r hI a b hK) (xw_at tW_9 28 rfl) (0, 0) cX_X rfl rfl rfl rfl (by rfl) (Nat.le_of_ble_eq_true rfl) (xdec_at tL_does_2 1 rfl) ⟨(Nat.le_of_ble_eq_true rfl), (Nat.le_of_ble_eq_true rfl)⟩ ⟨(Nat.le_of_ble_eq_true rfl), (Nat.le_of_ble_eq_true rfl)⟩ ⟨(Nat.le_of_ble_eq_true rfl), (Nat.le_of_ble_eq_true rfl)⟩ (fun _ z => z) ?_
  rintro v9 lay9 C9 ⟨rfl, rfl, h0, rfl⟩
  exact v_x (v_iret X hr (xdec_at tL_does_2 2 rfl) (Nat.le_of_ble_eq_true rfl) (Nat.le_of_ble_eq_true rfl) ⟨rfl, h0, fun _ _ => rfl, rfl, rfl⟩)
set_option maxRecDepth 100000 in
set_option maxHeartbeats 4000000 in
theorem dd_refuse (l : Launch) (hl0 : l.stackTraces = false) (Z : xZ) (B0 : Nat) (lay : xK → Nat) (μ : Mu) (tb : Tb) (r : xK → Option xE) (a b c d : Int32) (hI : RI μ) : YX l yL_does cL_does 6 (some FieldType.int) 20 700 2 12 Z B0 [.ref (lay (0, 0)), .int 12, .int a, .int b, .int c, .int d] lay (cX Z lay μ tb r) (fun v lay' C' => v = some (.int ((M_refuse μ a (bo b)).1)) ∧ (M_refuse μ a (bo b)).2.1 38 0 = 0 ∧ lyB lay lay' ∧ lay' (0, 0) = lay (0, 0) ∧ C' = cX Z lay' (M_refuse μ a (bo b)).2 tb r) (fun E => (E = eO ∧ (M_refuse μ a (bo b)).2.1 38 0 = 1) ∨ (E = eS ∧ (M_refuse μ a (bo b)).2.1 38 0 = 2)) := by
  refine YX_of myL_does.2 RL rfl [some (.ref (lay (0, 0))), some (.int 12), some (.int a), some (.int b), some (.int c), some (.int d)] rfl (Nat.le_of_ble_eq_true rfl) ?_
  intro P1 P2 P3 P4 P5 P6 P7 P8 X hr hE
  refine v_iload_n X (xdec_at tL_does_0 0 rfl) rfl rfl ?_
  refine v_tableIn (tgt := 217) X (xdec_at tL_does_0 1 rfl) (by decide) (by decide) (off := 216) (by decide) (by decide) ?_
  refine v_aload_n X (xdec_at tL_does_2 3 rfl) rfl rfl ?_
  refine v_iload_n X (xdec_at tL_does_2 4 rfl) rfl rfl ?_
  refine v_iload_n X (xdec_at tL_does_2 5 rfl) rfl rfl ?_
  refine v_iconst (v := 1) X (xdec_at tL_does_2 6 rfl) (by decide) ?_
  refine v_icmp_ne (tgt := 228) X (xdec_at tL_does_2 7 rfl) (by decide) (fun c_b => ?_) (fun c_b => ?_)
  · have hb : bo b = 0 := if_neg c_b
    refine v_iconst (v := 0) X (xdec_at tL_does_2 10 rfl) (by decide) ?_
    refine v_st (st' := [.int (bo b), .int a, .ref (lay (0, 0))]) (by rw [hb]) ?_
    refine v_xV X hE myX4_refuse [.int a, .int (bo b)] [] (kyX4_refuse l hl0 Z B0 lay μ tb r hI a (bo b) (bo01 b)) (xw_at tW_9 39 rfl) (0, 0) cX_X rfl rfl rfl rfl (by rfl) (Nat.le_of_ble_eq_true rfl) (xdec_at tL_does_2 11 rfl) ⟨(Nat.le_of_ble_eq_true rfl), (Nat.le_of_ble_eq_true rfl)⟩ ⟨(Nat.le_of_ble_eq_true rfl), (Nat.le_of_ble_eq_true rfl)⟩ ⟨(Nat.le_of_ble_eq_true rfl), (Nat.le_of_ble_eq_true rfl)⟩ (fun _ z => z) ?_
    rintro v9 lay9 C9 ⟨rfl, rfl, h0, rfl⟩
    refine v_if_eq (tgt := 239) X (xdec_at tL_does_2 12 rfl) (by decide) (fun c_v => ?_) (fun c_v => ?_)
    · refine v_iconst (v := 0) X (xdec_at tL_does_2 15 rfl) (by decide) ?_
      exact v_x (v_iret X hr (xdec_at tL_does_2 16 rfl) (Nat.le_of_ble_eq_true rfl) (Nat.le_of_ble_eq_true rfl) ⟨by rw [show (M_refuse μ a (bo b)).1 = 0 from c_v], h0, fun _ _ => rfl, rfl, rfl⟩)
    · refine v_iconst (v := 1) X (xdec_at tL_does_2 13 rfl) (by decide) ?_
      refine v_goto (tgt := 240) X (xdec_at tL_does_2 14 rfl) (by decide) ?_
      exact v_x (v_iret X hr (xdec_at tL_does_2 16 rfl) (Nat.le_of_ble_eq_true rfl) (Nat.le_of_ble_eq_true rfl) ⟨by rw [show (M_refuse μ a (bo b)).1 = 1 from (b01_refuse a (bo b) hI).resolve_left c_v], h0, fun _ _ => rfl, rfl, rfl⟩)
  · have hb : bo b = 1 := if_pos c_b
    refine v_iconst (v := 1) X (xdec_at tL_does_2 8 rfl) (by decide) ?_
    refine v_goto (tgt := 229) X (xdec_at tL_does_2 9 rfl) (by decide) ?_
    refine v_st (st' := [.int (bo b), .int a, .ref (lay (0, 0))]) (by rw [hb]) ?_
    refine v_xV X hE myX4_refuse [.int a, .int (bo b)] [] (kyX4_refuse l hl0 Z B0 lay μ tb r hI a (bo b) (bo01 b)) (xw_at tW_9 39 rfl) (0, 0) cX_X rfl rfl rfl rfl (by rfl) (Nat.le_of_ble_eq_true rfl) (xdec_at tL_does_2 11 rfl) ⟨(Nat.le_of_ble_eq_true rfl), (Nat.le_of_ble_eq_true rfl)⟩ ⟨(Nat.le_of_ble_eq_true rfl), (Nat.le_of_ble_eq_true rfl)⟩ ⟨(Nat.le_of_ble_eq_true rfl), (Nat.le_of_ble_eq_true rfl)⟩ (fun _ z => z) ?_
    rintro v9 lay9 C9 ⟨rfl, rfl, h0, rfl⟩
    refine v_if_eq (tgt := 239) X (xdec_at tL_does_2 12 rfl) (by decide) (fun c_v => ?_) (fun c_v => ?_)
    · refine v_iconst (v := 0) X (xdec_at tL_does_2 15 rfl) (by decide) ?_
      exact v_x (v_iret X hr (xdec_at tL_does_2 16 rfl) (Nat.le_of_ble_eq_true rfl) (Nat.le_of_ble_eq_true rfl) ⟨by rw [show (M_refuse μ a (bo b)).1 = 0 from c_v], h0, fun _ _ => rfl, rfl, rfl⟩)
    · refine v_iconst (v := 1) X (xdec_at tL_does_2 13 rfl) (by decide) ?_
      refine v_goto (tgt := 240) X (xdec_at tL_does_2 14 rfl) (by decide) ?_
      exact v_x (v_iret X hr (xdec_at tL_does_2 16 rfl) (Nat.le_of_ble_eq_true rfl) (Nat.le_of_ble_eq_true rfl) ⟨by rw [show (M_refuse μ a (bo b)).1 = 1 from (b01_refuse a (bo b) hI).resolve_left c_v], h0, fun _ _ => rfl, rfl, rfl⟩)
set_option maxRecDepth 100000 in
set_option maxHeartbeats 4000000 in
theorem dd_go (l : Launch) (hl0 : l.stackTraces = false) (Z : xZ) (B0 : Nat) (lay : xK → Nat) (μ : Mu) (tb : Tb) (r : xK → Option xE) (hr2 : r (200, 0) = none) (a b c d : Int32) (M : Nat) (hG : GI μ tb M) (hG0 : GI (th μ 0) tb M) (hM : M ≤ 3600) (ce sl : Nat) (hce1 : 1 ≤ ce ∧ 6 ≤ sl) (hce : inR a 1 200 → 1 + Pp (KT_days (ix a) (0, th μ 0) tb) ≤ ce + Pp tb ∧ 6 + 2 * Pp (KT_days (ix a) (0, th μ 0) tb) ≤ sl + 2 * Pp tb) : YX l yL_does cL_does 6 (some FieldType.int) 20 700 ce sl Z B0 [.ref (lay (0, 0)), .int 13, .int a, .int b, .int c, .int d] lay (cX Z lay μ tb r) (fun v lay' C' => v = some (.int ((M_go μ a).1)) ∧ (M_go μ a).2.1 38 0 = 0 ∧ lyB lay lay' ∧ lay' (0, 0) = lay (0, 0) ∧ C' = cX Z lay' (M_go μ a).2 (KT_days (ix a) (0, th μ 0) tb) r) (fun E => (E = eA ∧ (M_go μ a).2.1 38 0 = 1)) := by
  refine YX_of myL_does.2 RL rfl [some (.ref (lay (0, 0))), some (.int 13), some (.int a), some (.int b), some (.int c), some (.int d)] rfl (Nat.le_of_ble_eq_true rfl) ?_
  intro P1 P2 P3 P4 P5 P6 P7 P8 X hr hE
  refine v_iload_n X (xdec_at tL_does_0 0 rfl) rfl rfl ?_
  refine v_tableIn (tgt := 241) X (xdec_at tL_does_0 1 rfl) (by decide) (by decide) (off := 240) (by decide) (by decide) ?_
  refine v_aload_n X (xdec_at tL_does_2 17 rfl) rfl rfl ?_
  refine v_iload_n X (xdec_at tL_does_2 18 rfl) rfl rfl ?_
  refine v_xV X hE myX4_go [.int a] [] (kyX4_go l hl0 Z B0 lay μ tb r M hG hG0 hM hr2 a ce sl hce1 hce) (xw_at tW_10 3 rfl) (0, 0) cX_X rfl rfl rfl rfl (by rfl) (Nat.le_of_ble_eq_true rfl) (xdec_at tL_does_2 19 rfl) ⟨(Nat.le_of_ble_eq_true rfl), (Nat.le_of_ble_eq_true rfl)⟩ ⟨by show 0 + ce ≤ ce; omega, by show 0 + sl ≤ sl; omega⟩ ⟨by show 0 + ce ≤ ce; omega, by show 0 + sl ≤ sl; omega⟩ (fun _ z => z) ?_
  rintro v9 lay9 C9 ⟨hK9, rfl, h0, rfl⟩
  exact v_x (v_iret X hr (xdec_at tL_does_2 20 rfl) (by show 0 + ce ≤ ce; omega) (by show 0 + sl ≤ sl; omega) ⟨rfl, h0, fun k hk => hK9 k (by omega), hK9 (0, 0) (by decide), rfl⟩)
set_option maxRecDepth 100000 in
set_option maxHeartbeats 4000000 in
theorem dd_lose (l : Launch) (hl0 : l.stackTraces = false) (Z : xZ) (B0 : Nat) (lay : xK → Nat) (μ : Mu) (tb : Tb) (r : xK → Option xE) (a b c d : Int32) (hI : RI μ) (cl : Nat → Nat → Nat) (hH : HR μ tb cl) : YX l yL_does cL_does 6 (some FieldType.int) 20 700 2 12 Z B0 [.ref (lay (0, 0)), .int 14, .int a, .int b, .int c, .int d] lay (cX Z lay μ tb r) (fun v lay' C' => v = some (.int ((M_lose μ a).1)) ∧ (M_lose μ a).2.1 38 0 = 0 ∧ lyB lay lay' ∧ lay' (0, 0) = lay (0, 0) ∧ C' = cX Z lay' (M_lose μ a).2 tb r) (fun E => (E = eO ∧ (M_lose μ a).2.1 38 0 = 1) ∨ (E = eS ∧ (M_lose μ a).2.1 38 0 = 2)) := by
  refine YX_of myL_does.2 RL rfl [some (.ref (lay (0, 0))), some (.int 14), some (.int a), some (.int b), some (.int c), some (.int d)] rfl (Nat.le_of_ble_eq_true rfl) ?_
  intro P1 P2 P3 P4 P5 P6 P7 P8 X hr hE
  refine v_iload_n X (xdec_at tL_does_0 0 rfl) rfl rfl ?_
  refine v_tableIn (tgt := 247) X (xdec_at tL_does_0 1 rfl) (by decide) (by decide) (off := 246) (by decide) (by decide) ?_
  refine v_aload_n X (xdec_at tL_does_2 21 rfl) rfl rfl ?_
  refine v_iload_n X (xdec_at tL_does_2 22 rfl) rfl rfl ?_
  refine v_xV X hE myX4_lose [.int a] [] (kyX4_lose l hl0 Z B0 lay μ tb r hI a cl hH) (xw_at tW_11 16 rfl) (0, 0) cX_X rfl rfl rfl rfl (by rfl) (Nat.le_of_ble_eq_true rfl) (xdec_at tL_does_2 23 rfl) ⟨(Nat.le_of_ble_eq_true rfl), (Nat.le_of_ble_eq_true rfl)⟩ ⟨(Nat.le_of_ble_eq_true rfl), (Nat.le_of_ble_eq_true rfl)⟩ ⟨(Nat.le_of_ble_eq_true rfl), (Nat.le_of_ble_eq_true rfl)⟩ (fun _ z => z) ?_
  rintro v9 lay9 C9 ⟨rfl, rfl, h0, rfl⟩
  exact v_x (v_iret X hr (xdec_at tL_does_2 24 rfl) (Nat.le_of_ble_eq_true rfl) (Nat.le_of_ble_eq_true rfl) ⟨rfl, h0, fun _ _ => rfl, rfl, rfl⟩)
set_option maxRecDepth 100000 in
set_option maxHeartbeats 4000000 in
theorem dd_claim (l : Launch) (hl0 : l.stackTraces = false) (Z : xZ) (B0 : Nat) (lay : xK → Nat) (μ : Mu) (tb : Tb) (r : xK → Option xE) (a b c d : Int32) (hI : RI μ) (hK : KI μ) : YX l yL_does cL_does 6 (some FieldType.int) 20 700 2 12 Z B0 [.ref (lay (0, 0)), .int 15, .int a, .int b, .int c, .int d] lay (cX Z lay μ tb r) (fun v lay' C' => v = some (.int ((M_claim μ a).1)) ∧ (M_claim μ a).2.1 38 0 = 0 ∧ lyB lay lay' ∧ lay' (0, 0) = lay (0, 0) ∧ C' = cX Z lay' (M_claim μ a).2 tb r) (fun E => (E = eO ∧ (M_claim μ a).2.1 38 0 = 1) ∨ (E = eS ∧ (M_claim μ a).2.1 38 0 = 2)) := by
  refine YX_of myL_does.2 RL rfl [some (.ref (lay (0, 0))), some (.int 15), some (.int a), some (.int b), some (.int c), some (.int d)] rfl (Nat.le_of_ble_eq_true rfl) ?_
  intro P1 P2 P3 P4 P5 P6 P7 P8 X hr hE
  refine v_iload_n X (xdec_at tL_does_0 0 rfl) rfl rfl ?_
  refine v_tableIn (tgt := 253) X (xdec_at tL_does_0 1 rfl) (by decide) (by decide) (off := 252) (by decide) (by decide) ?_
  refine v_aload_n X (xdec_at tL_does_2 25 rfl) rfl rfl ?_
  refine v_iload_n X (xdec_at tL_does_2 26 rfl) rfl rfl ?_
  refine v_xV X hE myX4_claim [.int a] [] (kyX4_claim l hl0 Z B0 lay μ tb r hI a hK) (xw_at tW_11 24 rfl) (0, 0) cX_X rfl rfl rfl rfl (by rfl) (Nat.le_of_ble_eq_true rfl) (xdec_at tL_does_2 27 rfl) ⟨(Nat.le_of_ble_eq_true rfl), (Nat.le_of_ble_eq_true rfl)⟩ ⟨(Nat.le_of_ble_eq_true rfl), (Nat.le_of_ble_eq_true rfl)⟩ ⟨(Nat.le_of_ble_eq_true rfl), (Nat.le_of_ble_eq_true rfl)⟩ (fun _ z => z) ?_
  rintro v9 lay9 C9 ⟨rfl, rfl, h0, rfl⟩
  exact v_x (v_iret X hr (xdec_at tL_does_2 28 rfl) (Nat.le_of_ble_eq_true rfl) (Nat.le_of_ble_eq_true rfl) ⟨rfl, h0, fun _ _ => rfl, rfl, rfl⟩)
set_option maxRecDepth 100000 in
set_option maxHeartbeats 4000000 in
theorem dd_sample (l : Launch) (hl0 : l.stackTraces = false) (Z : xZ) (B0 : Nat) (lay : xK → Nat) (μ : Mu) (tb : Tb) (r : xK → Option xE) (a b c d : Int32) (hI : RI μ) : YX l yL_does cL_does 6 (some FieldType.int) 20 700 1 6 Z B0 [.ref (lay (0, 0)), .int 16, .int a, .int b, .int c, .int d] lay (cX Z lay μ tb r) (fun v lay' C' => v = some (.int ((M_sample μ (bo a)).1)) ∧ (M_sample μ (bo a)).2.1 38 0 = 0 ∧ lyB lay lay' ∧ lay' (0, 0) = lay (0, 0) ∧ C' = cX Z lay' (M_sample μ (bo a)).2 tb r) (fun E => False) := by
  refine YX_of myL_does.2 RL rfl [some (.ref (lay (0, 0))), some (.int 16), some (.int a), some (.int b), some (.int c), some (.int d)] rfl (Nat.le_of_ble_eq_true rfl) ?_
  intro P1 P2 P3 P4 P5 P6 P7 P8 X hr hE
  refine v_iload_n X (xdec_at tL_does_0 0 rfl) rfl rfl ?_
  refine v_tableIn (tgt := 259) X (xdec_at tL_does_0 1 rfl) (by decide) (by decide) (off := 258) (by decide) (by decide) ?_
  refine v_aload_n X (xdec_at tL_does_2 29 rfl) rfl rfl ?_
  refine v_iload_n X (xdec_at tL_does_2 30 rfl) rfl rfl ?_
  refine v_iconst (v := 1) X (xdec_at tL_does_2 31 rfl) (by decide) ?_
  refine v_icmp_ne (tgt := 269) X (xdec_at tL_does_2 32 rfl) (by decide) (fun c_b => ?_) (fun c_b => ?_)
  · have hb : bo a = 0 := if_neg c_b
    refine v_iconst (v := 0) X (xdec_at tL_does_2 35 rfl) (by decide) ?_
    refine v_st (st' := [.int (bo a), .ref (lay (0, 0))]) (by rw [hb]) ?_
    refine v_callV X myX4_sample [.int (bo a)] [] (kyX4_sample l Z B0 lay μ tb r (bo a) (bo01 a) (hI.b (Or.inr rfl))) (xw_at tW_11 32 rfl) (0, 0) cX_X rfl rfl rfl rfl (by rfl) (Nat.le_of_ble_eq_true rfl) (xdec_at tL_does_2 36 rfl) ⟨(Nat.le_of_ble_eq_true rfl), (Nat.le_of_ble_eq_true rfl)⟩ ⟨(Nat.le_of_ble_eq_true rfl), (Nat.le_of_ble_eq_true rfl)⟩ ?_
    rintro v9 lay9 C9 ⟨rfl, rfl, rfl⟩
    refine v_if_eq (tgt := 280) X (xdec_at tL_does_2 37 rfl) (by decide) (fun c_v => ?_) (fun c_v => ?_)
    · refine v_iconst (v := 0) X (xdec_at tL_does_3 0 rfl) (by decide) ?_
      exact v_x (v_iret X hr (xdec_at tL_does_3 1 rfl) (Nat.le_of_ble_eq_true rfl) (Nat.le_of_ble_eq_true rfl) ⟨by rw [show (M_sample μ (bo a)).1 = 0 from c_v], (by simp [M_sample, up2_at]), fun _ _ => rfl, rfl, cX_smp⟩)
    · refine v_iconst (v := 1) X (xdec_at tL_does_2 38 rfl) (by decide) ?_
      refine v_goto (tgt := 281) X (xdec_at tL_does_2 39 rfl) (by decide) ?_
      exact v_x (v_iret X hr (xdec_at tL_does_3 1 rfl) (Nat.le_of_ble_eq_true rfl) (Nat.le_of_ble_eq_true rfl) ⟨by rw [show (M_sample μ (bo a)).1 = 1 from (b01_sample (bo a) hI).resolve_left c_v], (by simp [M_sample, up2_at]), fun _ _ => rfl, rfl, cX_smp⟩)
  · have hb : bo a = 1 := if_pos c_b
    refine v_iconst (v := 1) X (xdec_at tL_does_2 33 rfl) (by decide) ?_
    refine v_goto (tgt := 270) X (xdec_at tL_does_2 34 rfl) (by decide) ?_
    refine v_st (st' := [.int (bo a), .ref (lay (0, 0))]) (by rw [hb]) ?_
    refine v_callV X myX4_sample [.int (bo a)] [] (kyX4_sample l Z B0 lay μ tb r (bo a) (bo01 a) (hI.b (Or.inr rfl))) (xw_at tW_11 32 rfl) (0, 0) cX_X rfl rfl rfl rfl (by rfl) (Nat.le_of_ble_eq_true rfl) (xdec_at tL_does_2 36 rfl) ⟨(Nat.le_of_ble_eq_true rfl), (Nat.le_of_ble_eq_true rfl)⟩ ⟨(Nat.le_of_ble_eq_true rfl), (Nat.le_of_ble_eq_true rfl)⟩ ?_
    rintro v9 lay9 C9 ⟨rfl, rfl, rfl⟩
    refine v_if_eq (tgt := 280) X (xdec_at tL_does_2 37 rfl) (by decide) (fun c_v => ?_) (fun c_v => ?_)
    · refine v_iconst (v := 0) X (xdec_at tL_does_3 0 rfl) (by decide) ?_
      exact v_x (v_iret X hr (xdec_at tL_does_3 1 rfl) (Nat.le_of_ble_eq_true rfl) (Nat.le_of_ble_eq_true rfl) ⟨by rw [show (M_sample μ (bo a)).1 = 0 from c_v], (by simp [M_sample, up2_at]), fun _ _ => rfl, rfl, cX_smp⟩)
    · refine v_iconst (v := 1) X (xdec_at tL_does_2 38 rfl) (by decide) ?_
      refine v_goto (tgt := 281) X (xdec_at tL_does_2 39 rfl) (by decide) ?_
      exact v_x (v_iret X hr (xdec_at tL_does_3 1 rfl) (Nat.le_of_ble_eq_true rfl) (Nat.le_of_ble_eq_true rfl) ⟨by rw [show (M_sample μ (bo a)).1 = 1 from (b01_sample (bo a) hI).resolve_left c_v], (by simp [M_sample, up2_at]), fun _ _ => rfl, rfl, cX_smp⟩)
set_option maxRecDepth 100000 in
set_option maxHeartbeats 4000000 in
theorem dd_rate (l : Launch) (hl0 : l.stackTraces = false) (Z : xZ) (B0 : Nat) (lay : xK → Nat) (μ : Mu) (tb : Tb) (r : xK → Option xE) (a b c d : Int32) (hI : RI μ) : YX l yL_does cL_does 6 (some FieldType.int) 20 700 3 18 Z B0 [.ref (lay (0, 0)), .int 17, .int a, .int b, .int c, .int d] lay (cX Z lay μ tb r) (fun v lay' C' => v = some (.int ((M_rate μ a b c (bo d)).1)) ∧ (M_rate μ a b c (bo d)).2.1 38 0 = 0 ∧ lyB lay lay' ∧ lay' (0, 0) = lay (0, 0) ∧ C' = cX Z lay' (M_rate μ a b c (bo d)).2 tb r) (fun E => (E = eO ∧ (M_rate μ a b c (bo d)).2.1 38 0 = 1) ∨ (E = eA ∧ (M_rate μ a b c (bo d)).2.1 38 0 = 2)) := by
  refine YX_of myL_does.2 RL rfl [some (.ref (lay (0, 0))), some (.int 17), some (.int a), some (.int b), some (.int c), some (.int d)] rfl (Nat.le_of_ble_eq_true rfl) ?_
  intro P1 P2 P3 P4 P5 P6 P7 P8 X hr hE
  refine v_iload_n X (xdec_at tL_does_0 0 rfl) rfl rfl ?_
  refine v_tableIn (tgt := 282) X (xdec_at tL_does_0 1 rfl) (by decide) (by decide) (off := 281) (by decide) (by decide) ?_
  refine v_aload_n X (xdec_at tL_does_3 2 rfl) rfl rfl ?_
  refine v_iload_n X (xdec_at tL_does_3 3 rfl) rfl rfl ?_
  refine v_iload_n X (xdec_at tL_does_3 4 rfl) rfl rfl ?_
  refine v_iload X (xdec_at tL_does_3 5 rfl) rfl ?_
  refine v_iload X (xdec_at tL_does_3 6 rfl) rfl ?_
  refine v_iconst (v := 1) X (xdec_at tL_does_3 7 rfl) (by decide) ?_
  refine v_icmp_ne (tgt := 297) X (xdec_at tL_does_3 8 rfl) (by decide) (fun c_b => ?_) (fun c_b => ?_)
  · have hb : bo d = 0 := if_neg c_b
    refine v_iconst (v := 0) X (xdec_at tL_does_3 11 rfl) (by decide) ?_
    refine v_st (st' := [.int (bo d), .int c, .int b, .int a, .ref (lay (0, 0))]) (by rw [hb]) ?_
    refine v_xV X hE myX4_rate [.int a, .int b, .int c, .int (bo d)] [] (kyX4_rate l hl0 Z B0 lay μ tb r hI a b c (bo d)) (xw_at tW_4 38 rfl) (0, 0) cX_X rfl rfl rfl rfl (by rfl) (Nat.le_of_ble_eq_true rfl) (xdec_at tL_does_3 12 rfl) ⟨(Nat.le_of_ble_eq_true rfl), (Nat.le_of_ble_eq_true rfl)⟩ ⟨(Nat.le_of_ble_eq_true rfl), (Nat.le_of_ble_eq_true rfl)⟩ ⟨(Nat.le_of_ble_eq_true rfl), (Nat.le_of_ble_eq_true rfl)⟩ (fun _ z => z) ?_
    rintro v9 lay9 C9 ⟨rfl, rfl, h0, rfl⟩
    exact v_x (v_iret X hr (xdec_at tL_does_3 13 rfl) (Nat.le_of_ble_eq_true rfl) (Nat.le_of_ble_eq_true rfl) ⟨rfl, h0, fun _ _ => rfl, rfl, rfl⟩)
  · have hb : bo d = 1 := if_pos c_b
    refine v_iconst (v := 1) X (xdec_at tL_does_3 9 rfl) (by decide) ?_
    refine v_goto (tgt := 298) X (xdec_at tL_does_3 10 rfl) (by decide) ?_
    refine v_st (st' := [.int (bo d), .int c, .int b, .int a, .ref (lay (0, 0))]) (by rw [hb]) ?_
    refine v_xV X hE myX4_rate [.int a, .int b, .int c, .int (bo d)] [] (kyX4_rate l hl0 Z B0 lay μ tb r hI a b c (bo d)) (xw_at tW_4 38 rfl) (0, 0) cX_X rfl rfl rfl rfl (by rfl) (Nat.le_of_ble_eq_true rfl) (xdec_at tL_does_3 12 rfl) ⟨(Nat.le_of_ble_eq_true rfl), (Nat.le_of_ble_eq_true rfl)⟩ ⟨(Nat.le_of_ble_eq_true rfl), (Nat.le_of_ble_eq_true rfl)⟩ ⟨(Nat.le_of_ble_eq_true rfl), (Nat.le_of_ble_eq_true rfl)⟩ (fun _ z => z) ?_
    rintro v9 lay9 C9 ⟨rfl, rfl, h0, rfl⟩
    exact v_x (v_iret X hr (xdec_at tL_does_3 13 rfl) (Nat.le_of_ble_eq_true rfl) (Nat.le_of_ble_eq_true rfl) ⟨rfl, h0, fun _ _ => rfl, rfl, rfl⟩)
set_option maxRecDepth 100000 in
set_option maxHeartbeats 4000000 in
theorem dd_hand (l : Launch) (hl0 : l.stackTraces = false) (Z : xZ) (B0 : Nat) (lay : xK → Nat) (μ : Mu) (tb : Tb) (r : xK → Option xE) (a b c d : Int32) (hI : RI μ) (cl : Nat → Nat → Nat) (hH : HR μ tb cl) : YX l yL_does cL_does 6 (some FieldType.int) 20 700 2 12 Z B0 [.ref (lay (0, 0)), .int 18, .int a, .int b, .int c, .int d] lay (cX Z lay μ tb r) (fun v lay' C' => v = some (.int ((M_hand μ a b).1)) ∧ (M_hand μ a b).2.1 38 0 = 0 ∧ lyB lay lay' ∧ lay' (0, 0) = lay (0, 0) ∧ C' = cX Z lay' (M_hand μ a b).2 tb r) (fun E => (E = eO ∧ (M_hand μ a b).2.1 38 0 = 1)) := by
  refine YX_of myL_does.2 RL rfl [some (.ref (lay (0, 0))), some (.int 18), some (.int a), some (.int b), some (.int c), some (.int d)] rfl (Nat.le_of_ble_eq_true rfl) ?_
  intro P1 P2 P3 P4 P5 P6 P7 P8 X hr hE
  refine v_iload_n X (xdec_at tL_does_0 0 rfl) rfl rfl ?_
  refine v_tableIn (tgt := 302) X (xdec_at tL_does_0 1 rfl) (by decide) (by decide) (off := 301) (by decide) (by decide) ?_
  refine v_aload_n X (xdec_at tL_does_3 14 rfl) rfl rfl ?_
  refine v_iload_n X (xdec_at tL_does_3 15 rfl) rfl rfl ?_
  refine v_iload_n X (xdec_at tL_does_3 16 rfl) rfl rfl ?_
  refine v_xV X hE myX4_hand [.int a, .int b] [] (kyX4_hand l hl0 Z B0 lay μ tb r hI a b cl hH) (xw_at tW_11 36 rfl) (0, 0) cX_X rfl rfl rfl rfl (by rfl) (Nat.le_of_ble_eq_true rfl) (xdec_at tL_does_3 17 rfl) ⟨(Nat.le_of_ble_eq_true rfl), (Nat.le_of_ble_eq_true rfl)⟩ ⟨(Nat.le_of_ble_eq_true rfl), (Nat.le_of_ble_eq_true rfl)⟩ ⟨(Nat.le_of_ble_eq_true rfl), (Nat.le_of_ble_eq_true rfl)⟩ (fun _ z => z) ?_
  rintro v9 lay9 C9 ⟨rfl, rfl, h0, rfl⟩
  exact v_x (v_iret X hr (xdec_at tL_does_3 18 rfl) (Nat.le_of_ble_eq_true rfl) (Nat.le_of_ble_eq_true rfl) ⟨rfl, h0, fun _ _ => rfl, rfl, rfl⟩)
set_option maxRecDepth 100000 in
set_option maxHeartbeats 4000000 in
theorem dd_gain (l : Launch) (hl0 : l.stackTraces = false) (Z : xZ) (B0 : Nat) (lay : xK → Nat) (μ : Mu) (tb : Tb) (r : xK → Option xE) (a b c d : Int32) (hI : RI μ) (hK : KI μ) : YX l yL_does cL_does 6 (some FieldType.int) 20 700 1 6 Z B0 [.ref (lay (0, 0)), .int 19, .int a, .int b, .int c, .int d] lay (cX Z lay μ tb r) (fun v lay' C' => v = some (.int ((M_gain μ a).1)) ∧ (M_gain μ a).2.1 38 0 = 0 ∧ lyB lay lay' ∧ lay' (0, 0) = lay (0, 0) ∧ C' = cX Z lay' (M_gain μ a).2 tb r) (fun E => (E = eA ∧ (M_gain μ a).2.1 38 0 = 1)) := by
  refine YX_of myL_does.2 RL rfl [some (.ref (lay (0, 0))), some (.int 19), some (.int a), some (.int b), some (.int c), some (.int d)] rfl (Nat.le_of_ble_eq_true rfl) ?_
  intro P1 P2 P3 P4 P5 P6 P7 P8 X hr hE
  refine v_iload_n X (xdec_at tL_does_0 0 rfl) rfl rfl ?_
  refine v_tableOut (tgt := 309) X (xdec_at tL_does_0 1 rfl) (by decide) (by decide) ?_
  refine v_aload_n X (xdec_at tL_does_3 19 rfl) rfl rfl ?_
  refine v_iload_n X (xdec_at tL_does_3 20 rfl) rfl rfl ?_
  refine v_xV X hE myX4_gain [.int a] [] (kyX4_gain l hl0 Z B0 lay μ tb r hI a hK) (xw_at tW_6 2 rfl) (0, 0) cX_X rfl rfl rfl rfl (by rfl) (Nat.le_of_ble_eq_true rfl) (xdec_at tL_does_3 21 rfl) ⟨(Nat.le_of_ble_eq_true rfl), (Nat.le_of_ble_eq_true rfl)⟩ ⟨(Nat.le_of_ble_eq_true rfl), (Nat.le_of_ble_eq_true rfl)⟩ ⟨(Nat.le_of_ble_eq_true rfl), (Nat.le_of_ble_eq_true rfl)⟩ (fun _ z => z) ?_
  rintro v9 lay9 C9 ⟨rfl, rfl, h0, rfl⟩
  exact v_x (v_iret X hr (xdec_at tL_does_3 22 rfl) (Nat.le_of_ble_eq_true rfl) (Nat.le_of_ble_eq_true rfl) ⟨rfl, h0, fun _ _ => rfl, rfl, rfl⟩)
theorem mw_call : xMW yL_call cL_call 7 (some FieldType.int) [(0, 11, 12, 15), (0, 11, 17, 18), (0, 11, 22, 21)] 6 := ⟨(xw_at tW_6 14 rfl), (xw_at tW_0 15 rfl), xwb_5, ⟨by decide +kernel, by decide +kernel, by decide +kernel⟩, by decide +kernel⟩
theorem mw_mail : xMW yL_mail cL_mail 8 (some FieldType.int) [(0, 22, 23, 15), (0, 22, 28, 18), (0, 22, 33, 21)] 7 := ⟨(xw_at tW_12 9 rfl), (xw_at tW_0 15 rfl), xwb_9, ⟨by decide +kernel, by decide +kernel, by decide +kernel⟩, by decide +kernel⟩
theorem mw_long0 : xMW yL_long0 cL_long0 5 (some FieldType.long) [(0, 58, 59, 15), (0, 58, 65, 18)] 4 := ⟨(xw_at tW_13 37 rfl), (xw_at tW_0 15 rfl), xwb_14, ⟨by decide +kernel, by decide +kernel, by decide +kernel⟩, by decide +kernel⟩
/-- a call by what: o's answer, and what it leaves -/
def CallOK (l : Launch) (Z : xZ) (B0 : Nat) (μ : Mu) (tb : Tb) (w a b c d ans : Int32) (ν : Mu) (tbn : Tb) (ce sl : Nat) : Prop := ∀ (lay : xK → Nat) (r : xK → Option xE), r (200, 0) = none → YC l yL_call cL_call 7 (some FieldType.int) [(0, 11, 12, 15), (0, 11, 17, 18), (0, 11, 22, 21)] 21 760 ce sl Z B0 [.ref (lay (0, 0)), .int w, .int a, .int b, .int c, .int d] lay (cX Z lay μ tb r) (fun v lay' C' => v = some (.int ans) ∧ lyB lay lay' ∧ lay' (0, 0) = lay (0, 0) ∧ C' = cX Z lay' ν tbn r)
set_option maxRecDepth 100000 in
set_option maxHeartbeats 4000000 in
theorem call_of {l : Launch} {Z : xZ} {B0 : Nat} {lay : xK → Nat} {μ ν M : Mu} {tb tbn tbM : Tb} {r : xK → Option xE} {w a b c d ans aM : Int32} {ce sl : Nat} {px : String → Prop} (h : YX l yL_does cL_does 6 (some FieldType.int) 20 700 ce sl Z B0 [.ref (lay (0, 0)), .int w, .int a, .int b, .int c, .int d] lay (cX Z lay μ tb r) (fun v lay' C' => v = some (.int aM) ∧ M.1 38 0 = 0 ∧ lyB lay lay' ∧ lay' (0, 0) = lay (0, 0) ∧ C' = cX Z lay' M tbM r) px) (hk : M.1 38 0 = 0 → ans = aM ∧ ∀ lay', cX Z lay' M tbM r = cX Z lay' ν tbn r) (hx : ∀ E, px E → cX Z lay μ tb r = cX Z lay ν tbn r ∧ ((E = eO ∧ ans = -2000000001) ∨ (E = eA ∧ ans = -2000000002) ∨ (E = eS ∧ ans = -2000000003))) : YC l yL_call cL_call 7 (some FieldType.int) [(0, 11, 12, 15), (0, 11, 17, 18), (0, 11, 22, 21)] 21 760 ce sl Z B0 [.ref (lay (0, 0)), .int w, .int a, .int b, .int c, .int d] lay (cX Z lay μ tb r) (fun v lay' C' => v = some (.int ans) ∧ lyB lay lay' ∧ lay' (0, 0) = lay (0, 0) ∧ C' = cX Z lay' ν tbn r) := by
  refine YC_of mw_call RL rfl [some (.ref (lay (0, 0))), some (.int w), some (.int a), some (.int b), some (.int c), some (.int d), none] rfl (Nat.le_of_ble_eq_true rfl) ?_
  intro P1 P2 P3 P4 P5 P6 P7 P8 X hr hE ht
  refine v_aload_n X (xdec_at tL_call_0 0 rfl) rfl rfl ?_
  refine v_iload_n X (xdec_at tL_call_0 1 rfl) rfl rfl ?_
  refine v_iload_n X (xdec_at tL_call_0 2 rfl) rfl rfl ?_
  refine v_iload_n X (xdec_at tL_call_0 3 rfl) rfl rfl ?_
  refine v_iload X (xdec_at tL_call_0 4 rfl) rfl ?_
  refine v_iload X (xdec_at tL_call_0 5 rfl) rfl ?_
  refine v_wD X hE myL_does [.ref (lay (0, 0)), .int w, .int a, .int b, .int c, .int d] [] h (xw_at tW_6 18 rfl) rfl rfl (by rfl) (Nat.le_of_ble_eq_true rfl) (xdec_at tL_call_0 6 rfl) ⟨(Nat.le_of_ble_eq_true rfl), (Nat.le_of_ble_eq_true rfl)⟩ ⟨by show 0 + ce ≤ ce; omega, by show 0 + sl ≤ sl; omega⟩ ?_ ?_
  · rintro v9 lay9 C9 ⟨rfl, h0, hB, h00, rfl⟩
    obtain ⟨e1, e2⟩ := hk h0
    exact v_xr (v_iret X hr (xdec_at tL_call_0 7 rfl) (by omega) (by omega) ⟨by rw [e1], hB, h00, e2 lay9⟩)
  · intro E q hq
    obtain ⟨hw, ⟨rfl, hans⟩ | ⟨rfl, hans⟩ | ⟨rfl, hans⟩⟩ := hx E hq
    · refine ⟨12, hnd_1 ht (Or.inl rfl) rfl (by decide) (xw_at tW_6 15 rfl), ?_⟩
      refine v_astore (lv' := [some (.ref (lay (0, 0))), some (.int w), some (.int a), some (.int b), some (.int c), some (.int d), some (.ref q)]) X (xdec_at tL_call_0 8 rfl) (by decide) rfl ?_
      refine v_ldc (v := -2000000001) X (xw_at tW_12 0 rfl) (xdec_at tL_call_0 9 rfl) ?_
      rw [hw]
      exact v_xr (v_iret X hr (xdec_at tL_call_0 10 rfl) (by omega) (by omega) ⟨by rw [hans], fun _ _ => rfl, rfl, rfl⟩)
    · refine ⟨17, hnd_2 ht (Or.inr (Or.inl rfl)) (by decide) (xw_at tW_6 15 rfl) hE.2.1 rfl (by decide) (xw_at tW_6 16 rfl), ?_⟩
      refine v_astore (lv' := [some (.ref (lay (0, 0))), some (.int w), some (.int a), some (.int b), some (.int c), some (.int d), some (.ref q)]) X (xdec_at tL_call_0 11 rfl) (by decide) rfl ?_
      refine v_ldc (v := -2000000002) X (xw_at tW_12 1 rfl) (xdec_at tL_call_0 12 rfl) ?_
      rw [hw]
      exact v_xr (v_iret X hr (xdec_at tL_call_0 13 rfl) (by omega) (by omega) ⟨by rw [hans], fun _ _ => rfl, rfl, rfl⟩)
    · refine ⟨22, hnd_3 ht (Or.inr (Or.inr rfl)) (by decide) (xw_at tW_6 15 rfl) hE.2.2.1 (by decide) (xw_at tW_6 16 rfl) hE.2.2.2 rfl (by decide) (xw_at tW_6 17 rfl), ?_⟩
      refine v_astore (lv' := [some (.ref (lay (0, 0))), some (.int w), some (.int a), some (.int b), some (.int c), some (.int d), some (.ref q)]) X (xdec_at tL_call_0 14 rfl) (by decide) rfl ?_
      refine v_ldc (v := -2000000003) X (xw_at tW_12 2 rfl) (xdec_at tL_call_0 15 rfl) ?_
      rw [hw]
      exact v_xr (v_iret X hr (xdec_at tL_call_0 16 rfl) (by omega) (by omega) ⟨by rw [hans], fun _ _ => rfl, rfl, rfl⟩)
/-- the same call to both -/
theorem both_of {l : Launch} {Z : xZ} {B0 : Nat} {lay : xK → Nat} {μ ν : Mu} {tb tbn : Tb} {r : xK → Option xE} {w a b c d ans : Int32} {ce sl : Nat} (hr2 : r (200, 0) = none) (h : CallOK l Z B0 μ tb w a b c d ans ν tbn ce sl) : YL l yL_both cL_both 8 (some FieldType.int) 22 800 (ce + ce) (sl + sl) Z B0 [.ref (lay (0, 0)), .ref (lay (500, 0)), .int w, .int a, .int b, .int c, .int d] lay (W2 Z lay μ tb μ tb r) (fun v lay' C' => v = some (.int ans) ∧ lyL lay lay' ∧ C' = W2 Z lay' ν tbn ν tbn r) := by
  refine YL_of myL_both.2 RL rfl [some (.ref (lay (0, 0))), some (.ref (lay (500, 0))), some (.int w), some (.int a), some (.int b), some (.int c), some (.int d), none] rfl (Nat.le_of_ble_eq_true rfl) ?_
  intro P1 P2 P3 P4 P5 P6 P7 P8 X hr hE
  refine v_aload_n X (xdec_at tL_both_0 0 rfl) rfl rfl ?_
  refine v_iload_n X (xdec_at tL_both_0 1 rfl) rfl rfl ?_
  refine v_iload_n X (xdec_at tL_both_0 2 rfl) rfl rfl ?_
  refine v_iload X (xdec_at tL_both_0 3 rfl) rfl ?_
  refine v_iload X (xdec_at tL_both_0 4 rfl) rfl ?_
  refine v_iload X (xdec_at tL_both_0 5 rfl) rfl ?_
  refine v_wC X hE mw_call [.ref (lay (0, 0)), .int w, .int a, .int b, .int c, .int d] [] (h lay (tw Z lay μ tb r) (tw_200 hr2)) (xw_at tW_6 13 rfl) rfl (by rfl) (Nat.le_of_ble_eq_true rfl) (xdec_at tL_both_0 6 rfl) ⟨(Nat.le_of_ble_eq_true rfl), (Nat.le_of_ble_eq_true rfl)⟩ ⟨by show 0 + ce ≤ ce + ce; omega, by show 0 + sl ≤ sl + sl; omega⟩ ?_
  rintro v9 l1 C9 ⟨rfl, hB, h00, rfl⟩
  have eT := tw_lay (Z := Z) (μ := μ) (tb := tb) (r := r) hB
  have y1 : lyL lay l1 := lyL_o hB h00
  rw [← eT, ← y1.1, ← y1.2.1]
  refine v_istore (lv' := [some (.ref (l1 (0, 0))), some (.ref (l1 (500, 0))), some (.int w), some (.int a), some (.int b), some (.int c), some (.int d), some (.int ans)]) X (xdec_at tL_both_0 7 rfl) (by decide) rfl ?_
  refine v_iload X (xdec_at tL_both_0 8 rfl) rfl ?_
  refine v_aload_n X (xdec_at tL_both_0 9 rfl) rfl rfl ?_
  refine v_iload_n X (xdec_at tL_both_0 10 rfl) rfl rfl ?_
  refine v_iload_n X (xdec_at tL_both_0 11 rfl) rfl rfl ?_
  refine v_iload X (xdec_at tL_both_0 12 rfl) rfl ?_
  refine v_iload X (xdec_at tL_both_0 13 rfl) rfl ?_
  refine v_iload X (xdec_at tL_both_0 14 rfl) rfl ?_
  have hT := YC_sw (lay := l1) (C := W2 Z l1 ν tbn μ tb r) (by rw [W2_sw]; exact h (csw l1) (tw Z (csw l1) ν tbn r) (tw_200 hr2))
  refine v_wC X hE mw_call [.ref (l1 (500, 0)), .int w, .int a, .int b, .int c, .int d] [.int ans] hT (xw_at tW_6 13 rfl) rfl (by rfl) (Nat.le_of_ble_eq_true rfl) (xdec_at tL_both_0 15 rfl) ⟨(Nat.le_of_ble_eq_true rfl), (Nat.le_of_ble_eq_true rfl)⟩ ⟨by show 0 + ce + ce ≤ ce + ce; omega, by show 0 + sl + sl ≤ sl + sl; omega⟩ ?_
  rintro v8 l2 C8 ⟨rfl, hB2, h02, hC8⟩
  have eC : C8 = W2 Z l2 ν tbn ν tbn r := by
    rw [← csw_csw C8, hC8, show cX Z (csw l2) ν tbn (tw Z (csw l1) ν tbn r) = W2 Z (csw l2) ν tbn ν tbn r from by rw [W2, tw_lay hB2], W2_sw, csw_csw]
  subst eC
  refine v_icmp_ne (tgt := 36) X (xdec_at tL_both_0 16 rfl) (by decide) (fun h9 => absurd rfl h9) (fun _ => ?_)
  refine v_iload X (xdec_at tL_both_0 17 rfl) rfl ?_
  refine v_goto (tgt := 38) X (xdec_at tL_both_0 18 rfl) (by decide) ?_
  exact v_xr (v_iret X hr (xdec_at tL_both_0 20 rfl) (by omega) (by omega) ⟨rfl, lyL_tr y1 (lyL_t hB2 h02), rfl⟩)
