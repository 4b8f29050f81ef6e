/-! mail, long0, some, cell; what is asked, where it does not throw -/
def MailOK (l : Launch) (Z : xZ) (B0 : Nat) (μ : Mu) (tb : Tb) (k a b g pd rg ans : Int32) (ν : Mu) (tbn : Tb) : Prop := ∀ (lay : xK → Nat) (r : xK → Option xE), r (200, 0) = none → YC l yL_mail cL_mail 8 (some FieldType.int) [(0, 22, 23, 15), (0, 22, 28, 18), (0, 22, 33, 21)] 21 760 7 53 Z B0 [.ref (lay (0, 0)), .int k, .int a, .int b, .int g, .int pd, .int rg] lay (cX Z lay μ tb r) (fun v lay' C' => v = some (.int ans) ∧ lyB lay lay' ∧ lay' (0, 0) = lay (0, 0) ∧ C' = cX Z lay' ν tbn r)
set_option maxRecDepth 100000 in
set_option maxHeartbeats 4000000 in
theorem mail_of {l : Launch} (hl0 : l.stackTraces = false) {Z : xZ} {B0 : Nat} {lay : xK → Nat} {μ ν : Mu} {tb tbn : Tb} {r : xK → Option xE} {k a b g pd rg ans : Int32} (hI : RI μ) (hK : KI μ) (hr2 : r (200, 0) = none) (hS : ¬ (80000 : Int32) ≤ μ.1 30 0) (hk : (M_mail μ k a b g pd (bo rg)).2.1 38 0 = 0 → ans = (M_mail μ k a b g pd (bo rg)).1 ∧ ∀ lay', cX Z lay' (M_mail μ k a b g pd (bo rg)).2 (KT_mail μ tb a (bo rg)) r = cX Z lay' ν tbn r) (hx : ∀ E, ((E = eO ∧ (M_mail μ k a b g pd (bo rg)).2.1 38 0 = 1) ∨ (E = eA ∧ (M_mail μ k a b g pd (bo rg)).2.1 38 0 = 2) ∨ (E = eS ∧ (M_mail μ k a b g pd (bo rg)).2.1 38 0 = 3)) → cX Z lay μ tb r = cX Z lay ν tbn r ∧ ((E = eO ∧ ans = -2000000001) ∨ (E = eA ∧ ans = -2000000002) ∨ (E = eS ∧ ans = -2000000003))) : YC l yL_mail cL_mail 8 (some FieldType.int) [(0, 22, 23, 15), (0, 22, 28, 18), (0, 22, 33, 21)] 21 760 7 53 Z B0 [.ref (lay (0, 0)), .int k, .int a, .int b, .int g, .int pd, .int rg] lay (cX Z lay μ tb r) (fun v lay' C' => v = some (.int ans) ∧ lyB lay lay' ∧ lay' (0, 0) = lay (0, 0) ∧ C' = cX Z lay' ν tbn r) := by
  refine YC_of mw_mail RL rfl [some (.ref (lay (0, 0))), some (.int k), some (.int a), some (.int b), some (.int g), some (.int pd), some (.int rg), none] rfl (Nat.le_of_ble_eq_true rfl) ?_
  intro P1 P2 P3 P4 P5 P6 P7 P8 X hr hE ht
  refine v_aload_n X (xdec_at tL_mail_0 0 rfl) rfl rfl ?_
  refine v_iload_n X (xdec_at tL_mail_0 1 rfl) rfl rfl ?_
  refine v_iload_n X (xdec_at tL_mail_0 2 rfl) rfl rfl ?_
  refine v_iload_n X (xdec_at tL_mail_0 3 rfl) rfl rfl ?_
  refine v_iload X (xdec_at tL_mail_0 4 rfl) rfl ?_
  refine v_iload X (xdec_at tL_mail_0 5 rfl) rfl ?_
  refine v_iload X (xdec_at tL_mail_0 6 rfl) rfl ?_
  refine v_iconst (v := 1) X (xdec_at tL_mail_0 7 rfl) (by decide) ?_
  refine v_icmp_ne (tgt := 18) X (xdec_at tL_mail_0 8 rfl) (by decide) (fun c_b => ?_) (fun c_b => ?_)
  · have hb : bo rg = 0 := if_neg c_b
    refine v_iconst (v := 0) X (xdec_at tL_mail_0 11 rfl) (by decide) ?_
    refine v_st (st' := [.int (bo rg), .int pd, .int g, .int b, .int a, .int k, .ref (lay (0, 0))]) (by rw [hb]) ?_
    refine v_wV X hE myX4_mail [.int k, .int a, .int b, .int g, .int pd, .int (bo rg)] [] (kyX4_mail l hl0 Z B0 lay μ tb r hI hK k a b g pd (bo rg) (bo01 rg) hr2 hS) (xw_at tW_12 10 rfl) (0, 0) cX_X rfl rfl rfl rfl (by rfl) (Nat.le_of_ble_eq_true rfl) (xdec_at tL_mail_0 12 rfl) ⟨(Nat.le_of_ble_eq_true rfl), (Nat.le_of_ble_eq_true rfl)⟩ ⟨(Nat.le_of_ble_eq_true rfl), (Nat.le_of_ble_eq_true rfl)⟩ ?_ ?_
    · rintro v9 lay9 C9 ⟨hC9, hB, rfl, h0, rfl⟩
      obtain ⟨e1, e2⟩ := hk h0
      exact v_xr (v_iret X hr (xdec_at tL_mail_0 13 rfl) (Nat.le_of_ble_eq_true rfl) (Nat.le_of_ble_eq_true rfl) ⟨by rw [e1], hB, hC9 (0, 0) (by rw [cX_X]; exact fun z => by cases z), e2 lay9⟩)
    · intro E q hq
      obtain ⟨hw, ⟨rfl, hans⟩ | ⟨rfl, hans⟩ | ⟨rfl, hans⟩⟩ := hx E hq
      · refine ⟨23, hnd_1 ht (Or.inl rfl) rfl (by decide) (xw_at tW_6 15 rfl), ?_⟩
        refine v_astore (lv' := [some (.ref (lay (0, 0))), some (.int k), some (.int a), some (.int b), some (.int g), some (.int pd), some (.int rg), some (.ref q)]) X (xdec_at tL_mail_0 14 rfl) (by decide) rfl ?_
        refine v_ldc (v := -2000000001) X (xw_at tW_12 0 rfl) (xdec_at tL_mail_0 15 rfl) ?_
        rw [hw]
        exact v_xr (v_iret X hr (xdec_at tL_mail_0 16 rfl) (by omega) (by omega) ⟨by rw [hans], fun _ _ => rfl, rfl, rfl⟩)
      · refine ⟨28, hnd_2 ht (Or.inr (Or.inl rfl)) (by decide) (xw_at tW_6 15 rfl) hE.2.1 rfl (by decide) (xw_at tW_6 16 rfl), ?_⟩
        refine v_astore (lv' := [some (.ref (lay (0, 0))), some (.int k), some (.int a), some (.int b), some (.int g), some (.int pd), some (.int rg), some (.ref q)]) X (xdec_at tL_mail_0 17 rfl) (by decide) rfl ?_
        refine v_ldc (v := -2000000002) X (xw_at tW_12 1 rfl) (xdec_at tL_mail_0 18 rfl) ?_
        rw [hw]
        exact v_xr (v_iret X hr (xdec_at tL_mail_0 19 rfl) (by omega) (by omega) ⟨by rw [hans], fun _ _ => rfl, rfl, rfl⟩)
      · refine ⟨33, hnd_3 ht (Or.inr (Or.inr rfl)) (by decide) (xw_at tW_6 15 rfl) hE.2.2.1 (by decide) (xw_at tW_6 16 rfl) hE.2.2.2 rfl (by decide) (xw_at tW_6 17 rfl), ?_⟩
        refine v_astore (lv' := [some (.ref (lay (0, 0))), some (.int k), some (.int a), some (.int b), some (.int g), some (.int pd), some (.int rg), some (.ref q)]) X (xdec_at tL_mail_0 20 rfl) (by decide) rfl ?_
        refine v_ldc (v := -2000000003) X (xw_at tW_12 2 rfl) (xdec_at tL_mail_0 21 rfl) ?_
        rw [hw]
        exact v_xr (v_iret X hr (xdec_at tL_mail_0 22 rfl) (by omega) (by omega) ⟨by rw [hans], fun _ _ => rfl, rfl, rfl⟩)
  · have hb : bo rg = 1 := if_pos c_b
    refine v_iconst (v := 1) X (xdec_at tL_mail_0 9 rfl) (by decide) ?_
    refine v_goto (tgt := 19) X (xdec_at tL_mail_0 10 rfl) (by decide) ?_
    refine v_st (st' := [.int (bo rg), .int pd, .int g, .int b, .int a, .int k, .ref (lay (0, 0))]) (by rw [hb]) ?_
    refine v_wV X hE myX4_mail [.int k, .int a, .int b, .int g, .int pd, .int (bo rg)] [] (kyX4_mail l hl0 Z B0 lay μ tb r hI hK k a b g pd (bo rg) (bo01 rg) hr2 hS) (xw_at tW_12 10 rfl) (0, 0) cX_X rfl rfl rfl rfl (by rfl) (Nat.le_of_ble_eq_true rfl) (xdec_at tL_mail_0 12 rfl) ⟨(Nat.le_of_ble_eq_true rfl), (Nat.le_of_ble_eq_true rfl)⟩ ⟨(Nat.le_of_ble_eq_true rfl), (Nat.le_of_ble_eq_true rfl)⟩ ?_ ?_
    · rintro v9 lay9 C9 ⟨hC9, hB, rfl, h0, rfl⟩
      obtain ⟨e1, e2⟩ := hk h0
      exact v_xr (v_iret X hr (xdec_at tL_mail_0 13 rfl) (Nat.le_of_ble_eq_true rfl) (Nat.le_of_ble_eq_true rfl) ⟨by rw [e1], hB, hC9 (0, 0) (by rw [cX_X]; exact fun z => by cases z), e2 lay9⟩)
    · intro E q hq
      obtain ⟨hw, ⟨rfl, hans⟩ | ⟨rfl, hans⟩ | ⟨rfl, hans⟩⟩ := hx E hq
      · refine ⟨23, hnd_1 ht (Or.inl rfl) rfl (by decide) (xw_at tW_6 15 rfl), ?_⟩
        refine v_astore (lv' := [some (.ref (lay (0, 0))), some (.int k), some (.int a), some (.int b), some (.int g), some (.int pd), some (.int rg), some (.ref q)]) X (xdec_at tL_mail_0 14 rfl) (by decide) rfl ?_
        refine v_ldc (v := -2000000001) X (xw_at tW_12 0 rfl) (xdec_at tL_mail_0 15 rfl) ?_
        rw [hw]
        exact v_xr (v_iret X hr (xdec_at tL_mail_0 16 rfl) (by omega) (by omega) ⟨by rw [hans], fun _ _ => rfl, rfl, rfl⟩)
      · refine ⟨28, hnd_2 ht (Or.inr (Or.inl rfl)) (by decide) (xw_at tW_6 15 rfl) hE.2.1 rfl (by decide) (xw_at tW_6 16 rfl), ?_⟩
        refine v_astore (lv' := [some (.ref (lay (0, 0))), some (.int k), some (.int a), some (.int b), some (.int g), some (.int pd), some (.int rg), some (.ref q)]) X (xdec_at tL_mail_0 17 rfl) (by decide) rfl ?_
        refine v_ldc (v := -2000000002) X (xw_at tW_12 1 rfl) (xdec_at tL_mail_0 18 rfl) ?_
        rw [hw]
        exact v_xr (v_iret X hr (xdec_at tL_mail_0 19 rfl) (by omega) (by omega) ⟨by rw [hans], fun _ _ => rfl, rfl, rfl⟩)
      · refine ⟨33, hnd_3 ht (Or.inr (Or.inr rfl)) (by decide) (xw_at tW_6 15 rfl) hE.2.2.1 (by decide) (xw_at tW_6 16 rfl) hE.2.2.2 rfl (by decide) (xw_at tW_6 17 rfl), ?_⟩
        refine v_astore (lv' := [some (.ref (lay (0, 0))), some (.int k), some (.int a), some (.int b), some (.int g), some (.int pd), some (.int rg), some (.ref q)]) X (xdec_at tL_mail_0 20 rfl) (by decide) rfl ?_
        refine v_ldc (v := -2000000003) X (xw_at tW_12 2 rfl) (xdec_at tL_mail_0 21 rfl) ?_
        rw [hw]
        exact v_xr (v_iret X hr (xdec_at tL_mail_0 22 rfl) (by omega) (by omega) ⟨by rw [hans], fun _ _ => rfl, rfl, rfl⟩)
def LongOK (l : Launch) (Z : xZ) (B0 : Nat) (μ : Mu) (tb : Tb) (w a b : Int32) (ans : Int64) (ν : Mu) : Prop := ∀ (lay : xK → Nat) (r : xK → Option xE), YC l yL_long0 cL_long0 5 (some FieldType.long) [(0, 58, 59, 15), (0, 58, 65, 18)] 21 760 2 12 Z B0 [.ref (lay (0, 0)), .int w, .int a, .int b] lay (cX Z lay μ tb r) (fun v lay' C' => v = some (.long ans) ∧ lyB lay lay' ∧ lay' (0, 0) = lay (0, 0) ∧ C' = cX Z lay' ν tb r)
set_option maxRecDepth 100000 in
set_option maxHeartbeats 4000000 in
theorem long_settle {l : Launch} (hl0 : l.stackTraces = false) {Z : xZ} {B0 : Nat} {lay : xK → Nat} {μ ν : Mu} {tb : Tb} {r : xK → Option xE} {a b : Int32} {ans : Int64} (hI : RI μ) (hK : KI μ) (hk : (M_settle μ a).2.1 38 0 = 0 → ans = (M_settle μ a).1 ∧ ∀ lay', cX Z lay' (M_settle μ a).2 tb r = cX Z lay' ν tb r) (hx : ∀ E, ((E = eA ∧ (M_settle μ a).2.1 38 0 = 1)) → cX Z lay μ tb r = cX Z lay ν tb r ∧ ((E = eO ∧ ans = -9000000000000000001) ∨ (E = eA ∧ ans = -9000000000000000002))) : YC l yL_long0 cL_long0 5 (some FieldType.long) [(0, 58, 59, 15), (0, 58, 65, 18)] 21 760 2 12 Z B0 [.ref (lay (0, 0)), .int 0, .int a, .int b] lay (cX Z lay μ tb r) (fun v lay' C' => v = some (.long ans) ∧ lyB lay lay' ∧ lay' (0, 0) = lay (0, 0) ∧ C' = cX Z lay' ν tb r) := by
  refine YC_of mw_long0 RL rfl [some (.ref (lay (0, 0))), some (.int 0), some (.int a), some (.int b), none] rfl (Nat.le_of_ble_eq_true rfl) ?_
  intro P1 P2 P3 P4 P5 P6 P7 P8 X hr hE ht
  refine v_iload_n X (xdec_at tL_long0_0 0 rfl) rfl rfl ?_
  refine v_if_ne (tgt := 12) X (xdec_at tL_long0_0 1 rfl) (by decide) (fun h9 => absurd h9 (by decide)) (fun _ => ?_)
  refine v_aload_n X (xdec_at tL_long0_0 2 rfl) rfl rfl ?_
  refine v_iload_n X (xdec_at tL_long0_0 3 rfl) rfl rfl ?_
  refine v_wV X hE myX4_settle [.int a] [] (kyX4_settle l hl0 Z B0 lay μ tb r hI a hK) (xw_at tW_13 38 rfl) (0, 0) cX_X rfl rfl rfl rfl (by rfl) (Nat.le_of_ble_eq_true rfl) (xdec_at tL_long0_0 4 rfl) ⟨(Nat.le_of_ble_eq_true rfl), (Nat.le_of_ble_eq_true rfl)⟩ ⟨(Nat.le_of_ble_eq_true rfl), (Nat.le_of_ble_eq_true rfl)⟩ ?_ ?_
  · rintro v9 lay9 C9 ⟨rfl, rfl, h0, rfl⟩
    obtain ⟨e1, e2⟩ := hk h0
    refine v_goto (tgt := 58) X (xdec_at tL_long0_0 5 rfl) (by decide) ?_
    exact v_xr (v_lret X hr (xdec_at tL_long0_0 32 rfl) (Nat.le_of_ble_eq_true rfl) (Nat.le_of_ble_eq_true rfl) ⟨by rw [e1], fun _ _ => rfl, rfl, e2 lay⟩)
  · intro E q hq
    obtain ⟨hw, ⟨rfl, hans⟩ | ⟨rfl, hans⟩⟩ := hx E hq
    · refine ⟨59, hnd_1 ht (Or.inl rfl) rfl (by decide) (xw_at tW_6 15 rfl), ?_⟩
      refine v_astore (lv' := [some (.ref (lay (0, 0))), some (.int 0), some (.int a), some (.int b), some (.ref q)]) X (xdec_at tL_long0_0 33 rfl) (by decide) rfl ?_
      refine v_ldc2 (v := -9000000000000000001) X (xw_at tW_14 5 rfl) (xdec_at tL_long0_0 34 rfl) ?_
      rw [hw]
      exact v_xr (v_lret X hr (xdec_at tL_long0_0 35 rfl) (by omega) (by omega) ⟨by rw [hans], fun _ _ => rfl, rfl, rfl⟩)
    · refine ⟨65, hnd_2 ht (Or.inr (Or.inl rfl)) (by decide) (xw_at tW_6 15 rfl) hE.2.1 rfl (by decide) (xw_at tW_6 16 rfl), ?_⟩
      refine v_astore (lv' := [some (.ref (lay (0, 0))), some (.int 0), some (.int a), some (.int b), some (.ref q)]) X (xdec_at tL_long0_0 36 rfl) (by decide) rfl ?_
      refine v_ldc2 (v := -9000000000000000002) X (xw_at tW_14 6 rfl) (xdec_at tL_long0_0 37 rfl) ?_
      rw [hw]
      exact v_xr (v_lret X hr (xdec_at tL_long0_0 38 rfl) (by omega) (by omega) ⟨by rw [hans], fun _ _ => rfl, rfl, rfl⟩)
set_option maxRecDepth 100000 in
set_option maxHeartbeats 4000000 in
theorem long_ofThing {l : Launch} (hl0 : l.stackTraces = false) {Z : xZ} {B0 : Nat} {lay : xK → Nat} {μ ν : Mu} {tb : Tb} {r : xK → Option xE} {a b : Int32} {ans : Int64} (hI : RI μ) (hK : KI μ) (hk : (M_ofThing μ a b).2.1 38 0 = 0 → ans = (M_ofThing μ a b).1 ∧ ∀ lay', cX Z lay' (M_ofThing μ a b).2 tb r = cX Z lay' ν tb r) (hx : ∀ E, ((E = eO ∧ (M_ofThing μ a b).2.1 38 0 = 1) ∨ (E = eA ∧ (M_ofThing μ a b).2.1 38 0 = 2)) → cX Z lay μ tb r = cX Z lay ν tb r ∧ ((E = eO ∧ ans = -9000000000000000001) ∨ (E = eA ∧ ans = -9000000000000000002))) : YC l yL_long0 cL_long0 5 (some FieldType.long) [(0, 58, 59, 15), (0, 58, 65, 18)] 21 760 2 12 Z B0 [.ref (lay (0, 0)), .int 1, .int a, .int b] lay (cX Z lay μ tb r) (fun v lay' C' => v = some (.long ans) ∧ lyB lay lay' ∧ lay' (0, 0) = lay (0, 0) ∧ C' = cX Z lay' ν tb r) := by
  refine YC_of mw_long0 RL rfl [some (.ref (lay (0, 0))), some (.int 1), some (.int a), some (.int b), none] rfl (Nat.le_of_ble_eq_true rfl) ?_
  intro P1 P2 P3 P4 P5 P6 P7 P8 X hr hE ht
  refine v_iload_n X (xdec_at tL_long0_0 0 rfl) rfl rfl ?_
  refine v_if_ne (tgt := 12) X (xdec_at tL_long0_0 1 rfl) (by decide) (fun _ => ?_) (fun h9 => absurd h9 (by decide))
  refine v_iload_n X (xdec_at tL_long0_0 6 rfl) rfl rfl ?_
  refine v_iconst (v := 1) X (xdec_at tL_long0_0 7 rfl) (by decide) ?_
  refine v_icmp_ne (tgt := 26) X (xdec_at tL_long0_0 8 rfl) (by decide) (fun h9 => absurd h9 (by decide)) (fun _ => ?_)
  refine v_aload_n X (xdec_at tL_long0_0 9 rfl) rfl rfl ?_
  refine v_iload_n X (xdec_at tL_long0_0 10 rfl) rfl rfl ?_
  refine v_iload_n X (xdec_at tL_long0_0 11 rfl) rfl rfl ?_
  refine v_wV X hE myX4_ofThing [.int a, .int b] [] (kyX4_ofThing l hl0 Z B0 lay μ tb r hI a b hK) (xw_at tW_5 30 rfl) (0, 0) cX_X rfl rfl rfl rfl (by rfl) (Nat.le_of_ble_eq_true rfl) (xdec_at tL_long0_0 12 rfl) ⟨(Nat.le_of_ble_eq_true rfl), (Nat.le_of_ble_eq_true rfl)⟩ ⟨(Nat.le_of_ble_eq_true rfl), (Nat.le_of_ble_eq_true rfl)⟩ ?_ ?_
  · rintro v9 lay9 C9 ⟨rfl, rfl, h0, rfl⟩
    obtain ⟨e1, e2⟩ := hk h0
    refine v_goto (tgt := 58) X (xdec_at tL_long0_0 13 rfl) (by decide) ?_
    exact v_xr (v_lret X hr (xdec_at tL_long0_0 32 rfl) (Nat.le_of_ble_eq_true rfl) (Nat.le_of_ble_eq_true rfl) ⟨by rw [e1], fun _ _ => rfl, rfl, e2 lay⟩)
  · intro E q hq
    obtain ⟨hw, ⟨rfl, hans⟩ | ⟨rfl, hans⟩⟩ := hx E hq
    · refine ⟨59, hnd_1 ht (Or.inl rfl) rfl (by decide) (xw_at tW_6 15 rfl), ?_⟩
      refine v_astore (lv' := [some (.ref (lay (0, 0))), some (.int 1), some (.int a), some (.int b), some (.ref q)]) X (xdec_at tL_long0_0 33 rfl) (by decide) rfl ?_
      refine v_ldc2 (v := -9000000000000000001) X (xw_at tW_14 5 rfl) (xdec_at tL_long0_0 34 rfl) ?_
      rw [hw]
      exact v_xr (v_lret X hr (xdec_at tL_long0_0 35 rfl) (by omega) (by omega) ⟨by rw [hans], fun _ _ => rfl, rfl, rfl⟩)
    · refine ⟨65, hnd_2 ht (Or.inr (Or.inl rfl)) (by decide) (xw_at tW_6 15 rfl) hE.2.1 rfl (by decide) (xw_at tW_6 16 rfl), ?_⟩
      refine v_astore (lv' := [some (.ref (lay (0, 0))), some (.int 1), some (.int a), some (.int b), some (.ref q)]) X (xdec_at tL_long0_0 36 rfl) (by decide) rfl ?_
      refine v_ldc2 (v := -9000000000000000002) X (xw_at tW_14 6 rfl) (xdec_at tL_long0_0 37 rfl) ?_
      rw [hw]
      exact v_xr (v_lret X hr (xdec_at tL_long0_0 38 rfl) (by omega) (by omega) ⟨by rw [hans], fun _ _ => rfl, rfl, rfl⟩)
set_option maxRecDepth 100000 in
set_option maxHeartbeats 4000000 in
theorem long_account {l : Launch} (hl0 : l.stackTraces = false) {Z : xZ} {B0 : Nat} {lay : xK → Nat} {μ ν : Mu} {tb : Tb} {r : xK → Option xE} {a b : Int32} {ans : Int64} (hI : RI μ) (hK : KI μ) (hk : (M_account μ a).2.1 38 0 = 0 → ans = (M_account μ a).1 ∧ ∀ lay', cX Z lay' (M_account μ a).2 tb r = cX Z lay' ν tb r) (hx : ∀ E, ((E = eO ∧ (M_account μ a).2.1 38 0 = 1)) → cX Z lay μ tb r = cX Z lay ν tb r ∧ ((E = eO ∧ ans = -9000000000000000001) ∨ (E = eA ∧ ans = -9000000000000000002))) : YC l yL_long0 cL_long0 5 (some FieldType.long) [(0, 58, 59, 15), (0, 58, 65, 18)] 21 760 2 12 Z B0 [.ref (lay (0, 0)), .int 2, .int a, .int b] lay (cX Z lay μ tb r) (fun v lay' C' => v = some (.long ans) ∧ lyB lay lay' ∧ lay' (0, 0) = lay (0, 0) ∧ C' = cX Z lay' ν tb r) := by
  refine YC_of mw_long0 RL rfl [some (.ref (lay (0, 0))), some (.int 2), some (.int a), some (.int b), none] rfl (Nat.le_of_ble_eq_true rfl) ?_
  intro P1 P2 P3 P4 P5 P6 P7 P8 X hr hE ht
  refine v_iload_n X (xdec_at tL_long0_0 0 rfl) rfl rfl ?_
  refine v_if_ne (tgt := 12) X (xdec_at tL_long0_0 1 rfl) (by decide) (fun _ => ?_) (fun h9 => absurd h9 (by decide))
  refine v_iload_n X (xdec_at tL_long0_0 6 rfl) rfl rfl ?_
  refine v_iconst (v := 1) X (xdec_at tL_long0_0 7 rfl) (by decide) ?_
  refine v_icmp_ne (tgt := 26) X (xdec_at tL_long0_0 8 rfl) (by decide) (fun _ => ?_) (fun h9 => absurd h9 (by decide))
  refine v_iload_n X (xdec_at tL_long0_0 14 rfl) rfl rfl ?_
  refine v_iconst (v := 2) X (xdec_at tL_long0_0 15 rfl) (by decide) ?_
  refine v_icmp_ne (tgt := 39) X (xdec_at tL_long0_0 16 rfl) (by decide) (fun h9 => absurd h9 (by decide)) (fun _ => ?_)
  refine v_aload_n X (xdec_at tL_long0_0 17 rfl) rfl rfl ?_
  refine v_iload_n X (xdec_at tL_long0_0 18 rfl) rfl rfl ?_
  refine v_wV X hE myX4_account [.int a] [] (kyX4_account l hl0 Z B0 lay μ tb r hI a) (xw_at tW_2 35 rfl) (0, 0) cX_X rfl rfl rfl rfl (by rfl) (Nat.le_of_ble_eq_true rfl) (xdec_at tL_long0_0 19 rfl) ⟨(Nat.le_of_ble_eq_true rfl), (Nat.le_of_ble_eq_true rfl)⟩ ⟨(Nat.le_of_ble_eq_true rfl), (Nat.le_of_ble_eq_true rfl)⟩ ?_ ?_
  · rintro v9 lay9 C9 ⟨rfl, rfl, h0, rfl⟩
    obtain ⟨e1, e2⟩ := hk h0
    refine v_goto (tgt := 58) X (xdec_at tL_long0_0 20 rfl) (by decide) ?_
    exact v_xr (v_lret X hr (xdec_at tL_long0_0 32 rfl) (Nat.le_of_ble_eq_true rfl) (Nat.le_of_ble_eq_true rfl) ⟨by rw [e1], fun _ _ => rfl, rfl, e2 lay⟩)
  · intro E q hq
    obtain ⟨hw, ⟨rfl, hans⟩ | ⟨rfl, hans⟩⟩ := hx E hq
    · refine ⟨59, hnd_1 ht (Or.inl rfl) rfl (by decide) (xw_at tW_6 15 rfl), ?_⟩
      refine v_astore (lv' := [some (.ref (lay (0, 0))), some (.int 2), some (.int a), some (.int b), some (.ref q)]) X (xdec_at tL_long0_0 33 rfl) (by decide) rfl ?_
      refine v_ldc2 (v := -9000000000000000001) X (xw_at tW_14 5 rfl) (xdec_at tL_long0_0 34 rfl) ?_
      rw [hw]
      exact v_xr (v_lret X hr (xdec_at tL_long0_0 35 rfl) (by omega) (by omega) ⟨by rw [hans], fun _ _ => rfl, rfl, rfl⟩)
    · refine ⟨65, hnd_2 ht (Or.inr (Or.inl rfl)) (by decide) (xw_at tW_6 15 rfl) hE.2.1 rfl (by decide) (xw_at tW_6 16 rfl), ?_⟩
      refine v_astore (lv' := [some (.ref (lay (0, 0))), some (.int 2), some (.int a), some (.int b), some (.ref q)]) X (xdec_at tL_long0_0 36 rfl) (by decide) rfl ?_
      refine v_ldc2 (v := -9000000000000000002) X (xw_at tW_14 6 rfl) (xdec_at tL_long0_0 37 rfl) ?_
      rw [hw]
      exact v_xr (v_lret X hr (xdec_at tL_long0_0 38 rfl) (by omega) (by omega) ⟨by rw [hans], fun _ _ => rfl, rfl, rfl⟩)
set_option maxRecDepth 100000 in
set_option maxHeartbeats 4000000 in
theorem long_till {l : Launch} (hl0 : l.stackTraces = false) {Z : xZ} {B0 : Nat} {lay : xK → Nat} {μ ν : Mu} {tb : Tb} {r : xK → Option xE} {a b : Int32} {ans : Int64} (hI : RI μ) (hK : KI μ) (hk : (M_till μ a).2.1 38 0 = 0 → ans = (M_till μ a).1 ∧ ∀ lay', cX Z lay' (M_till μ a).2 tb r = cX Z lay' ν tb r) (hx : ∀ E, ((E = eO ∧ (M_till μ a).2.1 38 0 = 1)) → cX Z lay μ tb r = cX Z lay ν tb r ∧ ((E = eO ∧ ans = -9000000000000000001) ∨ (E = eA ∧ ans = -9000000000000000002))) : YC l yL_long0 cL_long0 5 (some FieldType.long) [(0, 58, 59, 15), (0, 58, 65, 18)] 21 760 2 12 Z B0 [.ref (lay (0, 0)), .int 3, .int a, .int b] lay (cX Z lay μ tb r) (fun v lay' C' => v = some (.long ans) ∧ lyB lay lay' ∧ lay' (0, 0) = lay (0, 0) ∧ C' = cX Z lay' ν tb r) := by
  refine YC_of mw_long0 RL rfl [some (.ref (lay (0, 0))), some (.int 3), some (.int a), some (.int b), none] rfl (Nat.le_of_ble_eq_true rfl) ?_
  intro P1 P2 P3 P4 P5 P6 P7 P8 X hr hE ht
  refine v_iload_n X (xdec_at tL_long0_0 0 rfl) rfl rfl ?_
  refine v_if_ne (tgt := 12) X (xdec_at tL_long0_0 1 rfl) (by decide) (fun _ => ?_) (fun h9 => absurd h9 (by decide))
  refine v_iload_n X (xdec_at tL_long0_0 6 rfl) rfl rfl ?_
  refine v_iconst (v := 1) X (xdec_at tL_long0_0 7 rfl) (by decide) ?_
  refine v_icmp_ne (tgt := 26) X (xdec_at tL_long0_0 8 rfl) (by decide) (fun _ => ?_) (fun h9 => absurd h9 (by decide))
  refine v_iload_n X (xdec_at tL_long0_0 14 rfl) rfl rfl ?_
  refine v_iconst (v := 2) X (xdec_at tL_long0_0 15 rfl) (by decide) ?_
  refine v_icmp_ne (tgt := 39) X (xdec_at tL_long0_0 16 rfl) (by decide) (fun _ => ?_) (fun h9 => absurd h9 (by decide))
  refine v_iload_n X (xdec_at tL_long0_0 21 rfl) rfl rfl ?_
  refine v_iconst (v := 3) X (xdec_at tL_long0_0 22 rfl) (by decide) ?_
  refine v_icmp_ne (tgt := 52) X (xdec_at tL_long0_0 23 rfl) (by decide) (fun h9 => absurd h9 (by decide)) (fun _ => ?_)
  refine v_aload_n X (xdec_at tL_long0_0 24 rfl) rfl rfl ?_
  refine v_iload_n X (xdec_at tL_long0_0 25 rfl) rfl rfl ?_
  refine v_wV X hE myX4_till [.int a] [] (kyX4_till l hl0 Z B0 lay μ tb r hI a) (xw_at tW_4 9 rfl) (0, 0) cX_X rfl rfl rfl rfl (by rfl) (Nat.le_of_ble_eq_true rfl) (xdec_at tL_long0_0 26 rfl) ⟨(Nat.le_of_ble_eq_true rfl), (Nat.le_of_ble_eq_true rfl)⟩ ⟨(Nat.le_of_ble_eq_true rfl), (Nat.le_of_ble_eq_true rfl)⟩ ?_ ?_
  · rintro v9 lay9 C9 ⟨rfl, rfl, h0, rfl⟩
    obtain ⟨e1, e2⟩ := hk h0
    refine v_goto (tgt := 58) X (xdec_at tL_long0_0 27 rfl) (by decide) ?_
    exact v_xr (v_lret X hr (xdec_at tL_long0_0 32 rfl) (Nat.le_of_ble_eq_true rfl) (Nat.le_of_ble_eq_true rfl) ⟨by rw [e1], fun _ _ => rfl, rfl, e2 lay⟩)
  · intro E q hq
    obtain ⟨hw, ⟨rfl, hans⟩ | ⟨rfl, hans⟩⟩ := hx E hq
    · refine ⟨59, hnd_1 ht (Or.inl rfl) rfl (by decide) (xw_at tW_6 15 rfl), ?_⟩
      refine v_astore (lv' := [some (.ref (lay (0, 0))), some (.int 3), some (.int a), some (.int b), some (.ref q)]) X (xdec_at tL_long0_0 33 rfl) (by decide) rfl ?_
      refine v_ldc2 (v := -9000000000000000001) X (xw_at tW_14 5 rfl) (xdec_at tL_long0_0 34 rfl) ?_
      rw [hw]
      exact v_xr (v_lret X hr (xdec_at tL_long0_0 35 rfl) (by omega) (by omega) ⟨by rw [hans], fun _ _ => rfl, rfl, rfl⟩)
    · refine ⟨65, hnd_2 ht (Or.inr (Or.inl rfl)) (by decide) (xw_at tW_6 15 rfl) hE.2.1 rfl (by decide) (xw_at tW_6 16 rfl), ?_⟩
      refine v_astore (lv' := [some (.ref (lay (0, 0))), some (.int 3), some (.int a), some (.int b), some (.ref q)]) X (xdec_at tL_long0_0 36 rfl) (by decide) rfl ?_
      refine v_ldc2 (v := -9000000000000000002) X (xw_at tW_14 6 rfl) (xdec_at tL_long0_0 37 rfl) ?_
      rw [hw]
      exact v_xr (v_lret X hr (xdec_at tL_long0_0 38 rfl) (by omega) (by omega) ⟨by rw [hans], fun _ _ => rfl, rfl, rfl⟩)
set_option maxRecDepth 100000 in
set_option maxHeartbeats 4000000 in
theorem long_counted {l : Launch} (hl0 : l.stackTraces = false) {Z : xZ} {B0 : Nat} {lay : xK → Nat} {μ ν : Mu} {tb : Tb} {r : xK → Option xE} {a b : Int32} {ans : Int64} (hI : RI μ) (hK : KI μ) (hk : (M_counted μ a b).2.1 38 0 = 0 → ans = (M_counted μ a b).1 ∧ ∀ lay', cX Z lay' (M_counted μ a b).2 tb r = cX Z lay' ν tb r) (hx : ∀ E, ((E = eO ∧ (M_counted μ a b).2.1 38 0 = 1)) → cX Z lay μ tb r = cX Z lay ν tb r ∧ ((E = eO ∧ ans = -9000000000000000001) ∨ (E = eA ∧ ans = -9000000000000000002))) : YC l yL_long0 cL_long0 5 (some FieldType.long) [(0, 58, 59, 15), (0, 58, 65, 18)] 21 760 2 12 Z B0 [.ref (lay (0, 0)), .int 4, .int a, .int b] lay (cX Z lay μ tb r) (fun v lay' C' => v = some (.long ans) ∧ lyB lay lay' ∧ lay' (0, 0) = lay (0, 0) ∧ C' = cX Z lay' ν tb r) := by
  refine YC_of mw_long0 RL rfl [some (.ref (lay (0, 0))), some (.int 4), some (.int a), some (.int b), none] rfl (Nat.le_of_ble_eq_true rfl) ?_
  intro P1 P2 P3 P4 P5 P6 P7 P8 X hr hE ht
  refine v_iload_n X (xdec_at tL_long0_0 0 rfl) rfl rfl ?_
  refine v_if_ne (tgt := 12) X (xdec_at tL_long0_0 1 rfl) (by decide) (fun _ => ?_) (fun h9 => absurd h9 (by decide))
  refine v_iload_n X (xdec_at tL_long0_0 6 rfl) rfl rfl ?_
  refine v_iconst (v := 1) X (xdec_at tL_long0_0 7 rfl) (by decide) ?_
  refine v_icmp_ne (tgt := 26) X (xdec_at tL_long0_0 8 rfl) (by decide) (fun _ => ?_) (fun h9 => absurd h9 (by decide))
  refine v_iload_n X (xdec_at tL_long0_0 14 rfl) rfl rfl ?_
  refine v_iconst (v := 2) X (xdec_at tL_long0_0 15 rfl) (by decide) ?_
  refine v_icmp_ne (tgt := 39) X (xdec_at tL_long0_0 16 rfl) (by decide) (fun _ => ?_) (fun h9 => absurd h9 (by decide))
  refine v_iload_n X (xdec_at tL_long0_0 21 rfl) rfl rfl ?_
  refine v_iconst (v := 3) X (xdec_at tL_long0_0 22 rfl) (by decide) ?_
  refine v_icmp_ne (tgt := 52) X (xdec_at tL_long0_0 23 rfl) (by decide) (fun _ => ?_) (fun h9 => absurd h9 (by decide))
  refine v_aload_n X (xdec_at tL_long0_0 28 rfl) rfl rfl ?_
  refine v_iload_n X (xdec_at tL_long0_0 29 rfl) rfl rfl ?_
  refine v_iload_n X (xdec_at tL_long0_0 30 rfl) rfl rfl ?_
  refine v_wV X hE myX4_counted [.int a, .int b] [] (kyX4_counted l hl0 Z B0 lay μ tb r hI a b) (xw_at tW_4 33 rfl) (0, 0) cX_X rfl rfl rfl rfl (by rfl) (Nat.le_of_ble_eq_true rfl) (xdec_at tL_long0_0 31 rfl) ⟨(Nat.le_of_ble_eq_true rfl), (Nat.le_of_ble_eq_true rfl)⟩ ⟨(Nat.le_of_ble_eq_true rfl), (Nat.le_of_ble_eq_true rfl)⟩ ?_ ?_
  · rintro v9 lay9 C9 ⟨rfl, rfl, h0, rfl⟩
    obtain ⟨e1, e2⟩ := hk h0
    exact v_xr (v_lret X hr (xdec_at tL_long0_0 32 rfl) (Nat.le_of_ble_eq_true rfl) (Nat.le_of_ble_eq_true rfl) ⟨by rw [e1], fun _ _ => rfl, rfl, e2 lay⟩)
  · intro E q hq
    obtain ⟨hw, ⟨rfl, hans⟩ | ⟨rfl, hans⟩⟩ := hx E hq
    · refine ⟨59, hnd_1 ht (Or.inl rfl) rfl (by decide) (xw_at tW_6 15 rfl), ?_⟩
      refine v_astore (lv' := [some (.ref (lay (0, 0))), some (.int 4), some (.int a), some (.int b), some (.ref q)]) X (xdec_at tL_long0_0 33 rfl) (by decide) rfl ?_
      refine v_ldc2 (v := -9000000000000000001) X (xw_at tW_14 5 rfl) (xdec_at tL_long0_0 34 rfl) ?_
      rw [hw]
      exact v_xr (v_lret X hr (xdec_at tL_long0_0 35 rfl) (by omega) (by omega) ⟨by rw [hans], fun _ _ => rfl, rfl, rfl⟩)
    · refine ⟨65, hnd_2 ht (Or.inr (Or.inl rfl)) (by decide) (xw_at tW_6 15 rfl) hE.2.1 rfl (by decide) (xw_at tW_6 16 rfl), ?_⟩
      refine v_astore (lv' := [some (.ref (lay (0, 0))), some (.int 4), some (.int a), some (.int b), some (.ref q)]) X (xdec_at tL_long0_0 36 rfl) (by decide) rfl ?_
      refine v_ldc2 (v := -9000000000000000002) X (xw_at tW_14 6 rfl) (xdec_at tL_long0_0 37 rfl) ?_
      rw [hw]
      exact v_xr (v_lret X hr (xdec_at tL_long0_0 38 rfl) (by omega) (by omega) ⟨by rw [hans], fun _ _ => rfl, rfl, rfl⟩)
theorem some_in {x : Int32} {n : Nat} (h0 : 0 < n) (hn : n < 2 ^ 31) : ∃ j, j < n ∧ ((x.toUInt32 >>> ((1 : Int32).toUInt32 &&& Int32.toUInt32 31)).toInt32 - (x.toUInt32 >>> ((1 : Int32).toUInt32 &&& Int32.toUInt32 31)).toInt32 / nI n * nI n) = nI j := by
  obtain ⟨q, hq, e⟩ : ∃ q : Nat, q < 2 ^ 31 ∧ (x.toUInt32 >>> ((1 : Int32).toUInt32 &&& Int32.toUInt32 31)).toInt32 = nI q := by
    refine ⟨x.toBitVec.toNat / 2, by have := x.toBitVec.isLt; omega, ?_⟩
    apply Int32.toBitVec_inj.mp
    apply BitVec.eq_of_toNat_eq
    rw [pk_ushr x 1 1 (by decide)]
    rw [pk_tn (by have := x.toBitVec.isLt; omega)]
  rw [e]
  exact ⟨q % n, Nat.mod_lt _ h0, pk_rem hq h0 hn⟩
set_option maxRecDepth 100000 in
set_option maxHeartbeats 4000000 in
theorem c_some {l : Launch} {Z : xZ} {B0 : Nat} {lay : xK → Nat} {C : xK → Option xE} (x : Int32) {n : Nat} (h0 : 0 < n) (hn : n < 2 ^ 31) : YL l yL_some cL_some 2 (some FieldType.int) 0 0 0 0 Z B0 [.int x, .int (nI n)] lay C (fun v lay' C' => lay = lay' ∧ C = C' ∧ ∃ j, j < n ∧ v = some (.int (nI j))) := by
  refine YL_of myL_some.2 RL rfl [some (.int x), some (.int (nI n))] rfl (Nat.le_of_ble_eq_true rfl) ?_
  intro P1 P2 P3 P4 P5 P6 P7 P8 X hr hE
  refine v_iload_n X (xdec_at tL_some_0 0 rfl) rfl rfl ?_
  refine v_iconst (v := 1) X (xdec_at tL_some_0 1 rfl) (by decide) ?_
  refine v_iushr X (xdec_at tL_some_0 2 rfl) rfl ?_
  refine v_iload_n X (xdec_at tL_some_0 3 rfl) rfl rfl ?_
  refine v_irem X (xdec_at tL_some_0 4 rfl) (nI_ne0 h0 hn) ?_
  obtain ⟨j, hj, ej⟩ := some_in (x := x) h0 hn
  exact v_xr (v_iret X hr (xdec_at tL_some_0 5 rfl) (Nat.le_of_ble_eq_true rfl) (Nat.le_of_ble_eq_true rfl) ⟨rfl, rfl, j, hj, by rw [← ej]⟩)
theorem isP_n {μ : Mu} (hI : RI μ) {p : Nat} (h : p < nP μ) : isP μ (nI p) ∧ ix (nI p) = p := by
  obtain ⟨P, hP, e⟩ := hI.1
  have e1 := nP_of hP e
  refine ⟨?_, ix_nI (by omega)⟩
  unfold isP
  rw [e]
  exact inR_to (by omega) (by omega)
theorem isT_n {μ : Mu} (hI : RI μ) {p : Nat} (h : p < nT μ) : isT μ (nI p) ∧ ix (nI p) = p := by
  obtain ⟨P, hP, e⟩ := hI.2.2.1
  have e1 := nT_of hP e
  refine ⟨?_, ix_nI (by omega)⟩
  unfold isT
  rw [e]
  exact inR_to (by omega) (by omega)
theorem isG_n {μ : Mu} (hI : RI μ) {p : Nat} (h : p < nG μ) : inR (nI p) 0 (μ.1 10 0 - 1) ∧ ix (nI p) = p := by
  obtain ⟨P, hP, e⟩ := hI.2.1
  have e1 := nG_of hP e
  refine ⟨?_, ix_nI (by omega)⟩
  rw [e]
  exact inR_to (by omega) (by omega)
/-- days and next by posts' numbers -/
def dY (μ : Mu) (p q : Nat) : Int32 := (M_told μ (nI p) (nI q)).1
def nX (μ : Mu) (p q : Nat) : Int32 := (M_nextOf μ (nI p) (nI q)).1
theorem qy_account {l : Launch} (hl0 : l.stackTraces = false) {Z : xZ} {B0 : Nat} {lay : xK → Nat} {μ : Mu} {tb : Tb} {r : xK → Option xE} {p : Nat} (hI : RI μ) (h1 : p < nP μ) : YX l yX4_account cX4_account 2 ((some FieldType.long)) 7 111 1 6 Z B0 [.ref (lay (0, 0)), .int (nI p)] lay (cX Z lay μ tb r) (fun v lay' C' => lay = lay' ∧ v = some (.long (μ.2 7 p)) ∧ C' = cX Z lay μ tb r) (fun _ => False) := by
  have hp := isP_n hI h1
  have eM : M_account μ (nI p) = (μ.2 7 p, th μ 0) := by unfold M_account; rw [if_pos hp.1, hp.2]
  have eV : (M_account μ (nI p)).1 = μ.2 7 p := by rw [eM]
  have e0 : (M_account μ (nI p)).2.1 38 0 = 0 := by rw [eM]; exact th_38 μ 0
  have eC : cX Z lay (M_account μ (nI p)).2 tb r = cX Z lay μ tb r := by rw [eM]; exact cX_th 0
  refine YX_mono (kyX4_account l hl0 Z B0 lay μ tb r hI (nI p)) ?_ ?_
  · rintro v9 lay9 C9 ⟨rfl, rfl, -, rfl⟩
    exact ⟨rfl, by rw [eV], eC⟩
  · rintro E ⟨-, hT⟩
    exact absurd (e0.symm.trans hT) (by decide)
theorem qy_till {l : Launch} (hl0 : l.stackTraces = false) {Z : xZ} {B0 : Nat} {lay : xK → Nat} {μ : Mu} {tb : Tb} {r : xK → Option xE} {p : Nat} (hI : RI μ) (h1 : p < nP μ) : YX l yX4_till cX4_till 2 ((some FieldType.long)) 7 111 1 6 Z B0 [.ref (lay (0, 0)), .int (nI p)] lay (cX Z lay μ tb r) (fun v lay' C' => lay = lay' ∧ v = some (.long (μ.2 8 p)) ∧ C' = cX Z lay μ tb r) (fun _ => False) := by
  have hp := isP_n hI h1
  have eM : M_till μ (nI p) = (μ.2 8 p, th μ 0) := by unfold M_till; rw [if_pos hp.1, hp.2]
  have eV : (M_till μ (nI p)).1 = μ.2 8 p := by rw [eM]
  have e0 : (M_till μ (nI p)).2.1 38 0 = 0 := by rw [eM]; exact th_38 μ 0
  have eC : cX Z lay (M_till μ (nI p)).2 tb r = cX Z lay μ tb r := by rw [eM]; exact cX_th 0
  refine YX_mono (kyX4_till l hl0 Z B0 lay μ tb r hI (nI p)) ?_ ?_
  · rintro v9 lay9 C9 ⟨rfl, rfl, -, rfl⟩
    exact ⟨rfl, by rw [eV], eC⟩
  · rintro E ⟨-, hT⟩
    exact absurd (e0.symm.trans hT) (by decide)
theorem qy_counted {l : Launch} (hl0 : l.stackTraces = false) {Z : xZ} {B0 : Nat} {lay : xK → Nat} {μ : Mu} {tb : Tb} {r : xK → Option xE} {p q : Nat} (hI : RI μ) (h1 : p < nP μ) (h2 : q < nP μ) : YX l yX4_counted cX4_counted 5 ((some FieldType.long)) 7 111 2 12 Z B0 [.ref (lay (0, 0)), .int (nI p), .int (nI q)] lay (cX Z lay μ tb r) (fun v lay' C' => lay = lay' ∧ v = some (.long (μ.2 9 (8 * p + q))) ∧ C' = cX Z lay μ tb r) (fun _ => False) := by
  have hp := isP_n hI h1
  have hq := isP_n hI h2
  have eM : M_counted μ (nI p) (nI q) = (μ.2 9 (8 * p + q), th μ 0) := by unfold M_counted; rw [if_pos ⟨hp.1, hq.1⟩, i8k hI hp.1 hq.1, hp.2, hq.2]
  have eV : (M_counted μ (nI p) (nI q)).1 = μ.2 9 (8 * p + q) := by rw [eM]
  have e0 : (M_counted μ (nI p) (nI q)).2.1 38 0 = 0 := by rw [eM]; exact th_38 μ 0
  have eC : cX Z lay (M_counted μ (nI p) (nI q)).2 tb r = cX Z lay μ tb r := by rw [eM]; exact cX_th 0
  refine YX_mono (kyX4_counted l hl0 Z B0 lay μ tb r hI (nI p) (nI q)) ?_ ?_
  · rintro v9 lay9 C9 ⟨rfl, rfl, -, rfl⟩
    exact ⟨rfl, by rw [eV], eC⟩
  · rintro E ⟨-, hT⟩
    exact absurd (e0.symm.trans hT) (by decide)
theorem qy_days {l : Launch} (hl0 : l.stackTraces = false) {Z : xZ} {B0 : Nat} {lay : xK → Nat} {μ : Mu} {tb : Tb} {r : xK → Option xE} {p q : Nat} (hI : RI μ) (hTS : TS μ tb.1) (h1 : p < nP μ) (h2 : q < nP μ) : YX l yX4_days cX4_days 3 ((some FieldType.int)) 7 111 2 12 Z B0 [.ref (lay (0, 0)), .int (nI p), .int (nI q)] lay (cX Z lay μ tb r) (fun v lay' C' => lay = lay' ∧ v = some (.int (dY μ p q)) ∧ C' = cX Z lay μ tb r) (fun _ => False) := by
  have hp := isP_n hI h1
  have hq := isP_n hI h2
  have hm := told_m (Z := Z) (lay := lay) (tb := tb) (r := r) hp.1 hq.1
  have eV : (M_told μ (nI p) (nI q)).1 = dY μ p q := rfl
  have e0 : (M_told μ (nI p) (nI q)).2.1 38 0 = 0 := hm.1
  have eC : cX Z lay (M_told μ (nI p) (nI q)).2 tb r = cX Z lay μ tb r := hm.2.symm
  refine YX_mono (kyX4_days l hl0 Z B0 lay μ tb r hI (nI p) (nI q) hTS) ?_ ?_
  · rintro v9 lay9 C9 ⟨rfl, rfl, -, rfl⟩
    exact ⟨rfl, by rw [eV], eC⟩
  · rintro E ⟨-, hT⟩
    exact absurd (e0.symm.trans hT) (by decide)
theorem qy_daysAnew {l : Launch} (hl0 : l.stackTraces = false) {Z : xZ} {B0 : Nat} {lay : xK → Nat} {μ : Mu} {tb : Tb} {r : xK → Option xE} {p q : Nat} (hI : RI μ) (hTS : TS μ tb.1) (h1 : p < nP μ) (h2 : q < nP μ) : YX l yX4_daysAnew cX4_daysAnew 3 ((some FieldType.int)) 12 590 2 12 Z B0 [.ref (lay (0, 0)), .int (nI p), .int (nI q)] lay (cX Z lay μ tb r) (fun v lay' C' => lay = lay' ∧ v = some (.int (dY μ p q)) ∧ C' = cX Z lay μ tb r) (fun _ => False) := by
  have hp := isP_n hI h1
  have hq := isP_n hI h2
  have hm := told_m (Z := Z) (lay := lay) (tb := tb) (r := r) hp.1 hq.1
  have eV : (M_told μ (nI p) (nI q)).1 = dY μ p q := rfl
  have e0 : (M_told μ (nI p) (nI q)).2.1 38 0 = 0 := hm.1
  have eC : cX Z lay (M_told μ (nI p) (nI q)).2 tb r = cX Z lay μ tb r := hm.2.symm
  refine YX_mono (kyX4_daysAnew l hl0 Z B0 lay μ tb r hI (nI p) (nI q) hTS) ?_ ?_
  · rintro v9 lay9 C9 ⟨rfl, rfl, -, rfl⟩
    exact ⟨rfl, by rw [eV], eC⟩
  · rintro E ⟨-, hT⟩
    exact absurd (e0.symm.trans hT) (by decide)
theorem qy_next {l : Launch} (hl0 : l.stackTraces = false) {Z : xZ} {B0 : Nat} {lay : xK → Nat} {μ : Mu} {tb : Tb} {r : xK → Option xE} {p q : Nat} (hI : RI μ) (hTS : TS μ tb.1) (h1 : p < nP μ) (h2 : q < nP μ) : YX l yX4_next cX4_next 3 ((some FieldType.int)) 7 111 2 12 Z B0 [.ref (lay (0, 0)), .int (nI p), .int (nI q)] lay (cX Z lay μ tb r) (fun v lay' C' => lay = lay' ∧ v = some (.int (nX μ p q)) ∧ C' = cX Z lay μ tb r) (fun _ => False) := by
  have hp := isP_n hI h1
  have hq := isP_n hI h2
  have hm := next_m (Z := Z) (lay := lay) (tb := tb) (r := r) hp.1 hq.1
  have eV : (M_next μ (nI p) (nI q)).1 = nX μ p q := next_1 hp.1 hq.1
  have e0 : (M_next μ (nI p) (nI q)).2.1 38 0 = 0 := hm.1
  have eC : cX Z lay (M_next μ (nI p) (nI q)).2 tb r = cX Z lay μ tb r := hm.2.symm
  refine YX_mono (kyX4_next l hl0 Z B0 lay μ tb r hI (nI p) (nI q) hTS) ?_ ?_
  · rintro v9 lay9 C9 ⟨rfl, rfl, -, rfl⟩
    exact ⟨rfl, by rw [eV], eC⟩
  · rintro E ⟨-, hT⟩
    exact absurd (e0.symm.trans hT) (by decide)
theorem qy_rate {l : Launch} (hl0 : l.stackTraces = false) {Z : xZ} {B0 : Nat} {lay : xK → Nat} {μ : Mu} {tb : Tb} {r : xK → Option xE} {p : Nat} {k g b : Int32} (hI : RI μ) (h1 : p < nP μ) (hk : isK k) (hg : arG k g) : YX l yX4_rate cX4_rate 6 ((some FieldType.int)) 8 133 3 18 Z B0 [.ref (lay (0, 0)), .int k, .int (nI p), .int g, .int b] lay (cX Z lay μ tb r) (fun v lay' C' => lay = lay' ∧ v = some (.int (M_rateOf μ k (nI p) g b)) ∧ C' = cX Z lay μ tb r) (fun _ => False) := by
  have hp := isP_n hI h1
  have eM : M_rate μ k (nI p) g b = (M_rateOf μ k (nI p) g b, th μ 0) := by unfold M_rate; rw [if_pos hp.1, if_pos ⟨hk, hg⟩]
  have eV : (M_rate μ k (nI p) g b).1 = M_rateOf μ k (nI p) g b := by rw [eM]
  have e0 : (M_rate μ k (nI p) g b).2.1 38 0 = 0 := by rw [eM]; exact th_38 μ 0
  have eC : cX Z lay (M_rate μ k (nI p) g b).2 tb r = cX Z lay μ tb r := by rw [eM]; exact cX_th 0
  refine YX_mono (kyX4_rate l hl0 Z B0 lay μ tb r hI k (nI p) g b) ?_ ?_
  · rintro v9 lay9 C9 ⟨rfl, rfl, -, rfl⟩
    exact ⟨rfl, by rw [eV], eC⟩
  · rintro E (⟨-, hT⟩ | ⟨-, hT⟩)
    · exact absurd (e0.symm.trans hT) (by decide)
    · exact absurd (e0.symm.trans hT) (by decide)
/-- what is told of a thing -/
def oT (μ : Mu) (t w : Nat) : Int64 := match w with
  | 0 => (μ.1 23 t).toInt64
  | 1 => (μ.1 24 t).toInt64
  | 2 => (μ.1 26 t).toInt64
  | 3 => (μ.1 19 t).toInt64
  | 4 => M_taxOf μ t
  | 5 => if μ.1 27 t = 0 then 0 else 1
  | _ => (μ.1 35 t).toInt64
theorem ofT_eq {μ : Mu} (hI : RI μ) {t w : Nat} (h1 : t < nT μ) (h2 : w < 7) : M_ofThing μ (nI t) (nI w) = (oT μ t w, th μ 0) := by
  have hp := isT_n hI h1
  unfold M_ofThing
  rw [if_pos hp.1, hp.2]
  match w, h2 with
  | 0, _ => rfl
  | 1, _ => rfl
  | 2, _ => rfl
  | 3, _ => rfl
  | 4, _ => rfl
  | 5, _ => rfl
  | 6, _ => rfl
  | w + 7, h => exact absurd h (by omega)
theorem qy_ofThing {l : Launch} (hl0 : l.stackTraces = false) {Z : xZ} {B0 : Nat} {lay : xK → Nat} {μ : Mu} {tb : Tb} {r : xK → Option xE} {t w : Nat} (hI : RI μ) (hK : KI μ) (h1 : t < nT μ) (h2 : w < 7) : YX l yX4_ofThing cX4_ofThing 4 ((some FieldType.long)) 7 111 2 12 Z B0 [.ref (lay (0, 0)), .int (nI t), .int (nI w)] lay (cX Z lay μ tb r) (fun v lay' C' => lay = lay' ∧ v = some (.long (oT μ t w)) ∧ C' = cX Z lay μ tb r) (fun _ => False) := by
  have eM := ofT_eq hI h1 h2
  have eV : (M_ofThing μ (nI t) (nI w)).1 = oT μ t w := by rw [eM]
  have e0 : (M_ofThing μ (nI t) (nI w)).2.1 38 0 = 0 := by rw [eM]; exact th_38 μ 0
  have eC : cX Z lay (M_ofThing μ (nI t) (nI w)).2 tb r = cX Z lay μ tb r := by rw [eM]; exact cX_th 0
  refine YX_mono (kyX4_ofThing l hl0 Z B0 lay μ tb r hI (nI t) (nI w) hK) ?_ ?_
  · rintro v9 lay9 C9 ⟨rfl, rfl, -, rfl⟩
    exact ⟨rfl, by rw [eV], eC⟩
  · rintro E (⟨-, hT⟩ | ⟨-, hT⟩)
    · exact absurd (e0.symm.trans hT) (by decide)
    · exact absurd (e0.symm.trans hT) (by decide)
theorem qy_hand {l : Launch} (hl0 : l.stackTraces = false) {Z : xZ} {B0 : Nat} {lay : xK → Nat} {μ : Mu} {tb : Tb} {r : xK → Option xE} {t n h : Nat} {cl : Nat → Nat → Nat} (hI : RI μ) (hH : HR μ tb cl) (h1 : t < nT μ) (h35 : μ.1 35 t = nI h) (hh : h < 2 ^ 31) (h2 : n < h) : YX l yX4_hand cX4_hand 4 ((some FieldType.int)) 7 111 2 12 Z B0 [.ref (lay (0, 0)), .int (nI t), .int (nI n)] lay (cX Z lay μ tb r) (fun v lay' C' => lay = lay' ∧ v = some (.int (tb.2.1 t n)) ∧ C' = cX Z lay μ tb r) (fun _ => False) := by
  have hp := isT_n hI h1
  have hn0 : ¬ nI n < 0 := nI_pos (by omega)
  have hn1 : nI n < μ.1 35 t := by rw [h35]; exact nI_lt h2 hh
  have eM : M_hand μ (nI t) (nI n) = (tb.2.1 t n, th μ 0) := by
    unfold M_hand
    rw [hp.2, if_pos ⟨hp.1, hn0, by rw [h35]; exact nI_ge h2 hh⟩, (hH.hand hI h1 hn0 hn1).2, ix_nI (by omega)]
  have eV : (M_hand μ (nI t) (nI n)).1 = tb.2.1 t n := by rw [eM]
  have e0 : (M_hand μ (nI t) (nI n)).2.1 38 0 = 0 := by rw [eM]; exact th_38 μ 0
  have eC : cX Z lay (M_hand μ (nI t) (nI n)).2 tb r = cX Z lay μ tb r := by rw [eM]; exact cX_th 0
  refine YX_mono (kyX4_hand l hl0 Z B0 lay μ tb r hI (nI t) (nI n) cl hH) ?_ ?_
  · rintro v9 lay9 C9 ⟨rfl, rfl, -, rfl⟩
    exact ⟨rfl, by rw [eV], eC⟩
  · rintro E ⟨-, hT⟩
    exact absurd (e0.symm.trans hT) (by decide)
theorem qy_gain {l : Launch} (hl0 : l.stackTraces = false) {Z : xZ} {B0 : Nat} {lay : xK → Nat} {μ : Mu} {tb : Tb} {r : xK → Option xE} {w : Int32} (hI : RI μ) (hK : KI μ) (h1 : inR w 0 2) : YX l yX4_gain cX4_gain 8 ((some FieldType.int)) 7 112 1 6 Z B0 [.ref (lay (0, 0)), .int w] lay (cX Z lay μ tb r) (fun v lay' C' => lay = lay' ∧ v = some (.int ((M_gain μ w).1)) ∧ C' = cX Z lay μ tb r) (fun _ => False) := by
  have hm := gain_m (Z := Z) (lay := lay) (μ := μ) (tb := tb) (r := r) h1
  have eV : (M_gain μ w).1 = (M_gain μ w).1 := rfl
  have e0 : (M_gain μ w).2.1 38 0 = 0 := hm.1
  have eC : cX Z lay (M_gain μ w).2 tb r = cX Z lay μ tb r := hm.2.symm
  refine YX_mono (kyX4_gain l hl0 Z B0 lay μ tb r hI w hK) ?_ ?_
  · rintro v9 lay9 C9 ⟨rfl, rfl, -, rfl⟩
    exact ⟨rfl, by rw [eV], eC⟩
  · rintro E ⟨-, hT⟩
    exact absurd (e0.symm.trans hT) (by decide)
