/-! the law's own methods: each calls the class and catches what it throws -/
theorem v_xr {p : Program} {l : Launch} {e : Env} {R : Room} {s : State} {m : MethodId} {args : Array Value} {below : List Frame} {meth : Method} {c : Code} {Z : xZ} {B0 nL : Nat} {lay : xK → Nat} {C : xK → Option xE} {cells slots pc : Nat} {lv : List (Option Value)} {st : List Value} {post : Option Value → (xK → Nat) → (xK → Option xE) → Prop} {ce sl : Nat} (k : V p l e R s m args below meth c (MQ below (yQ Z B0 post) args s ce sl (fun q => B0 ≤ q)) Z B0 nL lay C cells slots pc lv st) : V p l e R s m args below meth c (vx_MQ below (yQ Z B0 post) (fun _ _ _ => False) args s ce sl (fun q => B0 ≤ q)) Z B0 nL lay C cells slots pc lv st :=
  fun ls H locs hl hP hS => vx_ret (k ls H locs hl hP hS)
theorem mw_post : xMW yL_post cL_post 3 (some FieldType.int) [(0, 8, 11, 13)] 2 := ⟨(xw_at tW_3 9 rfl), (xw_at tW_0 33 rfl), (xw_at tW_3 10 rfl), ⟨by decide +kernel, by decide +kernel, by decide +kernel⟩, by decide +kernel⟩
set_option maxRecDepth 100000 in
set_option maxHeartbeats 4000000 in
theorem w_post (l : Launch) (hl0 : l.stackTraces = false) (Z : xZ) (B0 : Nat) (lay : xK → Nat) (μ : Mu) (tb : Tb) (r : xK → Option xE) (hI : RI μ) (hK : KI μ) (o : Nat → Int64) (ho : r (300, 0) = some (outE Z o)) : YC l yL_post cL_post 3 (some FieldType.int) [(0, 8, 11, 13)] 7 110 5 27 Z B0 [.ref (lay (0, 0)), .ref (lay (300, 0))] lay (cX Z lay μ tb r) (wpost Z lay μ (M_post μ).2 tb tb r (xup r (300, 0) (outE Z (vp_updL o 0 ((M_post μ).1.toInt64))))) := by
  refine YC_of mw_post RL rfl [some (.ref (lay (0, 0))), some (.ref (lay (300, 0))), none] rfl (Nat.le_of_ble_eq_true rfl) ?_
  intro P1 P2 P3 P4 P5 P6 P7 P8 X hr hE ht
  refine v_aload_n X (xdec_at tL_post_0 0 rfl) rfl rfl ?_
  refine v_iconst (v := 0) X (xdec_at tL_post_0 1 rfl) (by decide) ?_
  refine v_aload_n X (xdec_at tL_post_0 2 rfl) rfl rfl ?_
  refine v_wV X hE myX4_post [] [.int 0, .ref (lay (300, 0))] (kyX4_post l hl0 Z B0 lay μ tb r hI hK) (xw_at tW_3 12 rfl) (0, 0) cX_X rfl rfl rfl rfl (by rfl) (Nat.le_of_ble_eq_true rfl) (xdec_at tL_post_0 3 rfl) ⟨(Nat.le_of_ble_eq_true rfl), (Nat.le_of_ble_eq_true rfl)⟩ ⟨(Nat.le_of_ble_eq_true rfl), (Nat.le_of_ble_eq_true rfl)⟩ ?_ ?_
  · rintro v9 lay9 C9 ⟨hC9, hB, rfl, h0, rfl⟩
    have h00 : lay9 (0, 0) = lay (0, 0) := hC9 (0, 0) (by rw [cX_X]; exact fun z => by cases z)
    refine v_i2l X (xdec_at tL_post_0 4 rfl) rfl ?_
    refine x_last (C' := cX Z lay9 (M_post μ).2 tb (xup r (300, 0) (outE Z (vp_updL o 0 ((M_post μ).1.toInt64))))) X (300, 0) (show cX Z lay9 (M_post μ).2 tb r (300, 0) = some (outE Z o) from ho) (vp_in_nI (n := 0) (N := 1) (by decide) (by decide)) (hB (300, 0) (by decide)) (cX_xup (by decide) _) (xdec_at tL_post_0 5 rfl) ?_
    refine v_goto (tgt := 14) X (xdec_at tL_post_0 6 rfl) (by decide) ?_
    refine v_iconst (v := 0) X (xdec_at tL_post_0 10 rfl) (by decide) ?_
    exact v_xr (v_iret X hr (xdec_at tL_post_0 11 rfl) (Nat.le_of_ble_eq_true rfl) (Nat.le_of_ble_eq_true rfl) ⟨by rw [h0], Or.inl ⟨h0, hB, h00, rfl⟩⟩)
  · rintro E q ⟨rfl, hT⟩
    refine ⟨11, hnd_1 ht (Or.inr (Or.inr rfl)) rfl (by decide) (xw_at tW_3 11 rfl), ?_⟩
    refine v_astore_n (lv' := [some (.ref (lay (0, 0))), some (.ref (lay (300, 0))), some (.ref q)]) X (xdec_at tL_post_0 7 rfl) rfl (by decide) rfl ?_
    refine v_iconst (v := 1) X (xdec_at tL_post_0 8 rfl) (by decide) ?_
    exact v_xr (v_iret X hr (xdec_at tL_post_0 9 rfl) (Nat.le_of_ble_eq_true rfl) (Nat.le_of_ble_eq_true rfl) ⟨by rw [hT], Or.inr ⟨by rw [hT]; decide, rfl, rfl⟩⟩)
theorem mw_rates : xMW yL_rates cL_rates 6 (some FieldType.int) [(0, 9, 12, 19), (0, 9, 16, 21)] 5 := ⟨(xw_at tW_5 24 rfl), (xw_at tW_0 33 rfl), (xw_at tW_5 25 rfl), ⟨by decide +kernel, by decide +kernel, by decide +kernel⟩, by decide +kernel⟩
set_option maxRecDepth 100000 in
set_option maxHeartbeats 4000000 in
theorem w_rates (l : Launch) (hl0 : l.stackTraces = false) (Z : xZ) (B0 : Nat) (lay : xK → Nat) (μ : Mu) (tb : Tb) (r : xK → Option xE) (hI : RI μ) (p k f g : Int32) : YC l yL_rates cL_rates 6 (some FieldType.int) [(0, 9, 12, 19), (0, 9, 16, 21)] 9 157 4 24 Z B0 [.ref (lay (0, 0)), .int p, .int k, .int f, .int g] lay (cX Z lay μ tb r) (wpost Z lay μ (M_rates μ p k f g) tb tb r r) := by
  refine YC_of mw_rates RL rfl [some (.ref (lay (0, 0))), some (.int p), some (.int k), some (.int f), some (.int g), none] rfl (Nat.le_of_ble_eq_true rfl) ?_
  intro P1 P2 P3 P4 P5 P6 P7 P8 X hr hE ht
  refine v_aload_n X (xdec_at tL_rates_0 0 rfl) rfl rfl ?_
  refine v_iload_n X (xdec_at tL_rates_0 1 rfl) rfl rfl ?_
  refine v_iload_n X (xdec_at tL_rates_0 2 rfl) rfl rfl ?_
  refine v_iload_n X (xdec_at tL_rates_0 3 rfl) rfl rfl ?_
  refine v_iload X (xdec_at tL_rates_0 4 rfl) rfl ?_
  refine v_wV X hE myX4_rates [.int p, .int k, .int f, .int g] [] (kyX4_rates l hl0 Z B0 lay μ tb r hI p k f g) (xw_at tW_5 28 rfl) (0, 0) cX_X rfl rfl rfl rfl (by rfl) (Nat.le_of_ble_eq_true rfl) (xdec_at tL_rates_0 5 rfl) ⟨(Nat.le_of_ble_eq_true rfl), (Nat.le_of_ble_eq_true rfl)⟩ ⟨(Nat.le_of_ble_eq_true rfl), (Nat.le_of_ble_eq_true rfl)⟩ ?_ ?_
  · rintro v9 lay9 C9 ⟨rfl, rfl, h0, rfl⟩
    have hB : lyB lay lay := fun _ _ => rfl
    have h00 : lay (0, 0) = lay (0, 0) := rfl
    refine v_goto (tgt := 20) X (xdec_at tL_rates_0 6 rfl) (by decide) ?_
    refine v_iconst (v := 0) X (xdec_at tL_rates_0 13 rfl) (by decide) ?_
    exact v_xr (v_iret X hr (xdec_at tL_rates_0 14 rfl) (Nat.le_of_ble_eq_true rfl) (Nat.le_of_ble_eq_true rfl) ⟨by rw [h0], Or.inl ⟨h0, hB, h00, rfl⟩⟩)
  · rintro E q (⟨rfl, hT⟩ | ⟨rfl, hT⟩)
    · refine ⟨12, hnd_1 ht (Or.inl rfl) rfl (by decide) (xw_at tW_5 26 rfl), ?_⟩
      refine v_astore (lv' := [some (.ref (lay (0, 0))), some (.int p), some (.int k), some (.int f), some (.int g), some (.ref q)]) X (xdec_at tL_rates_0 7 rfl) (by decide) rfl ?_
      refine v_iconst (v := 1) X (xdec_at tL_rates_0 8 rfl) (by decide) ?_
      exact v_xr (v_iret X hr (xdec_at tL_rates_0 9 rfl) (Nat.le_of_ble_eq_true rfl) (Nat.le_of_ble_eq_true rfl) ⟨by rw [hT], Or.inr ⟨by rw [hT]; decide, rfl, rfl⟩⟩)
    · refine ⟨16, hnd_2 ht (Or.inr (Or.inl rfl)) (by decide) (xw_at tW_5 26 rfl) hE.2.1 rfl (by decide) (xw_at tW_5 27 rfl), ?_⟩
      refine v_astore (lv' := [some (.ref (lay (0, 0))), some (.int p), some (.int k), some (.int f), some (.int g), some (.ref q)]) X (xdec_at tL_rates_0 10 rfl) (by decide) rfl ?_
      refine v_iconst (v := 2) X (xdec_at tL_rates_0 11 rfl) (by decide) ?_
      exact v_xr (v_iret X hr (xdec_at tL_rates_0 12 rfl) (Nat.le_of_ble_eq_true rfl) (Nat.le_of_ble_eq_true rfl) ⟨by rw [hT], Or.inr ⟨by rw [hT]; decide, rfl, rfl⟩⟩)
theorem mw_due : xMW yL_due cL_due 6 (some FieldType.int) [(0, 12, 15, 19), (0, 12, 19, 21)] 5 := ⟨(xw_at tW_6 28 rfl), (xw_at tW_0 33 rfl), (xw_at tW_6 29 rfl), ⟨by decide +kernel, by decide +kernel, by decide +kernel⟩, by decide +kernel⟩
set_option maxRecDepth 100000 in
set_option maxHeartbeats 4000000 in
theorem w_due (l : Launch) (hl0 : l.stackTraces = false) (Z : xZ) (B0 : Nat) (lay : xK → Nat) (μ : Mu) (tb : Tb) (r : xK → Option xE) (hI : RI μ) (p k c : Int32) (o : Nat → Int64) (ho : r (300, 0) = some (outE Z o)) : YC l yL_due cL_due 6 (some FieldType.int) [(0, 12, 15, 19), (0, 12, 19, 21)] 9 157 3 18 Z B0 [.ref (lay (0, 0)), .int p, .int k, .int c, .ref (lay (300, 0))] lay (cX Z lay μ tb r) (wpost Z lay μ (M_due μ p k c).2 tb tb r (xup r (300, 0) (outE Z (vp_updL o 0 ((M_due μ p k c).1.toInt64))))) := by
  refine YC_of mw_due RL rfl [some (.ref (lay (0, 0))), some (.int p), some (.int k), some (.int c), some (.ref (lay (300, 0))), none] rfl (Nat.le_of_ble_eq_true rfl) ?_
  intro P1 P2 P3 P4 P5 P6 P7 P8 X hr hE ht
  refine v_aload X (xdec_at tL_due_0 0 rfl) rfl ?_
  refine v_iconst (v := 0) X (xdec_at tL_due_0 1 rfl) (by decide) ?_
  refine v_aload_n X (xdec_at tL_due_0 2 rfl) rfl rfl ?_
  refine v_iload_n X (xdec_at tL_due_0 3 rfl) rfl rfl ?_
  refine v_iload_n X (xdec_at tL_due_0 4 rfl) rfl rfl ?_
  refine v_iload_n X (xdec_at tL_due_0 5 rfl) rfl rfl ?_
  refine v_wV X hE myX4_due [.int p, .int k, .int c] [.int 0, .ref (lay (300, 0))] (kyX4_due l hl0 Z B0 lay μ tb r hI p k c) (xw_at tW_6 30 rfl) (0, 0) cX_X rfl rfl rfl rfl (by rfl) (Nat.le_of_ble_eq_true rfl) (xdec_at tL_due_0 6 rfl) ⟨(Nat.le_of_ble_eq_true rfl), (Nat.le_of_ble_eq_true rfl)⟩ ⟨(Nat.le_of_ble_eq_true rfl), (Nat.le_of_ble_eq_true rfl)⟩ ?_ ?_
  · rintro v9 lay9 C9 ⟨rfl, rfl, h0, rfl⟩
    have hB : lyB lay lay := fun _ _ => rfl
    have h00 : lay (0, 0) = lay (0, 0) := rfl
    refine v_i2l X (xdec_at tL_due_0 7 rfl) rfl ?_
    refine x_last (C' := cX Z lay (M_due μ p k c).2 tb (xup r (300, 0) (outE Z (vp_updL o 0 ((M_due μ p k c).1.toInt64))))) X (300, 0) (show cX Z lay (M_due μ p k c).2 tb r (300, 0) = some (outE Z o) from ho) (vp_in_nI (n := 0) (N := 1) (by decide) (by decide)) (hB (300, 0) (by decide)) (cX_xup (by decide) _) (xdec_at tL_due_0 8 rfl) ?_
    refine v_goto (tgt := 23) X (xdec_at tL_due_0 9 rfl) (by decide) ?_
    refine v_iconst (v := 0) X (xdec_at tL_due_0 16 rfl) (by decide) ?_
    exact v_xr (v_iret X hr (xdec_at tL_due_0 17 rfl) (Nat.le_of_ble_eq_true rfl) (Nat.le_of_ble_eq_true rfl) ⟨by rw [h0], Or.inl ⟨h0, hB, h00, rfl⟩⟩)
  · rintro E q (⟨rfl, hT⟩ | ⟨rfl, hT⟩)
    · refine ⟨15, hnd_1 ht (Or.inl rfl) rfl (by decide) (xw_at tW_5 26 rfl), ?_⟩
      refine v_astore (lv' := [some (.ref (lay (0, 0))), some (.int p), some (.int k), some (.int c), some (.ref (lay (300, 0))), some (.ref q)]) X (xdec_at tL_due_0 10 rfl) (by decide) rfl ?_
      refine v_iconst (v := 1) X (xdec_at tL_due_0 11 rfl) (by decide) ?_
      exact v_xr (v_iret X hr (xdec_at tL_due_0 12 rfl) (Nat.le_of_ble_eq_true rfl) (Nat.le_of_ble_eq_true rfl) ⟨by rw [hT], Or.inr ⟨by rw [hT]; decide, rfl, rfl⟩⟩)
    · refine ⟨19, hnd_2 ht (Or.inr (Or.inl rfl)) (by decide) (xw_at tW_5 26 rfl) hE.2.1 rfl (by decide) (xw_at tW_5 27 rfl), ?_⟩
      refine v_astore (lv' := [some (.ref (lay (0, 0))), some (.int p), some (.int k), some (.int c), some (.ref (lay (300, 0))), some (.ref q)]) X (xdec_at tL_due_0 13 rfl) (by decide) rfl ?_
      refine v_iconst (v := 2) X (xdec_at tL_due_0 14 rfl) (by decide) ?_
      exact v_xr (v_iret X hr (xdec_at tL_due_0 15 rfl) (Nat.le_of_ble_eq_true rfl) (Nat.le_of_ble_eq_true rfl) ⟨by rw [hT], Or.inr ⟨by rw [hT]; decide, rfl, rfl⟩⟩)
theorem mw_charge : xMW yL_charge cL_charge 5 (some FieldType.int) [(0, 10, 13, 19), (0, 10, 17, 21)] 4 := ⟨(xw_at tW_6 35 rfl), (xw_at tW_0 33 rfl), (xw_at tW_6 36 rfl), ⟨by decide +kernel, by decide +kernel, by decide +kernel⟩, by decide +kernel⟩
set_option maxRecDepth 100000 in
set_option maxHeartbeats 4000000 in
theorem w_charge (l : Launch) (hl0 : l.stackTraces = false) (Z : xZ) (B0 : Nat) (lay : xK → Nat) (μ : Mu) (tb : Tb) (r : xK → Option xE) (hI : RI μ) (p c : Int32) (o : Nat → Int64) (ho : r (300, 0) = some (outE Z o)) : YC l yL_charge cL_charge 5 (some FieldType.int) [(0, 10, 13, 19), (0, 10, 17, 21)] 8 136 2 12 Z B0 [.ref (lay (0, 0)), .int p, .int c, .ref (lay (300, 0))] lay (cX Z lay μ tb r) (wpost Z lay μ (M_charge μ p c).2 tb tb r (xup r (300, 0) (outE Z (vp_updL o 0 ((M_charge μ p c).1.toInt64))))) := by
  refine YC_of mw_charge RL rfl [some (.ref (lay (0, 0))), some (.int p), some (.int c), some (.ref (lay (300, 0))), none] rfl (Nat.le_of_ble_eq_true rfl) ?_
  intro P1 P2 P3 P4 P5 P6 P7 P8 X hr hE ht
  refine v_aload_n X (xdec_at tL_charge_0 0 rfl) rfl rfl ?_
  refine v_iconst (v := 0) X (xdec_at tL_charge_0 1 rfl) (by decide) ?_
  refine v_aload_n X (xdec_at tL_charge_0 2 rfl) rfl rfl ?_
  refine v_iload_n X (xdec_at tL_charge_0 3 rfl) rfl rfl ?_
  refine v_iload_n X (xdec_at tL_charge_0 4 rfl) rfl rfl ?_
  refine v_wV X hE myX4_charge [.int p, .int c] [.int 0, .ref (lay (300, 0))] (kyX4_charge l hl0 Z B0 lay μ tb r hI p c) (xw_at tW_6 37 rfl) (0, 0) cX_X rfl rfl rfl rfl (by rfl) (Nat.le_of_ble_eq_true rfl) (xdec_at tL_charge_0 5 rfl) ⟨(Nat.le_of_ble_eq_true rfl), (Nat.le_of_ble_eq_true rfl)⟩ ⟨(Nat.le_of_ble_eq_true rfl), (Nat.le_of_ble_eq_true rfl)⟩ ?_ ?_
  · rintro v9 lay9 C9 ⟨rfl, rfl, h0, rfl⟩
    have hB : lyB lay lay := fun _ _ => rfl
    have h00 : lay (0, 0) = lay (0, 0) := rfl
    refine v_i2l X (xdec_at tL_charge_0 6 rfl) rfl ?_
    refine x_last (C' := cX Z lay (M_charge μ p c).2 tb (xup r (300, 0) (outE Z (vp_updL o 0 ((M_charge μ p c).1.toInt64))))) X (300, 0) (show cX Z lay (M_charge μ p c).2 tb r (300, 0) = some (outE Z o) from ho) (vp_in_nI (n := 0) (N := 1) (by decide) (by decide)) (hB (300, 0) (by decide)) (cX_xup (by decide) _) (xdec_at tL_charge_0 7 rfl) ?_
    refine v_goto (tgt := 21) X (xdec_at tL_charge_0 8 rfl) (by decide) ?_
    refine v_iconst (v := 0) X (xdec_at tL_charge_0 15 rfl) (by decide) ?_
    exact v_xr (v_iret X hr (xdec_at tL_charge_0 16 rfl) (Nat.le_of_ble_eq_true rfl) (Nat.le_of_ble_eq_true rfl) ⟨by rw [h0], Or.inl ⟨h0, hB, h00, rfl⟩⟩)
  · rintro E q (⟨rfl, hT⟩ | ⟨rfl, hT⟩)
    · refine ⟨13, hnd_1 ht (Or.inl rfl) rfl (by decide) (xw_at tW_5 26 rfl), ?_⟩
      refine v_astore (lv' := [some (.ref (lay (0, 0))), some (.int p), some (.int c), some (.ref (lay (300, 0))), some (.ref q)]) X (xdec_at tL_charge_0 9 rfl) (by decide) rfl ?_
      refine v_iconst (v := 1) X (xdec_at tL_charge_0 10 rfl) (by decide) ?_
      exact v_xr (v_iret X hr (xdec_at tL_charge_0 11 rfl) (Nat.le_of_ble_eq_true rfl) (Nat.le_of_ble_eq_true rfl) ⟨by rw [hT], Or.inr ⟨by rw [hT]; decide, rfl, rfl⟩⟩)
    · refine ⟨17, hnd_2 ht (Or.inr (Or.inl rfl)) (by decide) (xw_at tW_5 26 rfl) hE.2.1 rfl (by decide) (xw_at tW_5 27 rfl), ?_⟩
      refine v_astore (lv' := [some (.ref (lay (0, 0))), some (.int p), some (.int c), some (.ref (lay (300, 0))), some (.ref q)]) X (xdec_at tL_charge_0 12 rfl) (by decide) rfl ?_
      refine v_iconst (v := 2) X (xdec_at tL_charge_0 13 rfl) (by decide) ?_
      exact v_xr (v_iret X hr (xdec_at tL_charge_0 14 rfl) (Nat.le_of_ble_eq_true rfl) (Nat.le_of_ble_eq_true rfl) ⟨by rw [hT], Or.inr ⟨by rw [hT]; decide, rfl, rfl⟩⟩)
theorem mw_coupon : xMW yL_coupon cL_coupon 5 (some FieldType.int) [(0, 10, 13, 19), (0, 10, 17, 21)] 4 := ⟨(xw_at tW_7 2 rfl), (xw_at tW_0 33 rfl), (xw_at tW_7 3 rfl), ⟨by decide +kernel, by decide +kernel, by decide +kernel⟩, by decide +kernel⟩
set_option maxRecDepth 100000 in
set_option maxHeartbeats 4000000 in
theorem w_coupon (l : Launch) (hl0 : l.stackTraces = false) (Z : xZ) (B0 : Nat) (lay : xK → Nat) (μ : Mu) (tb : Tb) (r : xK → Option xE) (hI : RI μ) (p c : Int32) (o : Nat → Int64) (ho : r (300, 0) = some (outE Z o)) : YC l yL_coupon cL_coupon 5 (some FieldType.int) [(0, 10, 13, 19), (0, 10, 17, 21)] 8 136 2 12 Z B0 [.ref (lay (0, 0)), .int p, .int c, .ref (lay (300, 0))] lay (cX Z lay μ tb r) (wpost Z lay μ (M_coupon μ p c).2 tb tb r (xup r (300, 0) (outE Z (vp_updL o 0 ((M_coupon μ p c).1.toInt64))))) := by
  refine YC_of mw_coupon RL rfl [some (.ref (lay (0, 0))), some (.int p), some (.int c), some (.ref (lay (300, 0))), none] rfl (Nat.le_of_ble_eq_true rfl) ?_
  intro P1 P2 P3 P4 P5 P6 P7 P8 X hr hE ht
  refine v_aload_n X (xdec_at tL_coupon_0 0 rfl) rfl rfl ?_
  refine v_iconst (v := 0) X (xdec_at tL_coupon_0 1 rfl) (by decide) ?_
  refine v_aload_n X (xdec_at tL_coupon_0 2 rfl) rfl rfl ?_
  refine v_iload_n X (xdec_at tL_coupon_0 3 rfl) rfl rfl ?_
  refine v_iload_n X (xdec_at tL_coupon_0 4 rfl) rfl rfl ?_
  refine v_wV X hE myX4_coupon [.int p, .int c] [.int 0, .ref (lay (300, 0))] (kyX4_coupon l hl0 Z B0 lay μ tb r hI p c) (xw_at tW_7 4 rfl) (0, 0) cX_X rfl rfl rfl rfl (by rfl) (Nat.le_of_ble_eq_true rfl) (xdec_at tL_coupon_0 5 rfl) ⟨(Nat.le_of_ble_eq_true rfl), (Nat.le_of_ble_eq_true rfl)⟩ ⟨(Nat.le_of_ble_eq_true rfl), (Nat.le_of_ble_eq_true rfl)⟩ ?_ ?_
  · rintro v9 lay9 C9 ⟨rfl, rfl, h0, rfl⟩
    have hB : lyB lay lay := fun _ _ => rfl
    have h00 : lay (0, 0) = lay (0, 0) := rfl
    refine v_i2l X (xdec_at tL_coupon_0 6 rfl) rfl ?_
    refine x_last (C' := cX Z lay (M_coupon μ p c).2 tb (xup r (300, 0) (outE Z (vp_updL o 0 ((M_coupon μ p c).1.toInt64))))) X (300, 0) (show cX Z lay (M_coupon μ p c).2 tb r (300, 0) = some (outE Z o) from ho) (vp_in_nI (n := 0) (N := 1) (by decide) (by decide)) (hB (300, 0) (by decide)) (cX_xup (by decide) _) (xdec_at tL_coupon_0 7 rfl) ?_
    refine v_goto (tgt := 21) X (xdec_at tL_coupon_0 8 rfl) (by decide) ?_
    refine v_iconst (v := 0) X (xdec_at tL_coupon_0 15 rfl) (by decide) ?_
    exact v_xr (v_iret X hr (xdec_at tL_coupon_0 16 rfl) (Nat.le_of_ble_eq_true rfl) (Nat.le_of_ble_eq_true rfl) ⟨by rw [h0], Or.inl ⟨h0, hB, h00, rfl⟩⟩)
  · rintro E q (⟨rfl, hT⟩ | ⟨rfl, hT⟩)
    · refine ⟨13, hnd_1 ht (Or.inl rfl) rfl (by decide) (xw_at tW_5 26 rfl), ?_⟩
      refine v_astore (lv' := [some (.ref (lay (0, 0))), some (.int p), some (.int c), some (.ref (lay (300, 0))), some (.ref q)]) X (xdec_at tL_coupon_0 9 rfl) (by decide) rfl ?_
      refine v_iconst (v := 1) X (xdec_at tL_coupon_0 10 rfl) (by decide) ?_
      exact v_xr (v_iret X hr (xdec_at tL_coupon_0 11 rfl) (Nat.le_of_ble_eq_true rfl) (Nat.le_of_ble_eq_true rfl) ⟨by rw [hT], Or.inr ⟨by rw [hT]; decide, rfl, rfl⟩⟩)
    · refine ⟨17, hnd_2 ht (Or.inr (Or.inl rfl)) (by decide) (xw_at tW_5 26 rfl) hE.2.1 rfl (by decide) (xw_at tW_5 27 rfl), ?_⟩
      refine v_astore (lv' := [some (.ref (lay (0, 0))), some (.int p), some (.int c), some (.ref (lay (300, 0))), some (.ref q)]) X (xdec_at tL_coupon_0 12 rfl) (by decide) rfl ?_
      refine v_iconst (v := 2) X (xdec_at tL_coupon_0 13 rfl) (by decide) ?_
      exact v_xr (v_iret X hr (xdec_at tL_coupon_0 14 rfl) (Nat.le_of_ble_eq_true rfl) (Nat.le_of_ble_eq_true rfl) ⟨by rw [hT], Or.inr ⟨by rw [hT]; decide, rfl, rfl⟩⟩)
theorem mw_strike : xMW yL_strike cL_strike 5 (some FieldType.int) [(0, 17, 20, 19)] 4 := ⟨(xw_at tW_7 9 rfl), (xw_at tW_0 33 rfl), (xw_at tW_7 10 rfl), ⟨by decide +kernel, by decide +kernel, by decide +kernel⟩, by decide +kernel⟩
set_option maxRecDepth 100000 in
set_option maxHeartbeats 4000000 in
theorem w_strike (l : Launch) (hl0 : l.stackTraces = false) (Z : xZ) (B0 : Nat) (lay : xK → Nat) (μ : Mu) (tb : Tb) (r : xK → Option xE) (hI : RI μ) (p c : Int32) (hc : c = 0 ∨ c = 1) (o : Nat → Int64) (ho : r (300, 0) = some (outE Z o)) : YC l yL_strike cL_strike 5 (some FieldType.int) [(0, 17, 20, 19)] 8 135 1 6 Z B0 [.ref (lay (0, 0)), .int p, .int c, .ref (lay (300, 0))] lay (cX Z lay μ tb r) (wpost Z lay μ (M_strike μ p c).2 tb tb r (xup r (300, 0) (outE Z (vp_updL o 0 (if (M_strike μ p c).1 = 0 then 0 else 1))))) := by
  refine YC_of mw_strike RL rfl [some (.ref (lay (0, 0))), some (.int p), some (.int c), some (.ref (lay (300, 0))), none] rfl (Nat.le_of_ble_eq_true rfl) ?_
  intro P1 P2 P3 P4 P5 P6 P7 P8 X hr hE ht
  refine v_aload_n X (xdec_at tL_strike_0 0 rfl) rfl rfl ?_
  refine v_iconst (v := 0) X (xdec_at tL_strike_0 1 rfl) (by decide) ?_
  refine v_aload_n X (xdec_at tL_strike_0 2 rfl) rfl rfl ?_
  refine v_iload_n X (xdec_at tL_strike_0 3 rfl) rfl rfl ?_
  refine v_iload_n X (xdec_at tL_strike_0 4 rfl) rfl rfl ?_
  refine v_wV X hE myX4_strike [.int p, .int c] [.int 0, .ref (lay (300, 0))] (kyX4_strike l hl0 Z B0 lay μ tb r hI p c hc) (xw_at tW_7 11 rfl) (0, 0) cX_X rfl rfl rfl rfl (by rfl) (Nat.le_of_ble_eq_true rfl) (xdec_at tL_strike_0 5 rfl) ⟨(Nat.le_of_ble_eq_true rfl), (Nat.le_of_ble_eq_true rfl)⟩ ⟨(Nat.le_of_ble_eq_true rfl), (Nat.le_of_ble_eq_true rfl)⟩ ?_ ?_
  · rintro v9 lay9 C9 ⟨rfl, rfl, h0, rfl⟩
    have hB : lyB lay lay := fun _ _ => rfl
    have h00 : lay (0, 0) = lay (0, 0) := rfl
    refine v_if_eq (tgt := 15) X (xdec_at tL_strike_0 6 rfl) (by decide) (fun c_b => ?_) (fun c_b => ?_)
    · refine v_lconst (v := 0) X (xdec_at tL_strike_0 9 rfl) (by decide) ?_
      refine x_last (C' := cX Z lay (M_strike μ p c).2 tb (xup r (300, 0) (outE Z (vp_updL o 0 0)))) X (300, 0) (show cX Z lay (M_strike μ p c).2 tb r (300, 0) = some (outE Z o) from ho) (vp_in_nI (n := 0) (N := 1) (by decide) (by decide)) (hB (300, 0) (by decide)) (cX_xup (by decide) _) (xdec_at tL_strike_0 10 rfl) ?_
      refine v_goto (tgt := 24) X (xdec_at tL_strike_0 11 rfl) (by decide) ?_
      refine v_iconst (v := 0) X (xdec_at tL_strike_0 15 rfl) (by decide) ?_
      exact v_xr (v_iret X hr (xdec_at tL_strike_0 16 rfl) (Nat.le_of_ble_eq_true rfl) (Nat.le_of_ble_eq_true rfl) ⟨by rw [h0], Or.inl ⟨h0, hB, h00, by rw [if_pos c_b]⟩⟩)
    · refine v_lconst (v := 1) X (xdec_at tL_strike_0 7 rfl) (by decide) ?_
      refine v_goto (tgt := 16) X (xdec_at tL_strike_0 8 rfl) (by decide) ?_
      refine x_last (C' := cX Z lay (M_strike μ p c).2 tb (xup r (300, 0) (outE Z (vp_updL o 0 1)))) X (300, 0) (show cX Z lay (M_strike μ p c).2 tb r (300, 0) = some (outE Z o) from ho) (vp_in_nI (n := 0) (N := 1) (by decide) (by decide)) (hB (300, 0) (by decide)) (cX_xup (by decide) _) (xdec_at tL_strike_0 10 rfl) ?_
      refine v_goto (tgt := 24) X (xdec_at tL_strike_0 11 rfl) (by decide) ?_
      refine v_iconst (v := 0) X (xdec_at tL_strike_0 15 rfl) (by decide) ?_
      exact v_xr (v_iret X hr (xdec_at tL_strike_0 16 rfl) (Nat.le_of_ble_eq_true rfl) (Nat.le_of_ble_eq_true rfl) ⟨by rw [h0], Or.inl ⟨h0, hB, h00, by rw [if_neg c_b]⟩⟩)
  · rintro E q ⟨rfl, hT⟩
    refine ⟨20, hnd_1 ht (Or.inl rfl) rfl (by decide) (xw_at tW_5 26 rfl), ?_⟩
    refine v_astore (lv' := [some (.ref (lay (0, 0))), some (.int p), some (.int c), some (.ref (lay (300, 0))), some (.ref q)]) X (xdec_at tL_strike_0 12 rfl) (by decide) rfl ?_
    refine v_iconst (v := 1) X (xdec_at tL_strike_0 13 rfl) (by decide) ?_
    exact v_xr (v_iret X hr (xdec_at tL_strike_0 14 rfl) (Nat.le_of_ble_eq_true rfl) (Nat.le_of_ble_eq_true rfl) ⟨by rw [hT], Or.inr ⟨by rw [hT]; decide, rfl, rfl⟩⟩)
theorem mw_leg : xMW yL_leg cL_leg 6 (some FieldType.int) [(0, 12, 15, 19), (0, 12, 19, 21), (0, 12, 23, 13)] 5 := ⟨(xw_at tW_7 16 rfl), (xw_at tW_0 33 rfl), (xw_at tW_7 17 rfl), ⟨by decide +kernel, by decide +kernel, by decide +kernel⟩, by decide +kernel⟩
set_option maxRecDepth 100000 in
set_option maxHeartbeats 4000000 in
theorem w_leg (l : Launch) (hl0 : l.stackTraces = false) (Z : xZ) (B0 : Nat) (lay : xK → Nat) (μ : Mu) (tb : Tb) (r : xK → Option xE) (hI : RI μ) (a b d : Int32) (hK : KI μ) (o : Nat → Int64) (ho : r (300, 0) = some (outE Z o)) : YC l yL_leg cL_leg 6 (some FieldType.int) [(0, 12, 15, 19), (0, 12, 19, 21), (0, 12, 23, 13)] 8 171 5 28 Z B0 [.ref (lay (0, 0)), .int a, .int b, .int d, .ref (lay (300, 0))] lay (cX Z lay μ tb r) (wpost Z lay μ (M_leg μ a b d).2 tb (K_reckon (up2 (up2 (up2 (up2 μ.1 11 (ix (μ.1 10 0)) a) 12 (ix (μ.1 10 0)) b) 13 (ix (μ.1 10 0)) d) 10 0 (μ.1 10 0 + 1), μ.2) tb.1, tb.2) r (xup r (300, 0) (outE Z (vp_updL o 0 ((M_leg μ a b d).1.toInt64))))) := by
  refine YC_of mw_leg RL rfl [some (.ref (lay (0, 0))), some (.int a), some (.int b), some (.int d), some (.ref (lay (300, 0))), none] rfl (Nat.le_of_ble_eq_true rfl) ?_
  intro P1 P2 P3 P4 P5 P6 P7 P8 X hr hE ht
  refine v_aload X (xdec_at tL_leg_0 0 rfl) rfl ?_
  refine v_iconst (v := 0) X (xdec_at tL_leg_0 1 rfl) (by decide) ?_
  refine v_aload_n X (xdec_at tL_leg_0 2 rfl) rfl rfl ?_
  refine v_iload_n X (xdec_at tL_leg_0 3 rfl) rfl rfl ?_
  refine v_iload_n X (xdec_at tL_leg_0 4 rfl) rfl rfl ?_
  refine v_iload_n X (xdec_at tL_leg_0 5 rfl) rfl rfl ?_
  refine v_wV X hE myX4_leg [.int a, .int b, .int d] [.int 0, .ref (lay (300, 0))] (kyX4_leg l hl0 Z B0 lay μ tb r hI hK a b d) (xw_at tW_7 18 rfl) (0, 0) cX_X rfl rfl rfl rfl (by rfl) (Nat.le_of_ble_eq_true rfl) (xdec_at tL_leg_0 6 rfl) ⟨(Nat.le_of_ble_eq_true rfl), (Nat.le_of_ble_eq_true rfl)⟩ ⟨(Nat.le_of_ble_eq_true rfl), (Nat.le_of_ble_eq_true rfl)⟩ ?_ ?_
  · rintro v9 lay9 C9 ⟨hC9, hB, rfl, h0, rfl⟩
    have h00 : lay9 (0, 0) = lay (0, 0) := hC9 (0, 0) (by rw [cX_X]; exact fun z => by cases z)
    refine v_i2l X (xdec_at tL_leg_0 7 rfl) rfl ?_
    refine x_last (C' := cX Z lay9 (M_leg μ a b d).2 (K_reckon (up2 (up2 (up2 (up2 μ.1 11 (ix (μ.1 10 0)) a) 12 (ix (μ.1 10 0)) b) 13 (ix (μ.1 10 0)) d) 10 0 (μ.1 10 0 + 1), μ.2) tb.1, tb.2) (xup r (300, 0) (outE Z (vp_updL o 0 ((M_leg μ a b d).1.toInt64))))) X (300, 0) (show cX Z lay9 (M_leg μ a b d).2 (K_reckon (up2 (up2 (up2 (up2 μ.1 11 (ix (μ.1 10 0)) a) 12 (ix (μ.1 10 0)) b) 13 (ix (μ.1 10 0)) d) 10 0 (μ.1 10 0 + 1), μ.2) tb.1, tb.2) r (300, 0) = some (outE Z o) from ho) (vp_in_nI (n := 0) (N := 1) (by decide) (by decide)) (hB (300, 0) (by decide)) (cX_xup (by decide) _) (xdec_at tL_leg_0 8 rfl) ?_
    refine v_goto (tgt := 27) X (xdec_at tL_leg_0 9 rfl) (by decide) ?_
    refine v_iconst (v := 0) X (xdec_at tL_leg_0 19 rfl) (by decide) ?_
    exact v_xr (v_iret X hr (xdec_at tL_leg_0 20 rfl) (Nat.le_of_ble_eq_true rfl) (Nat.le_of_ble_eq_true rfl) ⟨by rw [h0], Or.inl ⟨h0, hB, h00, rfl⟩⟩)
  · rintro E q (⟨rfl, hT⟩ | ⟨rfl, hT⟩ | ⟨rfl, hT⟩)
    · refine ⟨15, hnd_1 ht (Or.inl rfl) rfl (by decide) (xw_at tW_5 26 rfl), ?_⟩
      refine v_astore (lv' := [some (.ref (lay (0, 0))), some (.int a), some (.int b), some (.int d), some (.ref (lay (300, 0))), some (.ref q)]) X (xdec_at tL_leg_0 10 rfl) (by decide) rfl ?_
      refine v_iconst (v := 1) X (xdec_at tL_leg_0 11 rfl) (by decide) ?_
      exact v_xr (v_iret X hr (xdec_at tL_leg_0 12 rfl) (Nat.le_of_ble_eq_true rfl) (Nat.le_of_ble_eq_true rfl) ⟨by rw [hT], Or.inr ⟨by rw [hT]; decide, rfl, rfl⟩⟩)
    · refine ⟨19, hnd_2 ht (Or.inr (Or.inl rfl)) (by decide) (xw_at tW_5 26 rfl) hE.2.1 rfl (by decide) (xw_at tW_5 27 rfl), ?_⟩
      refine v_astore (lv' := [some (.ref (lay (0, 0))), some (.int a), some (.int b), some (.int d), some (.ref (lay (300, 0))), some (.ref q)]) X (xdec_at tL_leg_0 13 rfl) (by decide) rfl ?_
      refine v_iconst (v := 2) X (xdec_at tL_leg_0 14 rfl) (by decide) ?_
      exact v_xr (v_iret X hr (xdec_at tL_leg_0 15 rfl) (Nat.le_of_ble_eq_true rfl) (Nat.le_of_ble_eq_true rfl) ⟨by rw [hT], Or.inr ⟨by rw [hT]; decide, rfl, rfl⟩⟩)
    · refine ⟨23, hnd_3 ht (Or.inr (Or.inr rfl)) (by decide) (xw_at tW_5 26 rfl) hE.2.2.1 (by decide) (xw_at tW_5 27 rfl) hE.2.2.2 rfl (by decide) (xw_at tW_3 11 rfl), ?_⟩
      refine v_astore (lv' := [some (.ref (lay (0, 0))), some (.int a), some (.int b), some (.int d), some (.ref (lay (300, 0))), some (.ref q)]) X (xdec_at tL_leg_0 16 rfl) (by decide) rfl ?_
      refine v_iconst (v := 3) X (xdec_at tL_leg_0 17 rfl) (by decide) ?_
      exact v_xr (v_iret X hr (xdec_at tL_leg_0 18 rfl) (Nat.le_of_ble_eq_true rfl) (Nat.le_of_ble_eq_true rfl) ⟨by rw [hT], Or.inr ⟨by rw [hT]; decide, rfl, rfl⟩⟩)
theorem mw_close : xMW yL_close cL_close 5 (some FieldType.int) [(0, 17, 20, 19)] 4 := ⟨(xw_at tW_8 7 rfl), (xw_at tW_0 33 rfl), (xw_at tW_8 8 rfl), ⟨by decide +kernel, by decide +kernel, by decide +kernel⟩, by decide +kernel⟩
set_option maxRecDepth 100000 in
set_option maxHeartbeats 4000000 in
theorem w_close (l : Launch) (hl0 : l.stackTraces = false) (Z : xZ) (B0 : Nat) (lay : xK → Nat) (μ : Mu) (tb : Tb) (r : xK → Option xE) (hI : RI μ) (g c : Int32) (hK : KI μ) (hc : c = 0 ∨ c = 1) (o : Nat → Int64) (ho : r (300, 0) = some (outE Z o)) : YC l yL_close cL_close 5 (some FieldType.int) [(0, 17, 20, 19)] 7 151 1 6 Z B0 [.ref (lay (0, 0)), .int g, .int c, .ref (lay (300, 0))] lay (cX Z lay μ tb r) (wpost Z lay μ (M_close μ g c).2 tb (if μ.1 14 (ix g) = c then tb.1 else K_reckon (up2 μ.1 14 (ix g) c, μ.2) tb.1, tb.2) r (xup r (300, 0) (outE Z (vp_updL o 0 (if (M_close μ g c).1 = 0 then 0 else 1))))) := by
  refine YC_of mw_close RL rfl [some (.ref (lay (0, 0))), some (.int g), some (.int c), some (.ref (lay (300, 0))), none] rfl (Nat.le_of_ble_eq_true rfl) ?_
  intro P1 P2 P3 P4 P5 P6 P7 P8 X hr hE ht
  refine v_aload_n X (xdec_at tL_close_0 0 rfl) rfl rfl ?_
  refine v_iconst (v := 0) X (xdec_at tL_close_0 1 rfl) (by decide) ?_
  refine v_aload_n X (xdec_at tL_close_0 2 rfl) rfl rfl ?_
  refine v_iload_n X (xdec_at tL_close_0 3 rfl) rfl rfl ?_
  refine v_iload_n X (xdec_at tL_close_0 4 rfl) rfl rfl ?_
  refine v_wV X hE myX4_close [.int g, .int c] [.int 0, .ref (lay (300, 0))] (kyX4_close l hl0 Z B0 lay μ tb r hI g c hK.1 hc) (xw_at tW_8 9 rfl) (0, 0) cX_X rfl rfl rfl rfl (by rfl) (Nat.le_of_ble_eq_true rfl) (xdec_at tL_close_0 5 rfl) ⟨(Nat.le_of_ble_eq_true rfl), (Nat.le_of_ble_eq_true rfl)⟩ ⟨(Nat.le_of_ble_eq_true rfl), (Nat.le_of_ble_eq_true rfl)⟩ ?_ ?_
  · rintro v9 lay9 C9 ⟨rfl, rfl, h0, rfl⟩
    have hB : lyB lay lay := fun _ _ => rfl
    have h00 : lay (0, 0) = lay (0, 0) := rfl
    refine v_if_eq (tgt := 15) X (xdec_at tL_close_0 6 rfl) (by decide) (fun c_b => ?_) (fun c_b => ?_)
    · refine v_lconst (v := 0) X (xdec_at tL_close_0 9 rfl) (by decide) ?_
      refine x_last (C' := cX Z lay (M_close μ g c).2 (if μ.1 14 (ix g) = c then tb.1 else K_reckon (up2 μ.1 14 (ix g) c, μ.2) tb.1, tb.2) (xup r (300, 0) (outE Z (vp_updL o 0 0)))) X (300, 0) (show cX Z lay (M_close μ g c).2 (if μ.1 14 (ix g) = c then tb.1 else K_reckon (up2 μ.1 14 (ix g) c, μ.2) tb.1, tb.2) r (300, 0) = some (outE Z o) from ho) (vp_in_nI (n := 0) (N := 1) (by decide) (by decide)) (hB (300, 0) (by decide)) (cX_xup (by decide) _) (xdec_at tL_close_0 10 rfl) ?_
      refine v_goto (tgt := 24) X (xdec_at tL_close_0 11 rfl) (by decide) ?_
      refine v_iconst (v := 0) X (xdec_at tL_close_0 15 rfl) (by decide) ?_
      exact v_xr (v_iret X hr (xdec_at tL_close_0 16 rfl) (Nat.le_of_ble_eq_true rfl) (Nat.le_of_ble_eq_true rfl) ⟨by rw [h0], Or.inl ⟨h0, hB, h00, by rw [if_pos c_b]⟩⟩)
    · refine v_lconst (v := 1) X (xdec_at tL_close_0 7 rfl) (by decide) ?_
      refine v_goto (tgt := 16) X (xdec_at tL_close_0 8 rfl) (by decide) ?_
      refine x_last (C' := cX Z lay (M_close μ g c).2 (if μ.1 14 (ix g) = c then tb.1 else K_reckon (up2 μ.1 14 (ix g) c, μ.2) tb.1, tb.2) (xup r (300, 0) (outE Z (vp_updL o 0 1)))) X (300, 0) (show cX Z lay (M_close μ g c).2 (if μ.1 14 (ix g) = c then tb.1 else K_reckon (up2 μ.1 14 (ix g) c, μ.2) tb.1, tb.2) r (300, 0) = some (outE Z o) from ho) (vp_in_nI (n := 0) (N := 1) (by decide) (by decide)) (hB (300, 0) (by decide)) (cX_xup (by decide) _) (xdec_at tL_close_0 10 rfl) ?_
      refine v_goto (tgt := 24) X (xdec_at tL_close_0 11 rfl) (by decide) ?_
      refine v_iconst (v := 0) X (xdec_at tL_close_0 15 rfl) (by decide) ?_
      exact v_xr (v_iret X hr (xdec_at tL_close_0 16 rfl) (Nat.le_of_ble_eq_true rfl) (Nat.le_of_ble_eq_true rfl) ⟨by rw [h0], Or.inl ⟨h0, hB, h00, by rw [if_neg c_b]⟩⟩)
  · rintro E q ⟨rfl, hT⟩
    refine ⟨20, hnd_1 ht (Or.inl rfl) rfl (by decide) (xw_at tW_5 26 rfl), ?_⟩
    refine v_astore (lv' := [some (.ref (lay (0, 0))), some (.int g), some (.int c), some (.ref (lay (300, 0))), some (.ref q)]) X (xdec_at tL_close_0 12 rfl) (by decide) rfl ?_
    refine v_iconst (v := 1) X (xdec_at tL_close_0 13 rfl) (by decide) ?_
    exact v_xr (v_iret X hr (xdec_at tL_close_0 14 rfl) (Nat.le_of_ble_eq_true rfl) (Nat.le_of_ble_eq_true rfl) ⟨by rw [hT], Or.inr ⟨by rw [hT]; decide, rfl, rfl⟩⟩)
theorem mw_days : xMW yL_days cL_days 5 (some FieldType.int) [(0, 10, 13, 19)] 4 := ⟨(xw_at tW_8 22 rfl), (xw_at tW_0 33 rfl), (xw_at tW_8 23 rfl), ⟨by decide +kernel, by decide +kernel, by decide +kernel⟩, by decide +kernel⟩
set_option maxRecDepth 100000 in
set_option maxHeartbeats 4000000 in
theorem w_days (l : Launch) (hl0 : l.stackTraces = false) (Z : xZ) (B0 : Nat) (lay : xK → Nat) (μ : Mu) (tb : Tb) (r : xK → Option xE) (hI : RI μ) (a b : Int32) (hTS : TS μ tb.1) (o : Nat → Int64) (ho : r (300, 0) = some (outE Z o)) : YC l yL_days cL_days 5 (some FieldType.int) [(0, 10, 13, 19)] 8 133 2 12 Z B0 [.ref (lay (0, 0)), .int a, .int b, .ref (lay (300, 0))] lay (cX Z lay μ tb r) (wpost Z lay μ (M_told μ a b).2 tb tb r (xup r (300, 0) (outE Z (vp_updL o 0 ((M_told μ a b).1.toInt64))))) := by
  refine YC_of mw_days RL rfl [some (.ref (lay (0, 0))), some (.int a), some (.int b), some (.ref (lay (300, 0))), none] rfl (Nat.le_of_ble_eq_true rfl) ?_
  intro P1 P2 P3 P4 P5 P6 P7 P8 X hr hE ht
  refine v_aload_n X (xdec_at tL_days_0 0 rfl) rfl rfl ?_
  refine v_iconst (v := 0) X (xdec_at tL_days_0 1 rfl) (by decide) ?_
  refine v_aload_n X (xdec_at tL_days_0 2 rfl) rfl rfl ?_
  refine v_iload_n X (xdec_at tL_days_0 3 rfl) rfl rfl ?_
  refine v_iload_n X (xdec_at tL_days_0 4 rfl) rfl rfl ?_
  refine v_wV X hE myX4_days [.int a, .int b] [.int 0, .ref (lay (300, 0))] (kyX4_days l hl0 Z B0 lay μ tb r hI a b hTS) (xw_at tW_8 24 rfl) (0, 0) cX_X rfl rfl rfl rfl (by rfl) (Nat.le_of_ble_eq_true rfl) (xdec_at tL_days_0 5 rfl) ⟨(Nat.le_of_ble_eq_true rfl), (Nat.le_of_ble_eq_true rfl)⟩ ⟨(Nat.le_of_ble_eq_true rfl), (Nat.le_of_ble_eq_true rfl)⟩ ?_ ?_
  · rintro v9 lay9 C9 ⟨rfl, rfl, h0, rfl⟩
    have hB : lyB lay lay := fun _ _ => rfl
    have h00 : lay (0, 0) = lay (0, 0) := rfl
    refine v_i2l X (xdec_at tL_days_0 6 rfl) rfl ?_
    refine x_last (C' := cX Z lay (M_told μ a b).2 tb (xup r (300, 0) (outE Z (vp_updL o 0 ((M_told μ a b).1.toInt64))))) X (300, 0) (show cX Z lay (M_told μ a b).2 tb r (300, 0) = some (outE Z o) from ho) (vp_in_nI (n := 0) (N := 1) (by decide) (by decide)) (hB (300, 0) (by decide)) (cX_xup (by decide) _) (xdec_at tL_days_0 7 rfl) ?_
    refine v_goto (tgt := 17) X (xdec_at tL_days_0 8 rfl) (by decide) ?_
    refine v_iconst (v := 0) X (xdec_at tL_days_0 12 rfl) (by decide) ?_
    exact v_xr (v_iret X hr (xdec_at tL_days_0 13 rfl) (Nat.le_of_ble_eq_true rfl) (Nat.le_of_ble_eq_true rfl) ⟨by rw [h0], Or.inl ⟨h0, hB, h00, rfl⟩⟩)
  · rintro E q ⟨rfl, hT⟩
    refine ⟨13, hnd_1 ht (Or.inl rfl) rfl (by decide) (xw_at tW_5 26 rfl), ?_⟩
    refine v_astore (lv' := [some (.ref (lay (0, 0))), some (.int a), some (.int b), some (.ref (lay (300, 0))), some (.ref q)]) X (xdec_at tL_days_0 9 rfl) (by decide) rfl ?_
    refine v_iconst (v := 1) X (xdec_at tL_days_0 10 rfl) (by decide) ?_
    exact v_xr (v_iret X hr (xdec_at tL_days_0 11 rfl) (Nat.le_of_ble_eq_true rfl) (Nat.le_of_ble_eq_true rfl) ⟨by rw [hT], Or.inr ⟨by rw [hT]; decide, rfl, rfl⟩⟩)
theorem mw_daysAnew : xMW yL_daysAnew cL_daysAnew 5 (some FieldType.int) [(0, 10, 13, 19)] 4 := ⟨(xw_at tW_8 36 rfl), (xw_at tW_0 33 rfl), (xw_at tW_8 37 rfl), ⟨by decide +kernel, by decide +kernel, by decide +kernel⟩, by decide +kernel⟩
set_option maxRecDepth 100000 in
set_option maxHeartbeats 4000000 in
theorem w_daysAnew (l : Launch) (hl0 : l.stackTraces = false) (Z : xZ) (B0 : Nat) (lay : xK → Nat) (μ : Mu) (tb : Tb) (r : xK → Option xE) (hI : RI μ) (a b : Int32) (hTS : TS μ tb.1) (o : Nat → Int64) (ho : r (300, 0) = some (outE Z o)) : YC l yL_daysAnew cL_daysAnew 5 (some FieldType.int) [(0, 10, 13, 19)] 13 612 2 12 Z B0 [.ref (lay (0, 0)), .int a, .int b, .ref (lay (300, 0))] lay (cX Z lay μ tb r) (wpost Z lay μ (M_told μ a b).2 tb tb r (xup r (300, 0) (outE Z (vp_updL o 0 ((M_told μ a b).1.toInt64))))) := by
  refine YC_of mw_daysAnew RL rfl [some (.ref (lay (0, 0))), some (.int a), some (.int b), some (.ref (lay (300, 0))), none] rfl (Nat.le_of_ble_eq_true rfl) ?_
  intro P1 P2 P3 P4 P5 P6 P7 P8 X hr hE ht
  refine v_aload_n X (xdec_at tL_daysAnew_0 0 rfl) rfl rfl ?_
  refine v_iconst (v := 0) X (xdec_at tL_daysAnew_0 1 rfl) (by decide) ?_
  refine v_aload_n X (xdec_at tL_daysAnew_0 2 rfl) rfl rfl ?_
  refine v_iload_n X (xdec_at tL_daysAnew_0 3 rfl) rfl rfl ?_
  refine v_iload_n X (xdec_at tL_daysAnew_0 4 rfl) rfl rfl ?_
  refine v_wV X hE myX4_daysAnew [.int a, .int b] [.int 0, .ref (lay (300, 0))] (kyX4_daysAnew l hl0 Z B0 lay μ tb r hI a b hTS) (xw_at tW_8 38 rfl) (0, 0) cX_X rfl rfl rfl rfl (by rfl) (Nat.le_of_ble_eq_true rfl) (xdec_at tL_daysAnew_0 5 rfl) ⟨(Nat.le_of_ble_eq_true rfl), (Nat.le_of_ble_eq_true rfl)⟩ ⟨(Nat.le_of_ble_eq_true rfl), (Nat.le_of_ble_eq_true rfl)⟩ ?_ ?_
  · rintro v9 lay9 C9 ⟨rfl, rfl, h0, rfl⟩
    have hB : lyB lay lay := fun _ _ => rfl
    have h00 : lay (0, 0) = lay (0, 0) := rfl
    refine v_i2l X (xdec_at tL_daysAnew_0 6 rfl) rfl ?_
    refine x_last (C' := cX Z lay (M_told μ a b).2 tb (xup r (300, 0) (outE Z (vp_updL o 0 ((M_told μ a b).1.toInt64))))) X (300, 0) (show cX Z lay (M_told μ a b).2 tb r (300, 0) = some (outE Z o) from ho) (vp_in_nI (n := 0) (N := 1) (by decide) (by decide)) (hB (300, 0) (by decide)) (cX_xup (by decide) _) (xdec_at tL_daysAnew_0 7 rfl) ?_
    refine v_goto (tgt := 17) X (xdec_at tL_daysAnew_0 8 rfl) (by decide) ?_
    refine v_iconst (v := 0) X (xdec_at tL_daysAnew_0 12 rfl) (by decide) ?_
    exact v_xr (v_iret X hr (xdec_at tL_daysAnew_0 13 rfl) (Nat.le_of_ble_eq_true rfl) (Nat.le_of_ble_eq_true rfl) ⟨by rw [h0], Or.inl ⟨h0, hB, h00, rfl⟩⟩)
  · rintro E q ⟨rfl, hT⟩
    refine ⟨13, hnd_1 ht (Or.inl rfl) rfl (by decide) (xw_at tW_5 26 rfl), ?_⟩
    refine v_astore (lv' := [some (.ref (lay (0, 0))), some (.int a), some (.int b), some (.ref (lay (300, 0))), some (.ref q)]) X (xdec_at tL_daysAnew_0 9 rfl) (by decide) rfl ?_
    refine v_iconst (v := 1) X (xdec_at tL_daysAnew_0 10 rfl) (by decide) ?_
    exact v_xr (v_iret X hr (xdec_at tL_daysAnew_0 11 rfl) (Nat.le_of_ble_eq_true rfl) (Nat.le_of_ble_eq_true rfl) ⟨by rw [hT], Or.inr ⟨by rw [hT]; decide, rfl, rfl⟩⟩)
theorem mw_next : xMW yL_next cL_next 5 (some FieldType.int) [(0, 10, 13, 19)] 4 := ⟨(xw_at tW_9 10 rfl), (xw_at tW_0 33 rfl), (xw_at tW_9 11 rfl), ⟨by decide +kernel, by decide +kernel, by decide +kernel⟩, by decide +kernel⟩
set_option maxRecDepth 100000 in
set_option maxHeartbeats 4000000 in
theorem w_next (l : Launch) (hl0 : l.stackTraces = false) (Z : xZ) (B0 : Nat) (lay : xK → Nat) (μ : Mu) (tb : Tb) (r : xK → Option xE) (hI : RI μ) (a b : Int32) (hTS : TS μ tb.1) (o : Nat → Int64) (ho : r (300, 0) = some (outE Z o)) : YC l yL_next cL_next 5 (some FieldType.int) [(0, 10, 13, 19)] 8 133 2 12 Z B0 [.ref (lay (0, 0)), .int a, .int b, .ref (lay (300, 0))] lay (cX Z lay μ tb r) (wpost Z lay μ (M_next μ a b).2 tb tb r (xup r (300, 0) (outE Z (vp_updL o 0 ((M_next μ a b).1.toInt64))))) := by
  refine YC_of mw_next RL rfl [some (.ref (lay (0, 0))), some (.int a), some (.int b), some (.ref (lay (300, 0))), none] rfl (Nat.le_of_ble_eq_true rfl) ?_
  intro P1 P2 P3 P4 P5 P6 P7 P8 X hr hE ht
  refine v_aload_n X (xdec_at tL_next_0 0 rfl) rfl rfl ?_
  refine v_iconst (v := 0) X (xdec_at tL_next_0 1 rfl) (by decide) ?_
  refine v_aload_n X (xdec_at tL_next_0 2 rfl) rfl rfl ?_
  refine v_iload_n X (xdec_at tL_next_0 3 rfl) rfl rfl ?_
  refine v_iload_n X (xdec_at tL_next_0 4 rfl) rfl rfl ?_
  refine v_wV X hE myX4_next [.int a, .int b] [.int 0, .ref (lay (300, 0))] (kyX4_next l hl0 Z B0 lay μ tb r hI a b hTS) (xw_at tW_9 12 rfl) (0, 0) cX_X rfl rfl rfl rfl (by rfl) (Nat.le_of_ble_eq_true rfl) (xdec_at tL_next_0 5 rfl) ⟨(Nat.le_of_ble_eq_true rfl), (Nat.le_of_ble_eq_true rfl)⟩ ⟨(Nat.le_of_ble_eq_true rfl), (Nat.le_of_ble_eq_true rfl)⟩ ?_ ?_
  · rintro v9 lay9 C9 ⟨rfl, rfl, h0, rfl⟩
    have hB : lyB lay lay := fun _ _ => rfl
    have h00 : lay (0, 0) = lay (0, 0) := rfl
    refine v_i2l X (xdec_at tL_next_0 6 rfl) rfl ?_
    refine x_last (C' := cX Z lay (M_next μ a b).2 tb (xup r (300, 0) (outE Z (vp_updL o 0 ((M_next μ a b).1.toInt64))))) X (300, 0) (show cX Z lay (M_next μ a b).2 tb r (300, 0) = some (outE Z o) from ho) (vp_in_nI (n := 0) (N := 1) (by decide) (by decide)) (hB (300, 0) (by decide)) (cX_xup (by decide) _) (xdec_at tL_next_0 7 rfl) ?_
    refine v_goto (tgt := 17) X (xdec_at tL_next_0 8 rfl) (by decide) ?_
    refine v_iconst (v := 0) X (xdec_at tL_next_0 12 rfl) (by decide) ?_
    exact v_xr (v_iret X hr (xdec_at tL_next_0 13 rfl) (Nat.le_of_ble_eq_true rfl) (Nat.le_of_ble_eq_true rfl) ⟨by rw [h0], Or.inl ⟨h0, hB, h00, rfl⟩⟩)
  · rintro E q ⟨rfl, hT⟩
    refine ⟨13, hnd_1 ht (Or.inl rfl) rfl (by decide) (xw_at tW_5 26 rfl), ?_⟩
    refine v_astore (lv' := [some (.ref (lay (0, 0))), some (.int a), some (.int b), some (.ref (lay (300, 0))), some (.ref q)]) X (xdec_at tL_next_0 9 rfl) (by decide) rfl ?_
    refine v_iconst (v := 1) X (xdec_at tL_next_0 10 rfl) (by decide) ?_
    exact v_xr (v_iret X hr (xdec_at tL_next_0 11 rfl) (Nat.le_of_ble_eq_true rfl) (Nat.le_of_ble_eq_true rfl) ⟨by rw [hT], Or.inr ⟨by rw [hT]; decide, rfl, rfl⟩⟩)
theorem mw_mail : xMW yL_mail cL_mail 9 (some FieldType.int) [(0, 18, 21, 19), (0, 18, 25, 21), (0, 18, 29, 13)] 8 := ⟨(xw_at tW_9 21 rfl), (xw_at tW_0 33 rfl), (xw_at tW_9 22 rfl), ⟨by decide +kernel, by decide +kernel, by decide +kernel⟩, by decide +kernel⟩
set_option maxRecDepth 100000 in
set_option maxHeartbeats 4000000 in
theorem w_mail (l : Launch) (hl0 : l.stackTraces = false) (Z : xZ) (B0 : Nat) (lay : xK → Nat) (μ : Mu) (tb : Tb) (r : xK → Option xE) (hI : RI μ) (k a b g pd rg : Int32) (hK : KI μ) (hrg : rg = 0 ∨ rg = 1) (hr2 : r (200, 0) = none) (hS : ¬ (80000 : Int32) ≤ μ.1 30 0) (o : Nat → Int64) (ho : r (300, 0) = some (outE Z o)) : YC l yL_mail cL_mail 9 (some FieldType.int) [(0, 18, 21, 19), (0, 18, 25, 21), (0, 18, 29, 13)] 9 199 7 53 Z B0 [.ref (lay (0, 0)), .int k, .int a, .int b, .int g, .int pd, .int rg, .ref (lay (300, 0))] lay (cX Z lay μ tb r) (wpost Z lay μ (M_mail μ k a b g pd rg).2 tb (KT_mail μ tb a rg) r (xup r (300, 0) (outE Z (vp_updL o 0 ((M_mail μ k a b g pd rg).1.toInt64))))) := by
  refine YC_of mw_mail RL rfl [some (.ref (lay (0, 0))), some (.int k), some (.int a), some (.int b), some (.int g), some (.int pd), some (.int rg), some (.ref (lay (300, 0))), none] rfl (Nat.le_of_ble_eq_true rfl) ?_
  intro P1 P2 P3 P4 P5 P6 P7 P8 X hr hE ht
  refine v_aload X (xdec_at tL_mail_0 0 rfl) rfl ?_
  refine v_iconst (v := 0) X (xdec_at tL_mail_0 1 rfl) (by decide) ?_
  refine v_aload_n X (xdec_at tL_mail_0 2 rfl) rfl rfl ?_
  refine v_iload_n X (xdec_at tL_mail_0 3 rfl) rfl rfl ?_
  refine v_iload_n X (xdec_at tL_mail_0 4 rfl) rfl rfl ?_
  refine v_iload_n X (xdec_at tL_mail_0 5 rfl) rfl rfl ?_
  refine v_iload X (xdec_at tL_mail_0 6 rfl) rfl ?_
  refine v_iload X (xdec_at tL_mail_0 7 rfl) rfl ?_
  refine v_iload X (xdec_at tL_mail_0 8 rfl) rfl ?_
  refine v_wV X hE myX4_mail [.int k, .int a, .int b, .int g, .int pd, .int rg] [.int 0, .ref (lay (300, 0))] (kyX4_mail l hl0 Z B0 lay μ tb r hI hK k a b g pd rg hrg hr2 hS) (xw_at tW_9 23 rfl) (0, 0) cX_X rfl rfl rfl rfl (by rfl) (Nat.le_of_ble_eq_true rfl) (xdec_at tL_mail_0 9 rfl) ⟨(Nat.le_of_ble_eq_true rfl), (Nat.le_of_ble_eq_true rfl)⟩ ⟨(Nat.le_of_ble_eq_true rfl), (Nat.le_of_ble_eq_true rfl)⟩ ?_ ?_
  · rintro v9 lay9 C9 ⟨hC9, hB, rfl, h0, rfl⟩
    have h00 : lay9 (0, 0) = lay (0, 0) := hC9 (0, 0) (by rw [cX_X]; exact fun z => by cases z)
    refine v_i2l X (xdec_at tL_mail_0 10 rfl) rfl ?_
    refine x_last (C' := cX Z lay9 (M_mail μ k a b g pd rg).2 (KT_mail μ tb a rg) (xup r (300, 0) (outE Z (vp_updL o 0 ((M_mail μ k a b g pd rg).1.toInt64))))) X (300, 0) (show cX Z lay9 (M_mail μ k a b g pd rg).2 (KT_mail μ tb a rg) r (300, 0) = some (outE Z o) from ho) (vp_in_nI (n := 0) (N := 1) (by decide) (by decide)) (hB (300, 0) (by decide)) (cX_xup (by decide) _) (xdec_at tL_mail_0 11 rfl) ?_
    refine v_goto (tgt := 33) X (xdec_at tL_mail_0 12 rfl) (by decide) ?_
    refine v_iconst (v := 0) X (xdec_at tL_mail_0 22 rfl) (by decide) ?_
    exact v_xr (v_iret X hr (xdec_at tL_mail_0 23 rfl) (Nat.le_of_ble_eq_true rfl) (Nat.le_of_ble_eq_true rfl) ⟨by rw [h0], Or.inl ⟨h0, hB, h00, rfl⟩⟩)
  · rintro E q (⟨rfl, hT⟩ | ⟨rfl, hT⟩ | ⟨rfl, hT⟩)
    · refine ⟨21, hnd_1 ht (Or.inl rfl) rfl (by decide) (xw_at tW_5 26 rfl), ?_⟩
      refine v_astore (lv' := [some (.ref (lay (0, 0))), some (.int k), some (.int a), some (.int b), some (.int g), some (.int pd), some (.int rg), some (.ref (lay (300, 0))), some (.ref q)]) X (xdec_at tL_mail_0 13 rfl) (by decide) rfl ?_
      refine v_iconst (v := 1) X (xdec_at tL_mail_0 14 rfl) (by decide) ?_
      exact v_xr (v_iret X hr (xdec_at tL_mail_0 15 rfl) (Nat.le_of_ble_eq_true rfl) (Nat.le_of_ble_eq_true rfl) ⟨by rw [hT], Or.inr ⟨by rw [hT]; decide, rfl, rfl⟩⟩)
    · refine ⟨25, hnd_2 ht (Or.inr (Or.inl rfl)) (by decide) (xw_at tW_5 26 rfl) hE.2.1 rfl (by decide) (xw_at tW_5 27 rfl), ?_⟩
      refine v_astore (lv' := [some (.ref (lay (0, 0))), some (.int k), some (.int a), some (.int b), some (.int g), some (.int pd), some (.int rg), some (.ref (lay (300, 0))), some (.ref q)]) X (xdec_at tL_mail_0 16 rfl) (by decide) rfl ?_
      refine v_iconst (v := 2) X (xdec_at tL_mail_0 17 rfl) (by decide) ?_
      exact v_xr (v_iret X hr (xdec_at tL_mail_0 18 rfl) (Nat.le_of_ble_eq_true rfl) (Nat.le_of_ble_eq_true rfl) ⟨by rw [hT], Or.inr ⟨by rw [hT]; decide, rfl, rfl⟩⟩)
    · refine ⟨29, hnd_3 ht (Or.inr (Or.inr rfl)) (by decide) (xw_at tW_5 26 rfl) hE.2.2.1 (by decide) (xw_at tW_5 27 rfl) hE.2.2.2 rfl (by decide) (xw_at tW_3 11 rfl), ?_⟩
      refine v_astore (lv' := [some (.ref (lay (0, 0))), some (.int k), some (.int a), some (.int b), some (.int g), some (.int pd), some (.int rg), some (.ref (lay (300, 0))), some (.ref q)]) X (xdec_at tL_mail_0 19 rfl) (by decide) rfl ?_
      refine v_iconst (v := 3) X (xdec_at tL_mail_0 20 rfl) (by decide) ?_
      exact v_xr (v_iret X hr (xdec_at tL_mail_0 21 rfl) (Nat.le_of_ble_eq_true rfl) (Nat.le_of_ble_eq_true rfl) ⟨by rw [hT], Or.inr ⟨by rw [hT]; decide, rfl, rfl⟩⟩)
theorem mw_redirect : xMW yL_redirect cL_redirect 5 (some FieldType.int) [(0, 10, 13, 19), (0, 10, 17, 21), (0, 10, 21, 13)] 4 := ⟨(xw_at tW_11 24 rfl), (xw_at tW_0 33 rfl), (xw_at tW_11 25 rfl), ⟨by decide +kernel, by decide +kernel, by decide +kernel⟩, by decide +kernel⟩
set_option maxRecDepth 100000 in
set_option maxHeartbeats 4000000 in
theorem w_redirect (l : Launch) (hl0 : l.stackTraces = false) (Z : xZ) (B0 : Nat) (lay : xK → Nat) (μ : Mu) (tb : Tb) (r : xK → Option xE) (hI : RI μ) (t b : Int32) (hK : KI μ) (o : Nat → Int64) (ho : r (300, 0) = some (outE Z o)) : YC l yL_redirect cL_redirect 5 (some FieldType.int) [(0, 10, 13, 19), (0, 10, 17, 21), (0, 10, 21, 13)] 8 136 3 18 Z B0 [.ref (lay (0, 0)), .int t, .int b, .ref (lay (300, 0))] lay (cX Z lay μ tb r) (wpost Z lay μ (M_redirect μ t b).2 tb tb r (xup r (300, 0) (outE Z (vp_updL o 0 ((M_redirect μ t b).1.toInt64))))) := by
  refine YC_of mw_redirect RL rfl [some (.ref (lay (0, 0))), some (.int t), some (.int b), some (.ref (lay (300, 0))), none] rfl (Nat.le_of_ble_eq_true rfl) ?_
  intro P1 P2 P3 P4 P5 P6 P7 P8 X hr hE ht
  refine v_aload_n X (xdec_at tL_redirect_0 0 rfl) rfl rfl ?_
  refine v_iconst (v := 0) X (xdec_at tL_redirect_0 1 rfl) (by decide) ?_
  refine v_aload_n X (xdec_at tL_redirect_0 2 rfl) rfl rfl ?_
  refine v_iload_n X (xdec_at tL_redirect_0 3 rfl) rfl rfl ?_
  refine v_iload_n X (xdec_at tL_redirect_0 4 rfl) rfl rfl ?_
  refine v_wV X hE myX4_redirect [.int t, .int b] [.int 0, .ref (lay (300, 0))] (kyX4_redirect l hl0 Z B0 lay μ tb r hI t b hK) (xw_at tW_11 26 rfl) (0, 0) cX_X rfl rfl rfl rfl (by rfl) (Nat.le_of_ble_eq_true rfl) (xdec_at tL_redirect_0 5 rfl) ⟨(Nat.le_of_ble_eq_true rfl), (Nat.le_of_ble_eq_true rfl)⟩ ⟨(Nat.le_of_ble_eq_true rfl), (Nat.le_of_ble_eq_true rfl)⟩ ?_ ?_
  · rintro v9 lay9 C9 ⟨rfl, rfl, h0, rfl⟩
    have hB : lyB lay lay := fun _ _ => rfl
    have h00 : lay (0, 0) = lay (0, 0) := rfl
    refine v_i2l X (xdec_at tL_redirect_0 6 rfl) rfl ?_
    refine x_last (C' := cX Z lay (M_redirect μ t b).2 tb (xup r (300, 0) (outE Z (vp_updL o 0 ((M_redirect μ t b).1.toInt64))))) X (300, 0) (show cX Z lay (M_redirect μ t b).2 tb r (300, 0) = some (outE Z o) from ho) (vp_in_nI (n := 0) (N := 1) (by decide) (by decide)) (hB (300, 0) (by decide)) (cX_xup (by decide) _) (xdec_at tL_redirect_0 7 rfl) ?_
    refine v_goto (tgt := 25) X (xdec_at tL_redirect_0 8 rfl) (by decide) ?_
    refine v_iconst (v := 0) X (xdec_at tL_redirect_0 18 rfl) (by decide) ?_
    exact v_xr (v_iret X hr (xdec_at tL_redirect_0 19 rfl) (Nat.le_of_ble_eq_true rfl) (Nat.le_of_ble_eq_true rfl) ⟨by rw [h0], Or.inl ⟨h0, hB, h00, rfl⟩⟩)
  · rintro E q (⟨rfl, hT⟩ | ⟨rfl, hT⟩ | ⟨rfl, hT⟩)
    · refine ⟨13, hnd_1 ht (Or.inl rfl) rfl (by decide) (xw_at tW_5 26 rfl), ?_⟩
      refine v_astore (lv' := [some (.ref (lay (0, 0))), some (.int t), some (.int b), some (.ref (lay (300, 0))), some (.ref q)]) X (xdec_at tL_redirect_0 9 rfl) (by decide) rfl ?_
      refine v_iconst (v := 1) X (xdec_at tL_redirect_0 10 rfl) (by decide) ?_
      exact v_xr (v_iret X hr (xdec_at tL_redirect_0 11 rfl) (Nat.le_of_ble_eq_true rfl) (Nat.le_of_ble_eq_true rfl) ⟨by rw [hT], Or.inr ⟨by rw [hT]; decide, rfl, rfl⟩⟩)
    · refine ⟨17, hnd_2 ht (Or.inr (Or.inl rfl)) (by decide) (xw_at tW_5 26 rfl) hE.2.1 rfl (by decide) (xw_at tW_5 27 rfl), ?_⟩
      refine v_astore (lv' := [some (.ref (lay (0, 0))), some (.int t), some (.int b), some (.ref (lay (300, 0))), some (.ref q)]) X (xdec_at tL_redirect_0 12 rfl) (by decide) rfl ?_
      refine v_iconst (v := 2) X (xdec_at tL_redirect_0 13 rfl) (by decide) ?_
      exact v_xr (v_iret X hr (xdec_at tL_redirect_0 14 rfl) (Nat.le_of_ble_eq_true rfl) (Nat.le_of_ble_eq_true rfl) ⟨by rw [hT], Or.inr ⟨by rw [hT]; decide, rfl, rfl⟩⟩)
    · refine ⟨21, hnd_3 ht (Or.inr (Or.inr rfl)) (by decide) (xw_at tW_5 26 rfl) hE.2.2.1 (by decide) (xw_at tW_5 27 rfl) hE.2.2.2 rfl (by decide) (xw_at tW_3 11 rfl), ?_⟩
      refine v_astore (lv' := [some (.ref (lay (0, 0))), some (.int t), some (.int b), some (.ref (lay (300, 0))), some (.ref q)]) X (xdec_at tL_redirect_0 15 rfl) (by decide) rfl ?_
      refine v_iconst (v := 3) X (xdec_at tL_redirect_0 16 rfl) (by decide) ?_
      exact v_xr (v_iret X hr (xdec_at tL_redirect_0 17 rfl) (Nat.le_of_ble_eq_true rfl) (Nat.le_of_ble_eq_true rfl) ⟨by rw [hT], Or.inr ⟨by rw [hT]; decide, rfl, rfl⟩⟩)
theorem mw_refuse : xMW yL_refuse cL_refuse 5 (some FieldType.int) [(0, 17, 20, 19), (0, 17, 24, 13)] 4 := ⟨(xw_at tW_12 1 rfl), (xw_at tW_0 33 rfl), (xw_at tW_12 2 rfl), ⟨by decide +kernel, by decide +kernel, by decide +kernel⟩, by decide +kernel⟩
set_option maxRecDepth 100000 in
set_option maxHeartbeats 4000000 in
theorem w_refuse (l : Launch) (hl0 : l.stackTraces = false) (Z : xZ) (B0 : Nat) (lay : xK → Nat) (μ : Mu) (tb : Tb) (r : xK → Option xE) (hI : RI μ) (t c : Int32) (hc : c = 0 ∨ c = 1) (o : Nat → Int64) (ho : r (300, 0) = some (outE Z o)) : YC l yL_refuse cL_refuse 5 (some FieldType.int) [(0, 17, 20, 19), (0, 17, 24, 13)] 8 135 2 12 Z B0 [.ref (lay (0, 0)), .int t, .int c, .ref (lay (300, 0))] lay (cX Z lay μ tb r) (wpost Z lay μ (M_refuse μ t c).2 tb tb r (xup r (300, 0) (outE Z (vp_updL o 0 (if (M_refuse μ t c).1 = 0 then 0 else 1))))) := by
  refine YC_of mw_refuse RL rfl [some (.ref (lay (0, 0))), some (.int t), some (.int c), some (.ref (lay (300, 0))), none] rfl (Nat.le_of_ble_eq_true rfl) ?_
  intro P1 P2 P3 P4 P5 P6 P7 P8 X hr hE ht
  refine v_aload_n X (xdec_at tL_refuse_0 0 rfl) rfl rfl ?_
  refine v_iconst (v := 0) X (xdec_at tL_refuse_0 1 rfl) (by decide) ?_
  refine v_aload_n X (xdec_at tL_refuse_0 2 rfl) rfl rfl ?_
  refine v_iload_n X (xdec_at tL_refuse_0 3 rfl) rfl rfl ?_
  refine v_iload_n X (xdec_at tL_refuse_0 4 rfl) rfl rfl ?_
  refine v_wV X hE myX4_refuse [.int t, .int c] [.int 0, .ref (lay (300, 0))] (kyX4_refuse l hl0 Z B0 lay μ tb r hI t c hc) (xw_at tW_12 3 rfl) (0, 0) cX_X rfl rfl rfl rfl (by rfl) (Nat.le_of_ble_eq_true rfl) (xdec_at tL_refuse_0 5 rfl) ⟨(Nat.le_of_ble_eq_true rfl), (Nat.le_of_ble_eq_true rfl)⟩ ⟨(Nat.le_of_ble_eq_true rfl), (Nat.le_of_ble_eq_true rfl)⟩ ?_ ?_
  · rintro v9 lay9 C9 ⟨rfl, rfl, h0, rfl⟩
    have hB : lyB lay lay := fun _ _ => rfl
    have h00 : lay (0, 0) = lay (0, 0) := rfl
    refine v_if_eq (tgt := 15) X (xdec_at tL_refuse_0 6 rfl) (by decide) (fun c_b => ?_) (fun c_b => ?_)
    · refine v_lconst (v := 0) X (xdec_at tL_refuse_0 9 rfl) (by decide) ?_
      refine x_last (C' := cX Z lay (M_refuse μ t c).2 tb (xup r (300, 0) (outE Z (vp_updL o 0 0)))) X (300, 0) (show cX Z lay (M_refuse μ t c).2 tb r (300, 0) = some (outE Z o) from ho) (vp_in_nI (n := 0) (N := 1) (by decide) (by decide)) (hB (300, 0) (by decide)) (cX_xup (by decide) _) (xdec_at tL_refuse_0 10 rfl) ?_
      refine v_goto (tgt := 28) X (xdec_at tL_refuse_0 11 rfl) (by decide) ?_
      refine v_iconst (v := 0) X (xdec_at tL_refuse_0 18 rfl) (by decide) ?_
      exact v_xr (v_iret X hr (xdec_at tL_refuse_0 19 rfl) (Nat.le_of_ble_eq_true rfl) (Nat.le_of_ble_eq_true rfl) ⟨by rw [h0], Or.inl ⟨h0, hB, h00, by rw [if_pos c_b]⟩⟩)
    · refine v_lconst (v := 1) X (xdec_at tL_refuse_0 7 rfl) (by decide) ?_
      refine v_goto (tgt := 16) X (xdec_at tL_refuse_0 8 rfl) (by decide) ?_
      refine x_last (C' := cX Z lay (M_refuse μ t c).2 tb (xup r (300, 0) (outE Z (vp_updL o 0 1)))) X (300, 0) (show cX Z lay (M_refuse μ t c).2 tb r (300, 0) = some (outE Z o) from ho) (vp_in_nI (n := 0) (N := 1) (by decide) (by decide)) (hB (300, 0) (by decide)) (cX_xup (by decide) _) (xdec_at tL_refuse_0 10 rfl) ?_
      refine v_goto (tgt := 28) X (xdec_at tL_refuse_0 11 rfl) (by decide) ?_
      refine v_iconst (v := 0) X (xdec_at tL_refuse_0 18 rfl) (by decide) ?_
      exact v_xr (v_iret X hr (xdec_at tL_refuse_0 19 rfl) (Nat.le_of_ble_eq_true rfl) (Nat.le_of_ble_eq_true rfl) ⟨by rw [h0], Or.inl ⟨h0, hB, h00, by rw [if_neg c_b]⟩⟩)
  · rintro E q (⟨rfl, hT⟩ | ⟨rfl, hT⟩)
    · refine ⟨20, hnd_1 ht (Or.inl rfl) rfl (by decide) (xw_at tW_5 26 rfl), ?_⟩
      refine v_astore (lv' := [some (.ref (lay (0, 0))), some (.int t), some (.int c), some (.ref (lay (300, 0))), some (.ref q)]) X (xdec_at tL_refuse_0 12 rfl) (by decide) rfl ?_
      refine v_iconst (v := 1) X (xdec_at tL_refuse_0 13 rfl) (by decide) ?_
      exact v_xr (v_iret X hr (xdec_at tL_refuse_0 14 rfl) (Nat.le_of_ble_eq_true rfl) (Nat.le_of_ble_eq_true rfl) ⟨by rw [hT], Or.inr ⟨by rw [hT]; decide, rfl, rfl⟩⟩)
    · refine ⟨24, hnd_2 ht (Or.inr (Or.inr rfl)) (by decide) (xw_at tW_5 26 rfl) hE.2.2.1 rfl (by decide) (xw_at tW_3 11 rfl), ?_⟩
      refine v_astore (lv' := [some (.ref (lay (0, 0))), some (.int t), some (.int c), some (.ref (lay (300, 0))), some (.ref q)]) X (xdec_at tL_refuse_0 15 rfl) (by decide) rfl ?_
      refine v_iconst (v := 2) X (xdec_at tL_refuse_0 16 rfl) (by decide) ?_
      exact v_xr (v_iret X hr (xdec_at tL_refuse_0 17 rfl) (Nat.le_of_ble_eq_true rfl) (Nat.le_of_ble_eq_true rfl) ⟨by rw [hT], Or.inr ⟨by rw [hT]; decide, rfl, rfl⟩⟩)
theorem mw_go : xMW yL_go cL_go 4 (some FieldType.int) [(0, 9, 12, 21)] 3 := ⟨(xw_at tW_12 8 rfl), (xw_at tW_0 33 rfl), (xw_at tW_12 9 rfl), ⟨by decide +kernel, by decide +kernel, by decide +kernel⟩, by decide +kernel⟩
set_option maxRecDepth 100000 in
set_option maxHeartbeats 4000000 in
theorem w_go (l : Launch) (hl0 : l.stackTraces = false) (Z : xZ) (B0 : Nat) (lay : xK → Nat) (μ : Mu) (tb : Tb) (r : xK → Option xE) (d : Int32) (M : Nat) (hG : GI μ tb M) (hG0 : GI (th μ 0) tb M) (hM : M ≤ 3600) (hr2 : r (200, 0) = none) (ce sl : Nat) (hce1 : 1 ≤ ce ∧ 6 ≤ sl) (hce : inR d 1 200 → 1 + Pp (KT_days (ix d) (0, th μ 0) tb) ≤ ce + Pp tb ∧ 6 + 2 * Pp (KT_days (ix d) (0, th μ 0) tb) ≤ sl + 2 * Pp tb) (o : Nat → Int64) (ho : r (300, 0) = some (outE Z o)) : YC l yL_go cL_go 4 (some FieldType.int) [(0, 9, 12, 21)] 8 223 ce sl Z B0 [.ref (lay (0, 0)), .int d, .ref (lay (300, 0))] lay (cX Z lay μ tb r) (wpost Z lay μ (M_go μ d).2 tb (KT_days (ix d) (0, th μ 0) tb) r (xup r (300, 0) (outE Z (vp_updL o 0 ((M_go μ d).1.toInt64))))) := by
  refine YC_of mw_go RL rfl [some (.ref (lay (0, 0))), some (.int d), some (.ref (lay (300, 0))), none] rfl (Nat.le_of_ble_eq_true rfl) ?_
  intro P1 P2 P3 P4 P5 P6 P7 P8 X hr hE ht
  refine v_aload_n X (xdec_at tL_go_0 0 rfl) rfl rfl ?_
  refine v_iconst (v := 0) X (xdec_at tL_go_0 1 rfl) (by decide) ?_
  refine v_aload_n X (xdec_at tL_go_0 2 rfl) rfl rfl ?_
  refine v_iload_n X (xdec_at tL_go_0 3 rfl) rfl rfl ?_
  refine v_wV X hE myX4_go [.int d] [.int 0, .ref (lay (300, 0))] (kyX4_go l hl0 Z B0 lay μ tb r M hG hG0 hM hr2 d ce sl hce1 hce) (xw_at tW_12 10 rfl) (0, 0) cX_X rfl rfl rfl rfl (by rfl) (Nat.le_of_ble_eq_true rfl) (xdec_at tL_go_0 4 rfl) ⟨(Nat.le_of_ble_eq_true rfl), (Nat.le_of_ble_eq_true rfl)⟩ ⟨by show 0 + ce ≤ ce; omega, by show 0 + sl ≤ sl; omega⟩ ?_ ?_
  · rintro v9 lay9 C9 ⟨hK9, rfl, h0, rfl⟩
    have hB : lyB lay lay9 := fun k hk => hK9 k (by omega)
    have h00 : lay9 (0, 0) = lay (0, 0) := hK9 (0, 0) (by decide)
    refine v_i2l X (xdec_at tL_go_0 5 rfl) rfl ?_
    refine x_last (C' := cX Z lay9 (M_go μ d).2 (KT_days (ix d) (0, th μ 0) tb) (xup r (300, 0) (outE Z (vp_updL o 0 ((M_go μ d).1.toInt64))))) X (300, 0) (show cX Z lay9 (M_go μ d).2 (KT_days (ix d) (0, th μ 0) tb) r (300, 0) = some (outE Z o) from ho) (vp_in_nI (n := 0) (N := 1) (by decide) (by decide)) (hB (300, 0) (by decide)) (cX_xup (by decide) _) (xdec_at tL_go_0 6 rfl) ?_
    refine v_goto (tgt := 15) X (xdec_at tL_go_0 7 rfl) (by decide) ?_
    refine v_iconst (v := 0) X (xdec_at tL_go_0 11 rfl) (by decide) ?_
    exact v_xr (v_iret X hr (xdec_at tL_go_0 12 rfl) (by show 0 + ce ≤ ce; omega) (by show 0 + sl ≤ sl; omega) ⟨by rw [h0], Or.inl ⟨h0, hB, h00, rfl⟩⟩)
  · rintro E q ⟨rfl, hT⟩
    refine ⟨12, hnd_1 ht (Or.inr (Or.inl rfl)) rfl (by decide) (xw_at tW_5 27 rfl), ?_⟩
    refine v_astore_n (lv' := [some (.ref (lay (0, 0))), some (.int d), some (.ref (lay (300, 0))), some (.ref q)]) X (xdec_at tL_go_0 8 rfl) rfl (by decide) rfl ?_
    refine v_iconst (v := 1) X (xdec_at tL_go_0 9 rfl) (by decide) ?_
    exact v_xr (v_iret X hr (xdec_at tL_go_0 10 rfl) (by show 0 + ce ≤ ce; omega) (by show 0 + sl ≤ sl; omega) ⟨by rw [hT], Or.inr ⟨by rw [hT]; decide, rfl, rfl⟩⟩)
theorem mw_lose : xMW yL_lose cL_lose 4 (some FieldType.int) [(0, 9, 12, 19), (0, 9, 15, 13)] 3 := ⟨(xw_at tW_13 14 rfl), (xw_at tW_0 33 rfl), (xw_at tW_13 15 rfl), ⟨by decide +kernel, by decide +kernel, by decide +kernel⟩, by decide +kernel⟩
set_option maxRecDepth 100000 in
set_option maxHeartbeats 4000000 in
theorem w_lose (l : Launch) (hl0 : l.stackTraces = false) (Z : xZ) (B0 : Nat) (lay : xK → Nat) (μ : Mu) (tb : Tb) (r : xK → Option xE) (hI : RI μ) (t : Int32) (cl : Nat → Nat → Nat) (hH : HR μ tb cl) (o : Nat → Int64) (ho : r (300, 0) = some (outE Z o)) : YC l yL_lose cL_lose 4 (some FieldType.int) [(0, 9, 12, 19), (0, 9, 15, 13)] 8 133 2 12 Z B0 [.ref (lay (0, 0)), .int t, .ref (lay (300, 0))] lay (cX Z lay μ tb r) (wpost Z lay μ (M_lose μ t).2 tb tb r (xup r (300, 0) (outE Z (vp_updL o 0 ((M_lose μ t).1.toInt64))))) := by
  refine YC_of mw_lose RL rfl [some (.ref (lay (0, 0))), some (.int t), some (.ref (lay (300, 0))), none] rfl (Nat.le_of_ble_eq_true rfl) ?_
  intro P1 P2 P3 P4 P5 P6 P7 P8 X hr hE ht
  refine v_aload_n X (xdec_at tL_lose_0 0 rfl) rfl rfl ?_
  refine v_iconst (v := 0) X (xdec_at tL_lose_0 1 rfl) (by decide) ?_
  refine v_aload_n X (xdec_at tL_lose_0 2 rfl) rfl rfl ?_
  refine v_iload_n X (xdec_at tL_lose_0 3 rfl) rfl rfl ?_
  refine v_wV X hE myX4_lose [.int t] [.int 0, .ref (lay (300, 0))] (kyX4_lose l hl0 Z B0 lay μ tb r hI t cl hH) (xw_at tW_13 16 rfl) (0, 0) cX_X rfl rfl rfl rfl (by rfl) (Nat.le_of_ble_eq_true rfl) (xdec_at tL_lose_0 4 rfl) ⟨(Nat.le_of_ble_eq_true rfl), (Nat.le_of_ble_eq_true rfl)⟩ ⟨(Nat.le_of_ble_eq_true rfl), (Nat.le_of_ble_eq_true rfl)⟩ ?_ ?_
  · rintro v9 lay9 C9 ⟨rfl, rfl, h0, rfl⟩
    have hB : lyB lay lay := fun _ _ => rfl
    have h00 : lay (0, 0) = lay (0, 0) := rfl
    refine v_i2l X (xdec_at tL_lose_0 5 rfl) rfl ?_
    refine x_last (C' := cX Z lay (M_lose μ t).2 tb (xup r (300, 0) (outE Z (vp_updL o 0 ((M_lose μ t).1.toInt64))))) X (300, 0) (show cX Z lay (M_lose μ t).2 tb r (300, 0) = some (outE Z o) from ho) (vp_in_nI (n := 0) (N := 1) (by decide) (by decide)) (hB (300, 0) (by decide)) (cX_xup (by decide) _) (xdec_at tL_lose_0 6 rfl) ?_
    refine v_goto (tgt := 18) X (xdec_at tL_lose_0 7 rfl) (by decide) ?_
    refine v_iconst (v := 0) X (xdec_at tL_lose_0 14 rfl) (by decide) ?_
    exact v_xr (v_iret X hr (xdec_at tL_lose_0 15 rfl) (Nat.le_of_ble_eq_true rfl) (Nat.le_of_ble_eq_true rfl) ⟨by rw [h0], Or.inl ⟨h0, hB, h00, rfl⟩⟩)
  · rintro E q (⟨rfl, hT⟩ | ⟨rfl, hT⟩)
    · refine ⟨12, hnd_1 ht (Or.inl rfl) rfl (by decide) (xw_at tW_5 26 rfl), ?_⟩
      refine v_astore_n (lv' := [some (.ref (lay (0, 0))), some (.int t), some (.ref (lay (300, 0))), some (.ref q)]) X (xdec_at tL_lose_0 8 rfl) rfl (by decide) rfl ?_
      refine v_iconst (v := 1) X (xdec_at tL_lose_0 9 rfl) (by decide) ?_
      exact v_xr (v_iret X hr (xdec_at tL_lose_0 10 rfl) (Nat.le_of_ble_eq_true rfl) (Nat.le_of_ble_eq_true rfl) ⟨by rw [hT], Or.inr ⟨by rw [hT]; decide, rfl, rfl⟩⟩)
    · refine ⟨15, hnd_2 ht (Or.inr (Or.inr rfl)) (by decide) (xw_at tW_5 26 rfl) hE.2.2.1 rfl (by decide) (xw_at tW_3 11 rfl), ?_⟩
      refine v_astore_n (lv' := [some (.ref (lay (0, 0))), some (.int t), some (.ref (lay (300, 0))), some (.ref q)]) X (xdec_at tL_lose_0 11 rfl) rfl (by decide) rfl ?_
      refine v_iconst (v := 2) X (xdec_at tL_lose_0 12 rfl) (by decide) ?_
      exact v_xr (v_iret X hr (xdec_at tL_lose_0 13 rfl) (Nat.le_of_ble_eq_true rfl) (Nat.le_of_ble_eq_true rfl) ⟨by rw [hT], Or.inr ⟨by rw [hT]; decide, rfl, rfl⟩⟩)
theorem mw_claim : xMW yL_claim cL_claim 4 (some FieldType.int) [(0, 9, 12, 19), (0, 9, 15, 13)] 3 := ⟨(xw_at tW_13 25 rfl), (xw_at tW_0 33 rfl), (xw_at tW_13 26 rfl), ⟨by decide +kernel, by decide +kernel, by decide +kernel⟩, by decide +kernel⟩
set_option maxRecDepth 100000 in
set_option maxHeartbeats 4000000 in
theorem w_claim (l : Launch) (hl0 : l.stackTraces = false) (Z : xZ) (B0 : Nat) (lay : xK → Nat) (μ : Mu) (tb : Tb) (r : xK → Option xE) (hI : RI μ) (t : Int32) (hK : KI μ) (o : Nat → Int64) (ho : r (300, 0) = some (outE Z o)) : YC l yL_claim cL_claim 4 (some FieldType.int) [(0, 9, 12, 19), (0, 9, 15, 13)] 8 134 2 12 Z B0 [.ref (lay (0, 0)), .int t, .ref (lay (300, 0))] lay (cX Z lay μ tb r) (wpost Z lay μ (M_claim μ t).2 tb tb r (xup r (300, 0) (outE Z (vp_updL o 0 ((M_claim μ t).1.toInt64))))) := by
  refine YC_of mw_claim RL rfl [some (.ref (lay (0, 0))), some (.int t), some (.ref (lay (300, 0))), none] rfl (Nat.le_of_ble_eq_true rfl) ?_
  intro P1 P2 P3 P4 P5 P6 P7 P8 X hr hE ht
  refine v_aload_n X (xdec_at tL_claim_0 0 rfl) rfl rfl ?_
  refine v_iconst (v := 0) X (xdec_at tL_claim_0 1 rfl) (by decide) ?_
  refine v_aload_n X (xdec_at tL_claim_0 2 rfl) rfl rfl ?_
  refine v_iload_n X (xdec_at tL_claim_0 3 rfl) rfl rfl ?_
  refine v_wV X hE myX4_claim [.int t] [.int 0, .ref (lay (300, 0))] (kyX4_claim l hl0 Z B0 lay μ tb r hI t hK) (xw_at tW_13 27 rfl) (0, 0) cX_X rfl rfl rfl rfl (by rfl) (Nat.le_of_ble_eq_true rfl) (xdec_at tL_claim_0 4 rfl) ⟨(Nat.le_of_ble_eq_true rfl), (Nat.le_of_ble_eq_true rfl)⟩ ⟨(Nat.le_of_ble_eq_true rfl), (Nat.le_of_ble_eq_true rfl)⟩ ?_ ?_
  · rintro v9 lay9 C9 ⟨rfl, rfl, h0, rfl⟩
    have hB : lyB lay lay := fun _ _ => rfl
    have h00 : lay (0, 0) = lay (0, 0) := rfl
    refine v_i2l X (xdec_at tL_claim_0 5 rfl) rfl ?_
    refine x_last (C' := cX Z lay (M_claim μ t).2 tb (xup r (300, 0) (outE Z (vp_updL o 0 ((M_claim μ t).1.toInt64))))) X (300, 0) (show cX Z lay (M_claim μ t).2 tb r (300, 0) = some (outE Z o) from ho) (vp_in_nI (n := 0) (N := 1) (by decide) (by decide)) (hB (300, 0) (by decide)) (cX_xup (by decide) _) (xdec_at tL_claim_0 6 rfl) ?_
    refine v_goto (tgt := 18) X (xdec_at tL_claim_0 7 rfl) (by decide) ?_
    refine v_iconst (v := 0) X (xdec_at tL_claim_0 14 rfl) (by decide) ?_
    exact v_xr (v_iret X hr (xdec_at tL_claim_0 15 rfl) (Nat.le_of_ble_eq_true rfl) (Nat.le_of_ble_eq_true rfl) ⟨by rw [h0], Or.inl ⟨h0, hB, h00, rfl⟩⟩)
  · rintro E q (⟨rfl, hT⟩ | ⟨rfl, hT⟩)
    · refine ⟨12, hnd_1 ht (Or.inl rfl) rfl (by decide) (xw_at tW_5 26 rfl), ?_⟩
      refine v_astore_n (lv' := [some (.ref (lay (0, 0))), some (.int t), some (.ref (lay (300, 0))), some (.ref q)]) X (xdec_at tL_claim_0 8 rfl) rfl (by decide) rfl ?_
      refine v_iconst (v := 1) X (xdec_at tL_claim_0 9 rfl) (by decide) ?_
      exact v_xr (v_iret X hr (xdec_at tL_claim_0 10 rfl) (Nat.le_of_ble_eq_true rfl) (Nat.le_of_ble_eq_true rfl) ⟨by rw [hT], Or.inr ⟨by rw [hT]; decide, rfl, rfl⟩⟩)
    · refine ⟨15, hnd_2 ht (Or.inr (Or.inr rfl)) (by decide) (xw_at tW_5 26 rfl) hE.2.2.1 rfl (by decide) (xw_at tW_3 11 rfl), ?_⟩
      refine v_astore_n (lv' := [some (.ref (lay (0, 0))), some (.int t), some (.ref (lay (300, 0))), some (.ref q)]) X (xdec_at tL_claim_0 11 rfl) rfl (by decide) rfl ?_
      refine v_iconst (v := 2) X (xdec_at tL_claim_0 12 rfl) (by decide) ?_
      exact v_xr (v_iret X hr (xdec_at tL_claim_0 13 rfl) (Nat.le_of_ble_eq_true rfl) (Nat.le_of_ble_eq_true rfl) ⟨by rw [hT], Or.inr ⟨by rw [hT]; decide, rfl, rfl⟩⟩)
theorem mw_settle : xMW yL_settle cL_settle 4 (some FieldType.int) [(0, 8, 11, 21)] 3 := ⟨(xw_at tW_13 36 rfl), (xw_at tW_0 33 rfl), (xw_at tW_13 37 rfl), ⟨by decide +kernel, by decide +kernel, by decide +kernel⟩, by decide +kernel⟩
set_option maxRecDepth 100000 in
set_option maxHeartbeats 4000000 in
theorem w_settle (l : Launch) (hl0 : l.stackTraces = false) (Z : xZ) (B0 : Nat) (lay : xK → Nat) (μ : Mu) (tb : Tb) (r : xK → Option xE) (hI : RI μ) (f : Int32) (hK : KI μ) (o : Nat → Int64) (ho : r (300, 0) = some (outE Z o)) : YC l yL_settle cL_settle 4 (some FieldType.int) [(0, 8, 11, 21)] 8 137 1 6 Z B0 [.ref (lay (0, 0)), .int f, .ref (lay (300, 0))] lay (cX Z lay μ tb r) (wpost Z lay μ (M_settle μ f).2 tb tb r (xup r (300, 0) (outE Z (vp_updL o 0 ((M_settle μ f).1))))) := by
  refine YC_of mw_settle RL rfl [some (.ref (lay (0, 0))), some (.int f), some (.ref (lay (300, 0))), none] rfl (Nat.le_of_ble_eq_true rfl) ?_
  intro P1 P2 P3 P4 P5 P6 P7 P8 X hr hE ht
  refine v_aload_n X (xdec_at tL_settle_0 0 rfl) rfl rfl ?_
  refine v_iconst (v := 0) X (xdec_at tL_settle_0 1 rfl) (by decide) ?_
  refine v_aload_n X (xdec_at tL_settle_0 2 rfl) rfl rfl ?_
  refine v_iload_n X (xdec_at tL_settle_0 3 rfl) rfl rfl ?_
  refine v_wV X hE myX4_settle [.int f] [.int 0, .ref (lay (300, 0))] (kyX4_settle l hl0 Z B0 lay μ tb r hI f hK) (xw_at tW_13 38 rfl) (0, 0) cX_X rfl rfl rfl rfl (by rfl) (Nat.le_of_ble_eq_true rfl) (xdec_at tL_settle_0 4 rfl) ⟨(Nat.le_of_ble_eq_true rfl), (Nat.le_of_ble_eq_true rfl)⟩ ⟨(Nat.le_of_ble_eq_true rfl), (Nat.le_of_ble_eq_true rfl)⟩ ?_ ?_
  · rintro v9 lay9 C9 ⟨rfl, rfl, h0, rfl⟩
    have hB : lyB lay lay := fun _ _ => rfl
    have h00 : lay (0, 0) = lay (0, 0) := rfl
    refine x_last (C' := cX Z lay (M_settle μ f).2 tb (xup r (300, 0) (outE Z (vp_updL o 0 ((M_settle μ f).1))))) X (300, 0) (show cX Z lay (M_settle μ f).2 tb r (300, 0) = some (outE Z o) from ho) (vp_in_nI (n := 0) (N := 1) (by decide) (by decide)) (hB (300, 0) (by decide)) (cX_xup (by decide) _) (xdec_at tL_settle_0 5 rfl) ?_
    refine v_goto (tgt := 14) X (xdec_at tL_settle_0 6 rfl) (by decide) ?_
    refine v_iconst (v := 0) X (xdec_at tL_settle_0 10 rfl) (by decide) ?_
    exact v_xr (v_iret X hr (xdec_at tL_settle_0 11 rfl) (Nat.le_of_ble_eq_true rfl) (Nat.le_of_ble_eq_true rfl) ⟨by rw [h0], Or.inl ⟨h0, hB, h00, rfl⟩⟩)
  · rintro E q ⟨rfl, hT⟩
    refine ⟨11, hnd_1 ht (Or.inr (Or.inl rfl)) rfl (by decide) (xw_at tW_5 27 rfl), ?_⟩
    refine v_astore_n (lv' := [some (.ref (lay (0, 0))), some (.int f), some (.ref (lay (300, 0))), some (.ref q)]) X (xdec_at tL_settle_0 7 rfl) rfl (by decide) rfl ?_
    refine v_iconst (v := 1) X (xdec_at tL_settle_0 8 rfl) (by decide) ?_
    exact v_xr (v_iret X hr (xdec_at tL_settle_0 9 rfl) (Nat.le_of_ble_eq_true rfl) (Nat.le_of_ble_eq_true rfl) ⟨by rw [hT], Or.inr ⟨by rw [hT]; decide, rfl, rfl⟩⟩)
theorem mw_rate : xMW yL_rate cL_rate 7 (some FieldType.int) [(0, 14, 17, 19), (0, 14, 21, 21)] 6 := ⟨(xw_at tW_14 6 rfl), (xw_at tW_0 33 rfl), (xw_at tW_14 7 rfl), ⟨by decide +kernel, by decide +kernel, by decide +kernel⟩, by decide +kernel⟩
set_option maxRecDepth 100000 in
set_option maxHeartbeats 4000000 in
theorem w_rate (l : Launch) (hl0 : l.stackTraces = false) (Z : xZ) (B0 : Nat) (lay : xK → Nat) (μ : Mu) (tb : Tb) (r : xK → Option xE) (hI : RI μ) (k p g b : Int32) (o : Nat → Int64) (ho : r (300, 0) = some (outE Z o)) : YC l yL_rate cL_rate 7 (some FieldType.int) [(0, 14, 17, 19), (0, 14, 21, 21)] 9 158 3 18 Z B0 [.ref (lay (0, 0)), .int k, .int p, .int g, .int b, .ref (lay (300, 0))] lay (cX Z lay μ tb r) (wpost Z lay μ (M_rate μ k p g b).2 tb tb r (xup r (300, 0) (outE Z (vp_updL o 0 ((M_rate μ k p g b).1.toInt64))))) := by
  refine YC_of mw_rate RL rfl [some (.ref (lay (0, 0))), some (.int k), some (.int p), some (.int g), some (.int b), some (.ref (lay (300, 0))), none] rfl (Nat.le_of_ble_eq_true rfl) ?_
  intro P1 P2 P3 P4 P5 P6 P7 P8 X hr hE ht
  refine v_aload X (xdec_at tL_rate_0 0 rfl) rfl ?_
  refine v_iconst (v := 0) X (xdec_at tL_rate_0 1 rfl) (by decide) ?_
  refine v_aload_n X (xdec_at tL_rate_0 2 rfl) rfl rfl ?_
  refine v_iload_n X (xdec_at tL_rate_0 3 rfl) rfl rfl ?_
  refine v_iload_n X (xdec_at tL_rate_0 4 rfl) rfl rfl ?_
  refine v_iload_n X (xdec_at tL_rate_0 5 rfl) rfl rfl ?_
  refine v_iload X (xdec_at tL_rate_0 6 rfl) rfl ?_
  refine v_wV X hE myX4_rate [.int k, .int p, .int g, .int b] [.int 0, .ref (lay (300, 0))] (kyX4_rate l hl0 Z B0 lay μ tb r hI k p g b) (xw_at tW_14 8 rfl) (0, 0) cX_X rfl rfl rfl rfl (by rfl) (Nat.le_of_ble_eq_true rfl) (xdec_at tL_rate_0 7 rfl) ⟨(Nat.le_of_ble_eq_true rfl), (Nat.le_of_ble_eq_true rfl)⟩ ⟨(Nat.le_of_ble_eq_true rfl), (Nat.le_of_ble_eq_true rfl)⟩ ?_ ?_
  · rintro v9 lay9 C9 ⟨rfl, rfl, h0, rfl⟩
    have hB : lyB lay lay := fun _ _ => rfl
    have h00 : lay (0, 0) = lay (0, 0) := rfl
    refine v_i2l X (xdec_at tL_rate_0 8 rfl) rfl ?_
    refine x_last (C' := cX Z lay (M_rate μ k p g b).2 tb (xup r (300, 0) (outE Z (vp_updL o 0 ((M_rate μ k p g b).1.toInt64))))) X (300, 0) (show cX Z lay (M_rate μ k p g b).2 tb r (300, 0) = some (outE Z o) from ho) (vp_in_nI (n := 0) (N := 1) (by decide) (by decide)) (hB (300, 0) (by decide)) (cX_xup (by decide) _) (xdec_at tL_rate_0 9 rfl) ?_
    refine v_goto (tgt := 25) X (xdec_at tL_rate_0 10 rfl) (by decide) ?_
    refine v_iconst (v := 0) X (xdec_at tL_rate_0 17 rfl) (by decide) ?_
    exact v_xr (v_iret X hr (xdec_at tL_rate_0 18 rfl) (Nat.le_of_ble_eq_true rfl) (Nat.le_of_ble_eq_true rfl) ⟨by rw [h0], Or.inl ⟨h0, hB, h00, rfl⟩⟩)
  · rintro E q (⟨rfl, hT⟩ | ⟨rfl, hT⟩)
    · refine ⟨17, hnd_1 ht (Or.inl rfl) rfl (by decide) (xw_at tW_5 26 rfl), ?_⟩
      refine v_astore (lv' := [some (.ref (lay (0, 0))), some (.int k), some (.int p), some (.int g), some (.int b), some (.ref (lay (300, 0))), some (.ref q)]) X (xdec_at tL_rate_0 11 rfl) (by decide) rfl ?_
      refine v_iconst (v := 1) X (xdec_at tL_rate_0 12 rfl) (by decide) ?_
      exact v_xr (v_iret X hr (xdec_at tL_rate_0 13 rfl) (Nat.le_of_ble_eq_true rfl) (Nat.le_of_ble_eq_true rfl) ⟨by rw [hT], Or.inr ⟨by rw [hT]; decide, rfl, rfl⟩⟩)
    · refine ⟨21, hnd_2 ht (Or.inr (Or.inl rfl)) (by decide) (xw_at tW_5 26 rfl) hE.2.1 rfl (by decide) (xw_at tW_5 27 rfl), ?_⟩
      refine v_astore (lv' := [some (.ref (lay (0, 0))), some (.int k), some (.int p), some (.int g), some (.int b), some (.ref (lay (300, 0))), some (.ref q)]) X (xdec_at tL_rate_0 14 rfl) (by decide) rfl ?_
      refine v_iconst (v := 2) X (xdec_at tL_rate_0 15 rfl) (by decide) ?_
      exact v_xr (v_iret X hr (xdec_at tL_rate_0 16 rfl) (Nat.le_of_ble_eq_true rfl) (Nat.le_of_ble_eq_true rfl) ⟨by rw [hT], Or.inr ⟨by rw [hT]; decide, rfl, rfl⟩⟩)
theorem mw_ofThing : xMW yL_ofThing cL_ofThing 5 (some FieldType.int) [(0, 9, 12, 19), (0, 9, 16, 21)] 4 := ⟨(xw_at tW_14 13 rfl), (xw_at tW_0 33 rfl), (xw_at tW_14 14 rfl), ⟨by decide +kernel, by decide +kernel, by decide +kernel⟩, by decide +kernel⟩
set_option maxRecDepth 100000 in
set_option maxHeartbeats 4000000 in
theorem w_ofThing (l : Launch) (hl0 : l.stackTraces = false) (Z : xZ) (B0 : Nat) (lay : xK → Nat) (μ : Mu) (tb : Tb) (r : xK → Option xE) (hI : RI μ) (t w : Int32) (hK : KI μ) (o : Nat → Int64) (ho : r (300, 0) = some (outE Z o)) : YC l yL_ofThing cL_ofThing 5 (some FieldType.int) [(0, 9, 12, 19), (0, 9, 16, 21)] 8 134 2 12 Z B0 [.ref (lay (0, 0)), .int t, .int w, .ref (lay (300, 0))] lay (cX Z lay μ tb r) (wpost Z lay μ (M_ofThing μ t w).2 tb tb r (xup r (300, 0) (outE Z (vp_updL o 0 ((M_ofThing μ t w).1))))) := by
  refine YC_of mw_ofThing RL rfl [some (.ref (lay (0, 0))), some (.int t), some (.int w), some (.ref (lay (300, 0))), none] rfl (Nat.le_of_ble_eq_true rfl) ?_
  intro P1 P2 P3 P4 P5 P6 P7 P8 X hr hE ht
  refine v_aload_n X (xdec_at tL_ofThing_0 0 rfl) rfl rfl ?_
  refine v_iconst (v := 0) X (xdec_at tL_ofThing_0 1 rfl) (by decide) ?_
  refine v_aload_n X (xdec_at tL_ofThing_0 2 rfl) rfl rfl ?_
  refine v_iload_n X (xdec_at tL_ofThing_0 3 rfl) rfl rfl ?_
  refine v_iload_n X (xdec_at tL_ofThing_0 4 rfl) rfl rfl ?_
  refine v_wV X hE myX4_ofThing [.int t, .int w] [.int 0, .ref (lay (300, 0))] (kyX4_ofThing l hl0 Z B0 lay μ tb r hI t w hK) (xw_at tW_14 15 rfl) (0, 0) cX_X rfl rfl rfl rfl (by rfl) (Nat.le_of_ble_eq_true rfl) (xdec_at tL_ofThing_0 5 rfl) ⟨(Nat.le_of_ble_eq_true rfl), (Nat.le_of_ble_eq_true rfl)⟩ ⟨(Nat.le_of_ble_eq_true rfl), (Nat.le_of_ble_eq_true rfl)⟩ ?_ ?_
  · rintro v9 lay9 C9 ⟨rfl, rfl, h0, rfl⟩
    have hB : lyB lay lay := fun _ _ => rfl
    have h00 : lay (0, 0) = lay (0, 0) := rfl
    refine x_last (C' := cX Z lay (M_ofThing μ t w).2 tb (xup r (300, 0) (outE Z (vp_updL o 0 ((M_ofThing μ t w).1))))) X (300, 0) (show cX Z lay (M_ofThing μ t w).2 tb r (300, 0) = some (outE Z o) from ho) (vp_in_nI (n := 0) (N := 1) (by decide) (by decide)) (hB (300, 0) (by decide)) (cX_xup (by decide) _) (xdec_at tL_ofThing_0 6 rfl) ?_
    refine v_goto (tgt := 20) X (xdec_at tL_ofThing_0 7 rfl) (by decide) ?_
    refine v_iconst (v := 0) X (xdec_at tL_ofThing_0 14 rfl) (by decide) ?_
    exact v_xr (v_iret X hr (xdec_at tL_ofThing_0 15 rfl) (Nat.le_of_ble_eq_true rfl) (Nat.le_of_ble_eq_true rfl) ⟨by rw [h0], Or.inl ⟨h0, hB, h00, rfl⟩⟩)
  · rintro E q (⟨rfl, hT⟩ | ⟨rfl, hT⟩)
    · refine ⟨12, hnd_1 ht (Or.inl rfl) rfl (by decide) (xw_at tW_5 26 rfl), ?_⟩
      refine v_astore (lv' := [some (.ref (lay (0, 0))), some (.int t), some (.int w), some (.ref (lay (300, 0))), some (.ref q)]) X (xdec_at tL_ofThing_0 8 rfl) (by decide) rfl ?_
      refine v_iconst (v := 1) X (xdec_at tL_ofThing_0 9 rfl) (by decide) ?_
      exact v_xr (v_iret X hr (xdec_at tL_ofThing_0 10 rfl) (Nat.le_of_ble_eq_true rfl) (Nat.le_of_ble_eq_true rfl) ⟨by rw [hT], Or.inr ⟨by rw [hT]; decide, rfl, rfl⟩⟩)
    · refine ⟨16, hnd_2 ht (Or.inr (Or.inl rfl)) (by decide) (xw_at tW_5 26 rfl) hE.2.1 rfl (by decide) (xw_at tW_5 27 rfl), ?_⟩
      refine v_astore (lv' := [some (.ref (lay (0, 0))), some (.int t), some (.int w), some (.ref (lay (300, 0))), some (.ref q)]) X (xdec_at tL_ofThing_0 11 rfl) (by decide) rfl ?_
      refine v_iconst (v := 2) X (xdec_at tL_ofThing_0 12 rfl) (by decide) ?_
      exact v_xr (v_iret X hr (xdec_at tL_ofThing_0 13 rfl) (Nat.le_of_ble_eq_true rfl) (Nat.le_of_ble_eq_true rfl) ⟨by rw [hT], Or.inr ⟨by rw [hT]; decide, rfl, rfl⟩⟩)
theorem mw_hand : xMW yL_hand cL_hand 5 (some FieldType.int) [(0, 10, 13, 19)] 4 := ⟨(xw_at tW_14 20 rfl), (xw_at tW_0 33 rfl), (xw_at tW_14 21 rfl), ⟨by decide +kernel, by decide +kernel, by decide +kernel⟩, by decide +kernel⟩
set_option maxRecDepth 100000 in
set_option maxHeartbeats 4000000 in
theorem w_hand (l : Launch) (hl0 : l.stackTraces = false) (Z : xZ) (B0 : Nat) (lay : xK → Nat) (μ : Mu) (tb : Tb) (r : xK → Option xE) (hI : RI μ) (t n : Int32) (cl : Nat → Nat → Nat) (hH : HR μ tb cl) (o : Nat → Int64) (ho : r (300, 0) = some (outE Z o)) : YC l yL_hand cL_hand 5 (some FieldType.int) [(0, 10, 13, 19)] 8 134 2 12 Z B0 [.ref (lay (0, 0)), .int t, .int n, .ref (lay (300, 0))] lay (cX Z lay μ tb r) (wpost Z lay μ (M_hand μ t n).2 tb tb r (xup r (300, 0) (outE Z (vp_updL o 0 ((M_hand μ t n).1.toInt64))))) := by
  refine YC_of mw_hand RL rfl [some (.ref (lay (0, 0))), some (.int t), some (.int n), some (.ref (lay (300, 0))), none] rfl (Nat.le_of_ble_eq_true rfl) ?_
  intro P1 P2 P3 P4 P5 P6 P7 P8 X hr hE ht
  refine v_aload_n X (xdec_at tL_hand_0 0 rfl) rfl rfl ?_
  refine v_iconst (v := 0) X (xdec_at tL_hand_0 1 rfl) (by decide) ?_
  refine v_aload_n X (xdec_at tL_hand_0 2 rfl) rfl rfl ?_
  refine v_iload_n X (xdec_at tL_hand_0 3 rfl) rfl rfl ?_
  refine v_iload_n X (xdec_at tL_hand_0 4 rfl) rfl rfl ?_
  refine v_wV X hE myX4_hand [.int t, .int n] [.int 0, .ref (lay (300, 0))] (kyX4_hand l hl0 Z B0 lay μ tb r hI t n cl hH) (xw_at tW_14 22 rfl) (0, 0) cX_X rfl rfl rfl rfl (by rfl) (Nat.le_of_ble_eq_true rfl) (xdec_at tL_hand_0 5 rfl) ⟨(Nat.le_of_ble_eq_true rfl), (Nat.le_of_ble_eq_true rfl)⟩ ⟨(Nat.le_of_ble_eq_true rfl), (Nat.le_of_ble_eq_true rfl)⟩ ?_ ?_
  · rintro v9 lay9 C9 ⟨rfl, rfl, h0, rfl⟩
    have hB : lyB lay lay := fun _ _ => rfl
    have h00 : lay (0, 0) = lay (0, 0) := rfl
    refine v_i2l X (xdec_at tL_hand_0 6 rfl) rfl ?_
    refine x_last (C' := cX Z lay (M_hand μ t n).2 tb (xup r (300, 0) (outE Z (vp_updL o 0 ((M_hand μ t n).1.toInt64))))) X (300, 0) (show cX Z lay (M_hand μ t n).2 tb r (300, 0) = some (outE Z o) from ho) (vp_in_nI (n := 0) (N := 1) (by decide) (by decide)) (hB (300, 0) (by decide)) (cX_xup (by decide) _) (xdec_at tL_hand_0 7 rfl) ?_
    refine v_goto (tgt := 17) X (xdec_at tL_hand_0 8 rfl) (by decide) ?_
    refine v_iconst (v := 0) X (xdec_at tL_hand_0 12 rfl) (by decide) ?_
    exact v_xr (v_iret X hr (xdec_at tL_hand_0 13 rfl) (Nat.le_of_ble_eq_true rfl) (Nat.le_of_ble_eq_true rfl) ⟨by rw [h0], Or.inl ⟨h0, hB, h00, rfl⟩⟩)
  · rintro E q ⟨rfl, hT⟩
    refine ⟨13, hnd_1 ht (Or.inl rfl) rfl (by decide) (xw_at tW_5 26 rfl), ?_⟩
    refine v_astore (lv' := [some (.ref (lay (0, 0))), some (.int t), some (.int n), some (.ref (lay (300, 0))), some (.ref q)]) X (xdec_at tL_hand_0 9 rfl) (by decide) rfl ?_
    refine v_iconst (v := 1) X (xdec_at tL_hand_0 10 rfl) (by decide) ?_
    exact v_xr (v_iret X hr (xdec_at tL_hand_0 11 rfl) (Nat.le_of_ble_eq_true rfl) (Nat.le_of_ble_eq_true rfl) ⟨by rw [hT], Or.inr ⟨by rw [hT]; decide, rfl, rfl⟩⟩)
theorem mw_account : xMW yL_account cL_account 4 (some FieldType.int) [(0, 8, 11, 19)] 3 := ⟨(xw_at tW_14 27 rfl), (xw_at tW_0 33 rfl), (xw_at tW_14 28 rfl), ⟨by decide +kernel, by decide +kernel, by decide +kernel⟩, by decide +kernel⟩
set_option maxRecDepth 100000 in
set_option maxHeartbeats 4000000 in
theorem w_account (l : Launch) (hl0 : l.stackTraces = false) (Z : xZ) (B0 : Nat) (lay : xK → Nat) (μ : Mu) (tb : Tb) (r : xK → Option xE) (hI : RI μ) (p : Int32) (o : Nat → Int64) (ho : r (300, 0) = some (outE Z o)) : YC l yL_account cL_account 4 (some FieldType.int) [(0, 8, 11, 19)] 8 132 1 6 Z B0 [.ref (lay (0, 0)), .int p, .ref (lay (300, 0))] lay (cX Z lay μ tb r) (wpost Z lay μ (M_account μ p).2 tb tb r (xup r (300, 0) (outE Z (vp_updL o 0 ((M_account μ p).1))))) := by
  refine YC_of mw_account RL rfl [some (.ref (lay (0, 0))), some (.int p), some (.ref (lay (300, 0))), none] rfl (Nat.le_of_ble_eq_true rfl) ?_
  intro P1 P2 P3 P4 P5 P6 P7 P8 X hr hE ht
  refine v_aload_n X (xdec_at tL_account_0 0 rfl) rfl rfl ?_
  refine v_iconst (v := 0) X (xdec_at tL_account_0 1 rfl) (by decide) ?_
  refine v_aload_n X (xdec_at tL_account_0 2 rfl) rfl rfl ?_
  refine v_iload_n X (xdec_at tL_account_0 3 rfl) rfl rfl ?_
  refine v_wV X hE myX4_account [.int p] [.int 0, .ref (lay (300, 0))] (kyX4_account l hl0 Z B0 lay μ tb r hI p) (xw_at tW_14 29 rfl) (0, 0) cX_X rfl rfl rfl rfl (by rfl) (Nat.le_of_ble_eq_true rfl) (xdec_at tL_account_0 4 rfl) ⟨(Nat.le_of_ble_eq_true rfl), (Nat.le_of_ble_eq_true rfl)⟩ ⟨(Nat.le_of_ble_eq_true rfl), (Nat.le_of_ble_eq_true rfl)⟩ ?_ ?_
  · rintro v9 lay9 C9 ⟨rfl, rfl, h0, rfl⟩
    have hB : lyB lay lay := fun _ _ => rfl
    have h00 : lay (0, 0) = lay (0, 0) := rfl
    refine x_last (C' := cX Z lay (M_account μ p).2 tb (xup r (300, 0) (outE Z (vp_updL o 0 ((M_account μ p).1))))) X (300, 0) (show cX Z lay (M_account μ p).2 tb r (300, 0) = some (outE Z o) from ho) (vp_in_nI (n := 0) (N := 1) (by decide) (by decide)) (hB (300, 0) (by decide)) (cX_xup (by decide) _) (xdec_at tL_account_0 5 rfl) ?_
    refine v_goto (tgt := 14) X (xdec_at tL_account_0 6 rfl) (by decide) ?_
    refine v_iconst (v := 0) X (xdec_at tL_account_0 10 rfl) (by decide) ?_
    exact v_xr (v_iret X hr (xdec_at tL_account_0 11 rfl) (Nat.le_of_ble_eq_true rfl) (Nat.le_of_ble_eq_true rfl) ⟨by rw [h0], Or.inl ⟨h0, hB, h00, rfl⟩⟩)
  · rintro E q ⟨rfl, hT⟩
    refine ⟨11, hnd_1 ht (Or.inl rfl) rfl (by decide) (xw_at tW_5 26 rfl), ?_⟩
    refine v_astore_n (lv' := [some (.ref (lay (0, 0))), some (.int p), some (.ref (lay (300, 0))), some (.ref q)]) X (xdec_at tL_account_0 7 rfl) rfl (by decide) rfl ?_
    refine v_iconst (v := 1) X (xdec_at tL_account_0 8 rfl) (by decide) ?_
    exact v_xr (v_iret X hr (xdec_at tL_account_0 9 rfl) (Nat.le_of_ble_eq_true rfl) (Nat.le_of_ble_eq_true rfl) ⟨by rw [hT], Or.inr ⟨by rw [hT]; decide, rfl, rfl⟩⟩)
theorem mw_till : xMW yL_till cL_till 4 (some FieldType.int) [(0, 8, 11, 19)] 3 := ⟨(xw_at tW_14 34 rfl), (xw_at tW_0 33 rfl), (xw_at tW_14 35 rfl), ⟨by decide +kernel, by decide +kernel, by decide +kernel⟩, by decide +kernel⟩
set_option maxRecDepth 100000 in
set_option maxHeartbeats 4000000 in
theorem w_till (l : Launch) (hl0 : l.stackTraces = false) (Z : xZ) (B0 : Nat) (lay : xK → Nat) (μ : Mu) (tb : Tb) (r : xK → Option xE) (hI : RI μ) (p : Int32) (o : Nat → Int64) (ho : r (300, 0) = some (outE Z o)) : YC l yL_till cL_till 4 (some FieldType.int) [(0, 8, 11, 19)] 8 132 1 6 Z B0 [.ref (lay (0, 0)), .int p, .ref (lay (300, 0))] lay (cX Z lay μ tb r) (wpost Z lay μ (M_till μ p).2 tb tb r (xup r (300, 0) (outE Z (vp_updL o 0 ((M_till μ p).1))))) := by
  refine YC_of mw_till RL rfl [some (.ref (lay (0, 0))), some (.int p), some (.ref (lay (300, 0))), none] rfl (Nat.le_of_ble_eq_true rfl) ?_
  intro P1 P2 P3 P4 P5 P6 P7 P8 X hr hE ht
  refine v_aload_n X (xdec_at tL_till_0 0 rfl) rfl rfl ?_
  refine v_iconst (v := 0) X (xdec_at tL_till_0 1 rfl) (by decide) ?_
  refine v_aload_n X (xdec_at tL_till_0 2 rfl) rfl rfl ?_
  refine v_iload_n X (xdec_at tL_till_0 3 rfl) rfl rfl ?_
  refine v_wV X hE myX4_till [.int p] [.int 0, .ref (lay (300, 0))] (kyX4_till l hl0 Z B0 lay μ tb r hI p) (xw_at tW_14 36 rfl) (0, 0) cX_X rfl rfl rfl rfl (by rfl) (Nat.le_of_ble_eq_true rfl) (xdec_at tL_till_0 4 rfl) ⟨(Nat.le_of_ble_eq_true rfl), (Nat.le_of_ble_eq_true rfl)⟩ ⟨(Nat.le_of_ble_eq_true rfl), (Nat.le_of_ble_eq_true rfl)⟩ ?_ ?_
  · rintro v9 lay9 C9 ⟨rfl, rfl, h0, rfl⟩
    have hB : lyB lay lay := fun _ _ => rfl
    have h00 : lay (0, 0) = lay (0, 0) := rfl
    refine x_last (C' := cX Z lay (M_till μ p).2 tb (xup r (300, 0) (outE Z (vp_updL o 0 ((M_till μ p).1))))) X (300, 0) (show cX Z lay (M_till μ p).2 tb r (300, 0) = some (outE Z o) from ho) (vp_in_nI (n := 0) (N := 1) (by decide) (by decide)) (hB (300, 0) (by decide)) (cX_xup (by decide) _) (xdec_at tL_till_0 5 rfl) ?_
    refine v_goto (tgt := 14) X (xdec_at tL_till_0 6 rfl) (by decide) ?_
    refine v_iconst (v := 0) X (xdec_at tL_till_0 10 rfl) (by decide) ?_
    exact v_xr (v_iret X hr (xdec_at tL_till_0 11 rfl) (Nat.le_of_ble_eq_true rfl) (Nat.le_of_ble_eq_true rfl) ⟨by rw [h0], Or.inl ⟨h0, hB, h00, rfl⟩⟩)
  · rintro E q ⟨rfl, hT⟩
    refine ⟨11, hnd_1 ht (Or.inl rfl) rfl (by decide) (xw_at tW_5 26 rfl), ?_⟩
    refine v_astore_n (lv' := [some (.ref (lay (0, 0))), some (.int p), some (.ref (lay (300, 0))), some (.ref q)]) X (xdec_at tL_till_0 7 rfl) rfl (by decide) rfl ?_
    refine v_iconst (v := 1) X (xdec_at tL_till_0 8 rfl) (by decide) ?_
    exact v_xr (v_iret X hr (xdec_at tL_till_0 9 rfl) (Nat.le_of_ble_eq_true rfl) (Nat.le_of_ble_eq_true rfl) ⟨by rw [hT], Or.inr ⟨by rw [hT]; decide, rfl, rfl⟩⟩)
theorem mw_counted : xMW yL_counted cL_counted 5 (some FieldType.int) [(0, 9, 12, 19)] 4 := ⟨(xw_at tW_15 1 rfl), (xw_at tW_0 33 rfl), (xw_at tW_15 2 rfl), ⟨by decide +kernel, by decide +kernel, by decide +kernel⟩, by decide +kernel⟩
set_option maxRecDepth 100000 in
set_option maxHeartbeats 4000000 in
theorem w_counted (l : Launch) (hl0 : l.stackTraces = false) (Z : xZ) (B0 : Nat) (lay : xK → Nat) (μ : Mu) (tb : Tb) (r : xK → Option xE) (hI : RI μ) (a b : Int32) (o : Nat → Int64) (ho : r (300, 0) = some (outE Z o)) : YC l yL_counted cL_counted 5 (some FieldType.int) [(0, 9, 12, 19)] 8 135 2 12 Z B0 [.ref (lay (0, 0)), .int a, .int b, .ref (lay (300, 0))] lay (cX Z lay μ tb r) (wpost Z lay μ (M_counted μ a b).2 tb tb r (xup r (300, 0) (outE Z (vp_updL o 0 ((M_counted μ a b).1))))) := by
  refine YC_of mw_counted RL rfl [some (.ref (lay (0, 0))), some (.int a), some (.int b), some (.ref (lay (300, 0))), none] rfl (Nat.le_of_ble_eq_true rfl) ?_
  intro P1 P2 P3 P4 P5 P6 P7 P8 X hr hE ht
  refine v_aload_n X (xdec_at tL_counted_0 0 rfl) rfl rfl ?_
  refine v_iconst (v := 0) X (xdec_at tL_counted_0 1 rfl) (by decide) ?_
  refine v_aload_n X (xdec_at tL_counted_0 2 rfl) rfl rfl ?_
  refine v_iload_n X (xdec_at tL_counted_0 3 rfl) rfl rfl ?_
  refine v_iload_n X (xdec_at tL_counted_0 4 rfl) rfl rfl ?_
  refine v_wV X hE myX4_counted [.int a, .int b] [.int 0, .ref (lay (300, 0))] (kyX4_counted l hl0 Z B0 lay μ tb r hI a b) (xw_at tW_15 3 rfl) (0, 0) cX_X rfl rfl rfl rfl (by rfl) (Nat.le_of_ble_eq_true rfl) (xdec_at tL_counted_0 5 rfl) ⟨(Nat.le_of_ble_eq_true rfl), (Nat.le_of_ble_eq_true rfl)⟩ ⟨(Nat.le_of_ble_eq_true rfl), (Nat.le_of_ble_eq_true rfl)⟩ ?_ ?_
  · rintro v9 lay9 C9 ⟨rfl, rfl, h0, rfl⟩
    have hB : lyB lay lay := fun _ _ => rfl
    have h00 : lay (0, 0) = lay (0, 0) := rfl
    refine x_last (C' := cX Z lay (M_counted μ a b).2 tb (xup r (300, 0) (outE Z (vp_updL o 0 ((M_counted μ a b).1))))) X (300, 0) (show cX Z lay (M_counted μ a b).2 tb r (300, 0) = some (outE Z o) from ho) (vp_in_nI (n := 0) (N := 1) (by decide) (by decide)) (hB (300, 0) (by decide)) (cX_xup (by decide) _) (xdec_at tL_counted_0 6 rfl) ?_
    refine v_goto (tgt := 16) X (xdec_at tL_counted_0 7 rfl) (by decide) ?_
    refine v_iconst (v := 0) X (xdec_at tL_counted_0 11 rfl) (by decide) ?_
    exact v_xr (v_iret X hr (xdec_at tL_counted_0 12 rfl) (Nat.le_of_ble_eq_true rfl) (Nat.le_of_ble_eq_true rfl) ⟨by rw [h0], Or.inl ⟨h0, hB, h00, rfl⟩⟩)
  · rintro E q ⟨rfl, hT⟩
    refine ⟨12, hnd_1 ht (Or.inl rfl) rfl (by decide) (xw_at tW_5 26 rfl), ?_⟩
    refine v_astore (lv' := [some (.ref (lay (0, 0))), some (.int a), some (.int b), some (.ref (lay (300, 0))), some (.ref q)]) X (xdec_at tL_counted_0 8 rfl) (by decide) rfl ?_
    refine v_iconst (v := 1) X (xdec_at tL_counted_0 9 rfl) (by decide) ?_
    exact v_xr (v_iret X hr (xdec_at tL_counted_0 10 rfl) (Nat.le_of_ble_eq_true rfl) (Nat.le_of_ble_eq_true rfl) ⟨by rw [hT], Or.inr ⟨by rw [hT]; decide, rfl, rfl⟩⟩)
theorem mw_gain : xMW yL_gain cL_gain 4 (some FieldType.int) [(0, 9, 12, 21)] 3 := ⟨(xw_at tW_15 8 rfl), (xw_at tW_0 33 rfl), (xw_at tW_15 9 rfl), ⟨by decide +kernel, by decide +kernel, by decide +kernel⟩, by decide +kernel⟩
set_option maxRecDepth 100000 in
set_option maxHeartbeats 4000000 in
theorem w_gain (l : Launch) (hl0 : l.stackTraces = false) (Z : xZ) (B0 : Nat) (lay : xK → Nat) (μ : Mu) (tb : Tb) (r : xK → Option xE) (hI : RI μ) (w : Int32) (hK : KI μ) (o : Nat → Int64) (ho : r (300, 0) = some (outE Z o)) : YC l yL_gain cL_gain 4 (some FieldType.int) [(0, 9, 12, 21)] 8 139 1 6 Z B0 [.ref (lay (0, 0)), .int w, .ref (lay (300, 0))] lay (cX Z lay μ tb r) (wpost Z lay μ (M_gain μ w).2 tb tb r (xup r (300, 0) (outE Z (vp_updL o 0 ((M_gain μ w).1.toInt64))))) := by
  refine YC_of mw_gain RL rfl [some (.ref (lay (0, 0))), some (.int w), some (.ref (lay (300, 0))), none] rfl (Nat.le_of_ble_eq_true rfl) ?_
  intro P1 P2 P3 P4 P5 P6 P7 P8 X hr hE ht
  refine v_aload_n X (xdec_at tL_gain_0 0 rfl) rfl rfl ?_
  refine v_iconst (v := 0) X (xdec_at tL_gain_0 1 rfl) (by decide) ?_
  refine v_aload_n X (xdec_at tL_gain_0 2 rfl) rfl rfl ?_
  refine v_iload_n X (xdec_at tL_gain_0 3 rfl) rfl rfl ?_
  refine v_wV X hE myX4_gain [.int w] [.int 0, .ref (lay (300, 0))] (kyX4_gain l hl0 Z B0 lay μ tb r hI w hK) (xw_at tW_15 10 rfl) (0, 0) cX_X rfl rfl rfl rfl (by rfl) (Nat.le_of_ble_eq_true rfl) (xdec_at tL_gain_0 4 rfl) ⟨(Nat.le_of_ble_eq_true rfl), (Nat.le_of_ble_eq_true rfl)⟩ ⟨(Nat.le_of_ble_eq_true rfl), (Nat.le_of_ble_eq_true rfl)⟩ ?_ ?_
  · rintro v9 lay9 C9 ⟨rfl, rfl, h0, rfl⟩
    have hB : lyB lay lay := fun _ _ => rfl
    have h00 : lay (0, 0) = lay (0, 0) := rfl
    refine v_i2l X (xdec_at tL_gain_0 5 rfl) rfl ?_
    refine x_last (C' := cX Z lay (M_gain μ w).2 tb (xup r (300, 0) (outE Z (vp_updL o 0 ((M_gain μ w).1.toInt64))))) X (300, 0) (show cX Z lay (M_gain μ w).2 tb r (300, 0) = some (outE Z o) from ho) (vp_in_nI (n := 0) (N := 1) (by decide) (by decide)) (hB (300, 0) (by decide)) (cX_xup (by decide) _) (xdec_at tL_gain_0 6 rfl) ?_
    refine v_goto (tgt := 15) X (xdec_at tL_gain_0 7 rfl) (by decide) ?_
    refine v_iconst (v := 0) X (xdec_at tL_gain_0 11 rfl) (by decide) ?_
    exact v_xr (v_iret X hr (xdec_at tL_gain_0 12 rfl) (Nat.le_of_ble_eq_true rfl) (Nat.le_of_ble_eq_true rfl) ⟨by rw [h0], Or.inl ⟨h0, hB, h00, rfl⟩⟩)
  · rintro E q ⟨rfl, hT⟩
    refine ⟨12, hnd_1 ht (Or.inr (Or.inl rfl)) rfl (by decide) (xw_at tW_5 27 rfl), ?_⟩
    refine v_astore_n (lv' := [some (.ref (lay (0, 0))), some (.int w), some (.ref (lay (300, 0))), some (.ref q)]) X (xdec_at tL_gain_0 8 rfl) rfl (by decide) rfl ?_
    refine v_iconst (v := 1) X (xdec_at tL_gain_0 9 rfl) (by decide) ?_
    exact v_xr (v_iret X hr (xdec_at tL_gain_0 10 rfl) (Nat.le_of_ble_eq_true rfl) (Nat.le_of_ble_eq_true rfl) ⟨by rw [hT], Or.inr ⟨by rw [hT]; decide, rfl, rfl⟩⟩)
