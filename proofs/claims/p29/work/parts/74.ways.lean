/-! the law's ways, settles, refused -/
set_option maxRecDepth 100000 in
set_option maxHeartbeats 8000000 in
theorem c_ways {l : Launch} (hl0 : l.stackTraces = false) {Z : xZ} {B0 : Nat} {lay : xK → Nat} {μ : Mu} {tb : Tb} {k : Nat} (z : Int32) (hL : LJ μ tb k) (hg : 0 < nG μ → 3 ≤ nP μ) (hP3 : 3 ≤ nP μ) : YL l yL_ways cL_ways 11 (some FieldType.boolean) 23 850 900 7000 Z B0 [.ref (lay (0, 0)), .ref (lay (500, 0)), .ref (lay (300, 0)), .int z] lay (W2 Z lay μ tb μ tb (dR Z (dv μ))) (LPo Z lay tb k) := by
  have hP8 := nP8 hL.I
  have hG20 := nG20 hL.I
  have hT40 := nT40 hL.I
  have hf := dv_F hL.I
  refine YL_of myL_ways.2 RL rfl [some (.ref (lay (0, 0))), some (.ref (lay (500, 0))), some (.ref (lay (300, 0))), some (.int z), none, none, none, none, none, none, none] rfl (Nat.le_of_ble_eq_true rfl) ?_
  intro P1 P2 P3 P4 P5 P6 P7 P8 X hr hE
  refine v_iload_n X (xdec_at tL_ways_0 0 rfl) rfl rfl ?_
  refine v_aload_n X (xdec_at tL_ways_0 1 rfl) rfl rfl ?_
  refine v_iconst (v := 0) X (xdec_at tL_ways_0 2 rfl) (by decide) ?_
  refine x_iald (v := nI (nP μ)) X (300, 0) W2_d (vp_in_nI (n := 0) (N := 3) (by decide) (by decide)) rfl hf.1 (xdec_at tL_ways_0 3 rfl) ?_
  refine v_wL X hE myL_some [.int z, .int (nI (nP μ))] [] (c_some z (n := nP μ) (by omega) (by omega)) (xw_at tW_2 29 rfl) rfl rfl (by rfl) (Nat.le_of_ble_eq_true rfl) (xdec_at tL_ways_0 4 rfl) ⟨(Nat.le_of_ble_eq_true rfl), (Nat.le_of_ble_eq_true rfl)⟩ ⟨(Nat.le_of_ble_eq_true rfl), (Nat.le_of_ble_eq_true rfl)⟩ ?_
  rintro v9 lay9 C9 ⟨rfl, rfl, u0, hu0, rfl⟩
  refine v_istore (lv' := [some (.ref (lay (0, 0))), some (.ref (lay (500, 0))), some (.ref (lay (300, 0))), some (.int z), some (.int (nI u0)), none, none, none, none, none, none]) X (xdec_at tL_ways_0 5 rfl) (by decide) rfl ?_
  refine v_iload_n X (xdec_at tL_ways_0 6 rfl) rfl rfl ?_
  refine v_iconst (v := 4) X (xdec_at tL_ways_0 7 rfl) (by decide) ?_
  refine v_ishr X (xdec_at tL_ways_0 8 rfl) fun u1 => ?_
  refine v_aload_n X (xdec_at tL_ways_0 9 rfl) rfl rfl ?_
  refine v_iconst (v := 0) X (xdec_at tL_ways_0 10 rfl) (by decide) ?_
  refine x_iald (v := nI (nP μ)) X (300, 0) W2_d (vp_in_nI (n := 0) (N := 3) (by decide) (by decide)) rfl hf.1 (xdec_at tL_ways_0 11 rfl) ?_
  refine v_wL X hE myL_some [.int u1, .int (nI (nP μ))] [] (c_some u1 (n := nP μ) (by omega) (by omega)) (xw_at tW_2 29 rfl) rfl rfl (by rfl) (Nat.le_of_ble_eq_true rfl) (xdec_at tL_ways_0 12 rfl) ⟨(Nat.le_of_ble_eq_true rfl), (Nat.le_of_ble_eq_true rfl)⟩ ⟨(Nat.le_of_ble_eq_true rfl), (Nat.le_of_ble_eq_true rfl)⟩ ?_
  rintro v9 lay9 C9 ⟨rfl, rfl, u2, hu2, rfl⟩
  refine v_istore (lv' := [some (.ref (lay (0, 0))), some (.ref (lay (500, 0))), some (.ref (lay (300, 0))), some (.int z), some (.int (nI u0)), some (.int (nI u2)), none, none, none, none, none]) X (xdec_at tL_ways_0 13 rfl) (by decide) rfl ?_
  refine v_iload_n X (xdec_at tL_ways_0 14 rfl) rfl rfl ?_
  refine v_bipush (v := 8) X (xdec_at tL_ways_0 15 rfl) (by decide) ?_
  refine v_ishr X (xdec_at tL_ways_0 16 rfl) fun u3 => ?_
  refine v_aload_n X (xdec_at tL_ways_0 17 rfl) rfl rfl ?_
  refine v_iconst (v := 0) X (xdec_at tL_ways_0 18 rfl) (by decide) ?_
  refine x_iald (v := nI (nP μ)) X (300, 0) W2_d (vp_in_nI (n := 0) (N := 3) (by decide) (by decide)) rfl hf.1 (xdec_at tL_ways_0 19 rfl) ?_
  refine v_wL X hE myL_some [.int u3, .int (nI (nP μ))] [] (c_some u3 (n := nP μ) (by omega) (by omega)) (xw_at tW_2 29 rfl) rfl rfl (by rfl) (Nat.le_of_ble_eq_true rfl) (xdec_at tL_ways_0 20 rfl) ⟨(Nat.le_of_ble_eq_true rfl), (Nat.le_of_ble_eq_true rfl)⟩ ⟨(Nat.le_of_ble_eq_true rfl), (Nat.le_of_ble_eq_true rfl)⟩ ?_
  rintro v9 lay9 C9 ⟨rfl, rfl, u4, hu4, rfl⟩
  refine v_istore (lv' := [some (.ref (lay (0, 0))), some (.ref (lay (500, 0))), some (.ref (lay (300, 0))), some (.int z), some (.int (nI u0)), some (.int (nI u2)), some (.int (nI u4)), none, none, none, none]) X (xdec_at tL_ways_0 21 rfl) (by decide) rfl ?_
  refine v_aload_n X (xdec_at tL_ways_0 22 rfl) rfl rfl ?_
  refine v_aload_n X (xdec_at tL_ways_0 23 rfl) rfl rfl ?_
  refine v_bipush (v := 8) X (xdec_at tL_ways_0 24 rfl) (by decide) ?_
  refine v_iload X (xdec_at tL_ways_0 25 rfl) rfl ?_
  refine v_iload X (xdec_at tL_ways_0 26 rfl) rfl ?_
  refine v_iconst (v := 0) X (xdec_at tL_ways_0 27 rfl) (by decide) ?_
  refine v_iconst (v := 0) X (xdec_at tL_ways_0 28 rfl) (by decide) ?_
  refine v_wL X hE myL_both [.ref (lay (0, 0)), .ref (lay (500, 0)), .int 8, .int (nI u0), .int (nI u2), .int 0, .int 0] [] (both_of rfl (ckQ_days hl0 hL hu0 hu2 0 0)) (xw_at tW_6 11 rfl) rfl rfl (by rfl) (Nat.le_of_ble_eq_true rfl) (xdec_at tL_ways_0 29 rfl) ⟨(Nat.le_of_ble_eq_true rfl), (Nat.le_of_ble_eq_true rfl)⟩ ⟨(Nat.le_of_ble_eq_true rfl), (Nat.le_of_ble_eq_true rfl)⟩ ?_
  rintro v9 l1 C9 ⟨rfl, y_l1, rfl⟩
  rw [← y_l1.1, ← y_l1.2.1, ← y_l1.2.2 (300, 0) (by decide) (by decide)]
  refine v_istore (lv' := [some (.ref (l1 (0, 0))), some (.ref (l1 (500, 0))), some (.ref (l1 (300, 0))), some (.int z), some (.int (nI u0)), some (.int (nI u2)), some (.int (nI u4)), some (.int (dY μ u0 u2)), none, none, none]) X (xdec_at tL_ways_0 30 rfl) (by decide) rfl ?_
  refine v_aload_n X (xdec_at tL_ways_0 31 rfl) rfl rfl ?_
  refine v_aload_n X (xdec_at tL_ways_0 32 rfl) rfl rfl ?_
  refine v_bipush (v := 10) X (xdec_at tL_ways_0 33 rfl) (by decide) ?_
  refine v_iload X (xdec_at tL_ways_0 34 rfl) rfl ?_
  refine v_iload X (xdec_at tL_ways_0 35 rfl) rfl ?_
  refine v_iconst (v := 0) X (xdec_at tL_ways_0 36 rfl) (by decide) ?_
  refine v_iconst (v := 0) X (xdec_at tL_ways_0 37 rfl) (by decide) ?_
  refine v_wL X hE myL_both [.ref (l1 (0, 0)), .ref (l1 (500, 0)), .int 10, .int (nI u0), .int (nI u2), .int 0, .int 0] [] (both_of rfl (ckQ_next hl0 hL hu0 hu2 0 0)) (xw_at tW_6 11 rfl) rfl rfl (by rfl) (Nat.le_of_ble_eq_true rfl) (xdec_at tL_ways_0 38 rfl) ⟨(Nat.le_of_ble_eq_true rfl), (Nat.le_of_ble_eq_true rfl)⟩ ⟨(Nat.le_of_ble_eq_true rfl), (Nat.le_of_ble_eq_true rfl)⟩ ?_
  rintro v9 l2 C9 ⟨rfl, y_l2, rfl⟩
  rw [← y_l2.1, ← y_l2.2.1, ← y_l2.2.2 (300, 0) (by decide) (by decide)]
  refine v_istore (lv' := [some (.ref (l2 (0, 0))), some (.ref (l2 (500, 0))), some (.ref (l2 (300, 0))), some (.int z), some (.int (nI u0)), some (.int (nI u2)), some (.int (nI u4)), some (.int (dY μ u0 u2)), some (.int (nX μ u0 u2)), none, none]) X (xdec_at tL_ways_0 39 rfl) (by decide) rfl ?_
  refine v_iload X (xdec_at tL_ways_1 0 rfl) rfl ?_
  refine v_aload_n X (xdec_at tL_ways_1 1 rfl) rfl rfl ?_
  refine v_iload X (xdec_at tL_ways_1 2 rfl) rfl ?_
  refine v_iload X (xdec_at tL_ways_1 3 rfl) rfl ?_
  refine v_wN X hE myX4_daysAnew [.int (nI u0), .int (nI u2)] [.int (dY μ u0 u2)] (qy_daysAnew hl0 hL.I hL.S hu0 hu2) (xw_at tW_9 17 rfl) (0, 0) cX_X rfl rfl rfl rfl (by rfl) (Nat.le_of_ble_eq_true rfl) (xdec_at tL_ways_1 4 rfl) ⟨(Nat.le_of_ble_eq_true rfl), (Nat.le_of_ble_eq_true rfl)⟩ ⟨(Nat.le_of_ble_eq_true rfl), (Nat.le_of_ble_eq_true rfl)⟩ ?_
  rintro v9 lay9 C9 ⟨rfl, rfl, rfl⟩
  refine v_icmp_ne (tgt := 149) X (xdec_at tL_ways_1 5 rfl) (by decide) (fun h9 => absurd rfl h9) (fun _ => ?_)
  refine v_iload X (xdec_at tL_ways_1 6 rfl) rfl ?_
  refine v_aload_n X (xdec_at tL_ways_1 7 rfl) rfl rfl ?_
  refine v_iload X (xdec_at tL_ways_1 8 rfl) rfl ?_
  refine v_iload X (xdec_at tL_ways_1 9 rfl) rfl ?_
  refine v_wN X hE myX4_days [.int (nI u2), .int (nI u0)] [.int (dY μ u0 u2)] (qy_days hl0 hL.I hL.S hu2 hu0) (xw_at tW_4 14 rfl) (0, 0) cX_X rfl rfl rfl rfl (by rfl) (Nat.le_of_ble_eq_true rfl) (xdec_at tL_ways_1 10 rfl) ⟨(Nat.le_of_ble_eq_true rfl), (Nat.le_of_ble_eq_true rfl)⟩ ⟨(Nat.le_of_ble_eq_true rfl), (Nat.le_of_ble_eq_true rfl)⟩ ?_
  rintro v9 lay9 C9 ⟨rfl, rfl, rfl⟩
  refine v_icmp_ne (tgt := 149) X (xdec_at tL_ways_1 11 rfl) (by decide) (fun h9 => absurd (w1 hL.I hL.K.1 hu0 hu2) h9) (fun _ => ?_)
  by_cases hab : u0 = u2
  · refine v_iload X (xdec_at tL_ways_1 12 rfl) rfl ?_
    refine v_if_ne (tgt := 97) X (xdec_at tL_ways_1 13 rfl) (by decide) (fun h9 => absurd ((w2 hL.I hL.K.1 hu0 hu2).mpr hab) h9) (fun _ => ?_)
    refine v_iconst (v := 1) X (xdec_at tL_ways_1 14 rfl) (by decide) ?_
    refine v_goto (tgt := 98) X (xdec_at tL_ways_1 15 rfl) (by decide) ?_
    refine v_iload X (xdec_at tL_ways_1 17 rfl) rfl ?_
    refine v_iload X (xdec_at tL_ways_1 18 rfl) rfl ?_
    refine v_icmp_ne (tgt := 109) X (xdec_at tL_ways_1 19 rfl) (by decide) (fun h9 => absurd (congrArg nI hab) h9) (fun _ => ?_)
    refine v_iconst (v := 1) X (xdec_at tL_ways_1 20 rfl) (by decide) ?_
    refine v_goto (tgt := 110) X (xdec_at tL_ways_1 21 rfl) (by decide) ?_
    refine v_icmp_ne (tgt := 149) X (xdec_at tL_ways_1 23 rfl) (by decide) (fun h9 => absurd h9 (by decide)) (fun _ => ?_)
    by_cases hd0 : dY μ u0 u2 ≤ 0
    · refine v_iload X (xdec_at tL_ways_1 24 rfl) rfl ?_
      refine v_iconst (v := (-1)) X (xdec_at tL_ways_1 25 rfl) (by decide) ?_
      refine v_icmp_ne (tgt := 123) X (xdec_at tL_ways_1 26 rfl) (by decide) (fun h9 => absurd ((w3 hL.I hL.K.1 hu0 hu2).mpr hd0) h9) (fun _ => ?_)
      refine v_iconst (v := 1) X (xdec_at tL_ways_1 27 rfl) (by decide) ?_
      refine v_goto (tgt := 124) X (xdec_at tL_ways_1 28 rfl) (by decide) ?_
      refine v_iload X (xdec_at tL_ways_1 30 rfl) rfl ?_
      refine v_if_gt (tgt := 133) X (xdec_at tL_ways_1 31 rfl) (by decide) (fun h9 => absurd h9 (Int32.not_lt.mpr hd0)) (fun _ => ?_)
      refine v_iconst (v := 1) X (xdec_at tL_ways_1 32 rfl) (by decide) ?_
      refine v_goto (tgt := 134) X (xdec_at tL_ways_1 33 rfl) (by decide) ?_
      refine v_icmp_ne (tgt := 149) X (xdec_at tL_ways_1 35 rfl) (by decide) (fun h9 => absurd h9 (by decide)) (fun _ => ?_)
      refine v_iload X (xdec_at tL_ways_1 36 rfl) rfl ?_
      refine v_aload_n X (xdec_at tL_ways_1 37 rfl) rfl rfl ?_
      refine v_iconst (v := 1) X (xdec_at tL_ways_1 38 rfl) (by decide) ?_
      refine x_iald (v := nI (nG μ)) X (300, 0) W2_d (vp_in_nI (n := 1) (N := 3) (by decide) (by decide)) rfl hf.2.1 (xdec_at tL_ways_1 39 rfl) ?_
      refine v_icmp_ge (tgt := 149) X (xdec_at tL_ways_2 0 rfl) (by decide) (fun h9 => absurd h9 (Int32.not_le.mpr (w4 hL.I))) (fun _ => ?_)
      refine v_iconst (v := 1) X (xdec_at tL_ways_2 1 rfl) (by decide) ?_
      refine v_goto (tgt := 150) X (xdec_at tL_ways_2 2 rfl) (by decide) ?_
      refine v_istore (lv' := [some (.ref (l2 (0, 0))), some (.ref (l2 (500, 0))), some (.ref (l2 (300, 0))), some (.int z), some (.int (nI u0)), some (.int (nI u2)), some (.int (nI u4)), some (.int (dY μ u0 u2)), some (.int (nX μ u0 u2)), some (.int 1), none]) X (xdec_at tL_ways_2 4 rfl) (by decide) rfl ?_
      refine v_aload_n X (xdec_at tL_ways_2 5 rfl) rfl rfl ?_
      refine v_iload X (xdec_at tL_ways_2 6 rfl) rfl ?_
      refine v_iload X (xdec_at tL_ways_2 7 rfl) rfl ?_
      refine v_wN X hE myX4_days [.int (nI u2), .int (nI u4)] [] (qy_days hl0 hL.I hL.S hu2 hu4) (xw_at tW_4 14 rfl) (0, 0) cX_X rfl rfl rfl rfl (by rfl) (Nat.le_of_ble_eq_true rfl) (xdec_at tL_ways_2 8 rfl) ⟨(Nat.le_of_ble_eq_true rfl), (Nat.le_of_ble_eq_true rfl)⟩ ⟨(Nat.le_of_ble_eq_true rfl), (Nat.le_of_ble_eq_true rfl)⟩ ?_
      rintro v9 lay9 C9 ⟨rfl, rfl, rfl⟩
      refine v_istore (lv' := [some (.ref (l2 (0, 0))), some (.ref (l2 (500, 0))), some (.ref (l2 (300, 0))), some (.int z), some (.int (nI u0)), some (.int (nI u2)), some (.int (nI u4)), some (.int (dY μ u0 u2)), some (.int (nX μ u0 u2)), some (.int 1), some (.int (dY μ u2 u4))]) X (xdec_at tL_ways_2 9 rfl) (by decide) rfl ?_
      refine v_iload X (xdec_at tL_ways_2 10 rfl) rfl ?_
      refine v_if_eq (tgt := 208) X (xdec_at tL_ways_2 11 rfl) (by decide) (fun h9 => absurd h9 (by decide)) (fun _ => ?_)
      refine v_iload X (xdec_at tL_ways_2 12 rfl) rfl ?_
      refine v_if_lt (tgt := 204) X (xdec_at tL_ways_2 13 rfl) (by decide) (fun c_169 => ?_) (fun c_169 => ?_)
      · refine v_iconst (v := 1) X (xdec_at tL_ways_2 29 rfl) (by decide) ?_
        refine v_goto (tgt := 209) X (xdec_at tL_ways_2 30 rfl) (by decide) ?_
        exact v_xr (v_zret X hr (xdec_at tL_ways_2 32 rfl) (Nat.le_of_ble_eq_true rfl) (Nat.le_of_ble_eq_true rfl) (by rfl) ⟨rfl, (lyL_tr y_l1 y_l2), μ, tb, rfl, hL.up.up, hg, Nat.le_refl _⟩)
      · refine v_iload X (xdec_at tL_ways_2 14 rfl) rfl ?_
        refine v_if_lt (tgt := 204) X (xdec_at tL_ways_2 15 rfl) (by decide) (fun c_174 => ?_) (fun c_174 => ?_)
        · refine v_iconst (v := 1) X (xdec_at tL_ways_2 29 rfl) (by decide) ?_
          refine v_goto (tgt := 209) X (xdec_at tL_ways_2 30 rfl) (by decide) ?_
          exact v_xr (v_zret X hr (xdec_at tL_ways_2 32 rfl) (Nat.le_of_ble_eq_true rfl) (Nat.le_of_ble_eq_true rfl) (by rfl) ⟨rfl, (lyL_tr y_l1 y_l2), μ, tb, rfl, hL.up.up, hg, Nat.le_refl _⟩)
        · refine v_aload_n X (xdec_at tL_ways_2 16 rfl) rfl rfl ?_
          refine v_iload X (xdec_at tL_ways_2 17 rfl) rfl ?_
          refine v_iload X (xdec_at tL_ways_2 18 rfl) rfl ?_
          refine v_wN X hE myX4_days [.int (nI u0), .int (nI u4)] [] (qy_days hl0 hL.I hL.S hu0 hu4) (xw_at tW_4 14 rfl) (0, 0) cX_X rfl rfl rfl rfl (by rfl) (Nat.le_of_ble_eq_true rfl) (xdec_at tL_ways_2 19 rfl) ⟨(Nat.le_of_ble_eq_true rfl), (Nat.le_of_ble_eq_true rfl)⟩ ⟨(Nat.le_of_ble_eq_true rfl), (Nat.le_of_ble_eq_true rfl)⟩ ?_
          rintro v9 lay9 C9 ⟨rfl, rfl, rfl⟩
          refine v_if_lt (tgt := 208) X (xdec_at tL_ways_2 20 rfl) (by decide) (fun h9 => absurd h9 (w5' hL.I hL.K.1 hu0 hu2 hu4 c_169 c_174).1) (fun _ => ?_)
          refine v_aload_n X (xdec_at tL_ways_2 21 rfl) rfl rfl ?_
          refine v_iload X (xdec_at tL_ways_2 22 rfl) rfl ?_
          refine v_iload X (xdec_at tL_ways_2 23 rfl) rfl ?_
          refine v_wN X hE myX4_days [.int (nI u0), .int (nI u4)] [] (qy_days hl0 hL.I hL.S hu0 hu4) (xw_at tW_4 14 rfl) (0, 0) cX_X rfl rfl rfl rfl (by rfl) (Nat.le_of_ble_eq_true rfl) (xdec_at tL_ways_2 24 rfl) ⟨(Nat.le_of_ble_eq_true rfl), (Nat.le_of_ble_eq_true rfl)⟩ ⟨(Nat.le_of_ble_eq_true rfl), (Nat.le_of_ble_eq_true rfl)⟩ ?_
          rintro v9 lay9 C9 ⟨rfl, rfl, rfl⟩
          refine v_iload X (xdec_at tL_ways_2 25 rfl) rfl ?_
          refine v_iload X (xdec_at tL_ways_2 26 rfl) rfl ?_
          refine v_iadd X (xdec_at tL_ways_2 27 rfl) ?_
          refine v_icmp_gt (tgt := 208) X (xdec_at tL_ways_2 28 rfl) (by decide) (fun h9 => absurd h9 (Int32.not_lt.mpr (w5' hL.I hL.K.1 hu0 hu2 hu4 c_169 c_174).2)) (fun _ => ?_)
          refine v_iconst (v := 1) X (xdec_at tL_ways_2 29 rfl) (by decide) ?_
          refine v_goto (tgt := 209) X (xdec_at tL_ways_2 30 rfl) (by decide) ?_
          exact v_xr (v_zret X hr (xdec_at tL_ways_2 32 rfl) (Nat.le_of_ble_eq_true rfl) (Nat.le_of_ble_eq_true rfl) (by rfl) ⟨rfl, (lyL_tr y_l1 y_l2), μ, tb, rfl, hL.up.up, hg, Nat.le_refl _⟩)
    · refine v_iload X (xdec_at tL_ways_1 24 rfl) rfl ?_
      refine v_iconst (v := (-1)) X (xdec_at tL_ways_1 25 rfl) (by decide) ?_
      refine v_icmp_ne (tgt := 123) X (xdec_at tL_ways_1 26 rfl) (by decide) (fun _ => ?_) (fun h9 => absurd h9 (fun q9 => hd0 ((w3 hL.I hL.K.1 hu0 hu2).mp q9)))
      refine v_iconst (v := 0) X (xdec_at tL_ways_1 29 rfl) (by decide) ?_
      refine v_iload X (xdec_at tL_ways_1 30 rfl) rfl ?_
      refine v_if_gt (tgt := 133) X (xdec_at tL_ways_1 31 rfl) (by decide) (fun _ => ?_) (fun h9 => absurd (Int32.not_le.mp hd0) h9)
      refine v_iconst (v := 0) X (xdec_at tL_ways_1 34 rfl) (by decide) ?_
      refine v_icmp_ne (tgt := 149) X (xdec_at tL_ways_1 35 rfl) (by decide) (fun h9 => absurd h9 (by decide)) (fun _ => ?_)
      refine v_iload X (xdec_at tL_ways_1 36 rfl) rfl ?_
      refine v_aload_n X (xdec_at tL_ways_1 37 rfl) rfl rfl ?_
      refine v_iconst (v := 1) X (xdec_at tL_ways_1 38 rfl) (by decide) ?_
      refine x_iald (v := nI (nG μ)) X (300, 0) W2_d (vp_in_nI (n := 1) (N := 3) (by decide) (by decide)) rfl hf.2.1 (xdec_at tL_ways_1 39 rfl) ?_
      refine v_icmp_ge (tgt := 149) X (xdec_at tL_ways_2 0 rfl) (by decide) (fun h9 => absurd h9 (Int32.not_le.mpr (w4 hL.I))) (fun _ => ?_)
      refine v_iconst (v := 1) X (xdec_at tL_ways_2 1 rfl) (by decide) ?_
      refine v_goto (tgt := 150) X (xdec_at tL_ways_2 2 rfl) (by decide) ?_
      refine v_istore (lv' := [some (.ref (l2 (0, 0))), some (.ref (l2 (500, 0))), some (.ref (l2 (300, 0))), some (.int z), some (.int (nI u0)), some (.int (nI u2)), some (.int (nI u4)), some (.int (dY μ u0 u2)), some (.int (nX μ u0 u2)), some (.int 1), none]) X (xdec_at tL_ways_2 4 rfl) (by decide) rfl ?_
      refine v_aload_n X (xdec_at tL_ways_2 5 rfl) rfl rfl ?_
      refine v_iload X (xdec_at tL_ways_2 6 rfl) rfl ?_
      refine v_iload X (xdec_at tL_ways_2 7 rfl) rfl ?_
      refine v_wN X hE myX4_days [.int (nI u2), .int (nI u4)] [] (qy_days hl0 hL.I hL.S hu2 hu4) (xw_at tW_4 14 rfl) (0, 0) cX_X rfl rfl rfl rfl (by rfl) (Nat.le_of_ble_eq_true rfl) (xdec_at tL_ways_2 8 rfl) ⟨(Nat.le_of_ble_eq_true rfl), (Nat.le_of_ble_eq_true rfl)⟩ ⟨(Nat.le_of_ble_eq_true rfl), (Nat.le_of_ble_eq_true rfl)⟩ ?_
      rintro v9 lay9 C9 ⟨rfl, rfl, rfl⟩
      refine v_istore (lv' := [some (.ref (l2 (0, 0))), some (.ref (l2 (500, 0))), some (.ref (l2 (300, 0))), some (.int z), some (.int (nI u0)), some (.int (nI u2)), some (.int (nI u4)), some (.int (dY μ u0 u2)), some (.int (nX μ u0 u2)), some (.int 1), some (.int (dY μ u2 u4))]) X (xdec_at tL_ways_2 9 rfl) (by decide) rfl ?_
      refine v_iload X (xdec_at tL_ways_2 10 rfl) rfl ?_
      refine v_if_eq (tgt := 208) X (xdec_at tL_ways_2 11 rfl) (by decide) (fun h9 => absurd h9 (by decide)) (fun _ => ?_)
      refine v_iload X (xdec_at tL_ways_2 12 rfl) rfl ?_
      refine v_if_lt (tgt := 204) X (xdec_at tL_ways_2 13 rfl) (by decide) (fun c_169 => ?_) (fun c_169 => ?_)
      · refine v_iconst (v := 1) X (xdec_at tL_ways_2 29 rfl) (by decide) ?_
        refine v_goto (tgt := 209) X (xdec_at tL_ways_2 30 rfl) (by decide) ?_
        exact v_xr (v_zret X hr (xdec_at tL_ways_2 32 rfl) (Nat.le_of_ble_eq_true rfl) (Nat.le_of_ble_eq_true rfl) (by rfl) ⟨rfl, (lyL_tr y_l1 y_l2), μ, tb, rfl, hL.up.up, hg, Nat.le_refl _⟩)
      · refine v_iload X (xdec_at tL_ways_2 14 rfl) rfl ?_
        refine v_if_lt (tgt := 204) X (xdec_at tL_ways_2 15 rfl) (by decide) (fun c_174 => ?_) (fun c_174 => ?_)
        · refine v_iconst (v := 1) X (xdec_at tL_ways_2 29 rfl) (by decide) ?_
          refine v_goto (tgt := 209) X (xdec_at tL_ways_2 30 rfl) (by decide) ?_
          exact v_xr (v_zret X hr (xdec_at tL_ways_2 32 rfl) (Nat.le_of_ble_eq_true rfl) (Nat.le_of_ble_eq_true rfl) (by rfl) ⟨rfl, (lyL_tr y_l1 y_l2), μ, tb, rfl, hL.up.up, hg, Nat.le_refl _⟩)
        · refine v_aload_n X (xdec_at tL_ways_2 16 rfl) rfl rfl ?_
          refine v_iload X (xdec_at tL_ways_2 17 rfl) rfl ?_
          refine v_iload X (xdec_at tL_ways_2 18 rfl) rfl ?_
          refine v_wN X hE myX4_days [.int (nI u0), .int (nI u4)] [] (qy_days hl0 hL.I hL.S hu0 hu4) (xw_at tW_4 14 rfl) (0, 0) cX_X rfl rfl rfl rfl (by rfl) (Nat.le_of_ble_eq_true rfl) (xdec_at tL_ways_2 19 rfl) ⟨(Nat.le_of_ble_eq_true rfl), (Nat.le_of_ble_eq_true rfl)⟩ ⟨(Nat.le_of_ble_eq_true rfl), (Nat.le_of_ble_eq_true rfl)⟩ ?_
          rintro v9 lay9 C9 ⟨rfl, rfl, rfl⟩
          refine v_if_lt (tgt := 208) X (xdec_at tL_ways_2 20 rfl) (by decide) (fun h9 => absurd h9 (w5' hL.I hL.K.1 hu0 hu2 hu4 c_169 c_174).1) (fun _ => ?_)
          refine v_aload_n X (xdec_at tL_ways_2 21 rfl) rfl rfl ?_
          refine v_iload X (xdec_at tL_ways_2 22 rfl) rfl ?_
          refine v_iload X (xdec_at tL_ways_2 23 rfl) rfl ?_
          refine v_wN X hE myX4_days [.int (nI u0), .int (nI u4)] [] (qy_days hl0 hL.I hL.S hu0 hu4) (xw_at tW_4 14 rfl) (0, 0) cX_X rfl rfl rfl rfl (by rfl) (Nat.le_of_ble_eq_true rfl) (xdec_at tL_ways_2 24 rfl) ⟨(Nat.le_of_ble_eq_true rfl), (Nat.le_of_ble_eq_true rfl)⟩ ⟨(Nat.le_of_ble_eq_true rfl), (Nat.le_of_ble_eq_true rfl)⟩ ?_
          rintro v9 lay9 C9 ⟨rfl, rfl, rfl⟩
          refine v_iload X (xdec_at tL_ways_2 25 rfl) rfl ?_
          refine v_iload X (xdec_at tL_ways_2 26 rfl) rfl ?_
          refine v_iadd X (xdec_at tL_ways_2 27 rfl) ?_
          refine v_icmp_gt (tgt := 208) X (xdec_at tL_ways_2 28 rfl) (by decide) (fun h9 => absurd h9 (Int32.not_lt.mpr (w5' hL.I hL.K.1 hu0 hu2 hu4 c_169 c_174).2)) (fun _ => ?_)
          refine v_iconst (v := 1) X (xdec_at tL_ways_2 29 rfl) (by decide) ?_
          refine v_goto (tgt := 209) X (xdec_at tL_ways_2 30 rfl) (by decide) ?_
          exact v_xr (v_zret X hr (xdec_at tL_ways_2 32 rfl) (Nat.le_of_ble_eq_true rfl) (Nat.le_of_ble_eq_true rfl) (by rfl) ⟨rfl, (lyL_tr y_l1 y_l2), μ, tb, rfl, hL.up.up, hg, Nat.le_refl _⟩)
  · refine v_iload X (xdec_at tL_ways_1 12 rfl) rfl ?_
    refine v_if_ne (tgt := 97) X (xdec_at tL_ways_1 13 rfl) (by decide) (fun _ => ?_) (fun h9 => absurd h9 (fun q9 => hab ((w2 hL.I hL.K.1 hu0 hu2).mp q9)))
    refine v_iconst (v := 0) X (xdec_at tL_ways_1 16 rfl) (by decide) ?_
    refine v_iload X (xdec_at tL_ways_1 17 rfl) rfl ?_
    refine v_iload X (xdec_at tL_ways_1 18 rfl) rfl ?_
    refine v_icmp_ne (tgt := 109) X (xdec_at tL_ways_1 19 rfl) (by decide) (fun _ => ?_) (fun h9 => absurd h9 (fun q9 => hab (nI_inj (by omega) (by omega) q9)))
    refine v_iconst (v := 0) X (xdec_at tL_ways_1 22 rfl) (by decide) ?_
    refine v_icmp_ne (tgt := 149) X (xdec_at tL_ways_1 23 rfl) (by decide) (fun h9 => absurd h9 (by decide)) (fun _ => ?_)
    by_cases hd0 : dY μ u0 u2 ≤ 0
    · refine v_iload X (xdec_at tL_ways_1 24 rfl) rfl ?_
      refine v_iconst (v := (-1)) X (xdec_at tL_ways_1 25 rfl) (by decide) ?_
      refine v_icmp_ne (tgt := 123) X (xdec_at tL_ways_1 26 rfl) (by decide) (fun h9 => absurd ((w3 hL.I hL.K.1 hu0 hu2).mpr hd0) h9) (fun _ => ?_)
      refine v_iconst (v := 1) X (xdec_at tL_ways_1 27 rfl) (by decide) ?_
      refine v_goto (tgt := 124) X (xdec_at tL_ways_1 28 rfl) (by decide) ?_
      refine v_iload X (xdec_at tL_ways_1 30 rfl) rfl ?_
      refine v_if_gt (tgt := 133) X (xdec_at tL_ways_1 31 rfl) (by decide) (fun h9 => absurd h9 (Int32.not_lt.mpr hd0)) (fun _ => ?_)
      refine v_iconst (v := 1) X (xdec_at tL_ways_1 32 rfl) (by decide) ?_
      refine v_goto (tgt := 134) X (xdec_at tL_ways_1 33 rfl) (by decide) ?_
      refine v_icmp_ne (tgt := 149) X (xdec_at tL_ways_1 35 rfl) (by decide) (fun h9 => absurd h9 (by decide)) (fun _ => ?_)
      refine v_iload X (xdec_at tL_ways_1 36 rfl) rfl ?_
      refine v_aload_n X (xdec_at tL_ways_1 37 rfl) rfl rfl ?_
      refine v_iconst (v := 1) X (xdec_at tL_ways_1 38 rfl) (by decide) ?_
      refine x_iald (v := nI (nG μ)) X (300, 0) W2_d (vp_in_nI (n := 1) (N := 3) (by decide) (by decide)) rfl hf.2.1 (xdec_at tL_ways_1 39 rfl) ?_
      refine v_icmp_ge (tgt := 149) X (xdec_at tL_ways_2 0 rfl) (by decide) (fun h9 => absurd h9 (Int32.not_le.mpr (w4 hL.I))) (fun _ => ?_)
      refine v_iconst (v := 1) X (xdec_at tL_ways_2 1 rfl) (by decide) ?_
      refine v_goto (tgt := 150) X (xdec_at tL_ways_2 2 rfl) (by decide) ?_
      refine v_istore (lv' := [some (.ref (l2 (0, 0))), some (.ref (l2 (500, 0))), some (.ref (l2 (300, 0))), some (.int z), some (.int (nI u0)), some (.int (nI u2)), some (.int (nI u4)), some (.int (dY μ u0 u2)), some (.int (nX μ u0 u2)), some (.int 1), none]) X (xdec_at tL_ways_2 4 rfl) (by decide) rfl ?_
      refine v_aload_n X (xdec_at tL_ways_2 5 rfl) rfl rfl ?_
      refine v_iload X (xdec_at tL_ways_2 6 rfl) rfl ?_
      refine v_iload X (xdec_at tL_ways_2 7 rfl) rfl ?_
      refine v_wN X hE myX4_days [.int (nI u2), .int (nI u4)] [] (qy_days hl0 hL.I hL.S hu2 hu4) (xw_at tW_4 14 rfl) (0, 0) cX_X rfl rfl rfl rfl (by rfl) (Nat.le_of_ble_eq_true rfl) (xdec_at tL_ways_2 8 rfl) ⟨(Nat.le_of_ble_eq_true rfl), (Nat.le_of_ble_eq_true rfl)⟩ ⟨(Nat.le_of_ble_eq_true rfl), (Nat.le_of_ble_eq_true rfl)⟩ ?_
      rintro v9 lay9 C9 ⟨rfl, rfl, rfl⟩
      refine v_istore (lv' := [some (.ref (l2 (0, 0))), some (.ref (l2 (500, 0))), some (.ref (l2 (300, 0))), some (.int z), some (.int (nI u0)), some (.int (nI u2)), some (.int (nI u4)), some (.int (dY μ u0 u2)), some (.int (nX μ u0 u2)), some (.int 1), some (.int (dY μ u2 u4))]) X (xdec_at tL_ways_2 9 rfl) (by decide) rfl ?_
      refine v_iload X (xdec_at tL_ways_2 10 rfl) rfl ?_
      refine v_if_eq (tgt := 208) X (xdec_at tL_ways_2 11 rfl) (by decide) (fun h9 => absurd h9 (by decide)) (fun _ => ?_)
      refine v_iload X (xdec_at tL_ways_2 12 rfl) rfl ?_
      refine v_if_lt (tgt := 204) X (xdec_at tL_ways_2 13 rfl) (by decide) (fun c_169 => ?_) (fun c_169 => ?_)
      · refine v_iconst (v := 1) X (xdec_at tL_ways_2 29 rfl) (by decide) ?_
        refine v_goto (tgt := 209) X (xdec_at tL_ways_2 30 rfl) (by decide) ?_
        exact v_xr (v_zret X hr (xdec_at tL_ways_2 32 rfl) (Nat.le_of_ble_eq_true rfl) (Nat.le_of_ble_eq_true rfl) (by rfl) ⟨rfl, (lyL_tr y_l1 y_l2), μ, tb, rfl, hL.up.up, hg, Nat.le_refl _⟩)
      · refine v_iload X (xdec_at tL_ways_2 14 rfl) rfl ?_
        refine v_if_lt (tgt := 204) X (xdec_at tL_ways_2 15 rfl) (by decide) (fun c_174 => ?_) (fun c_174 => ?_)
        · refine v_iconst (v := 1) X (xdec_at tL_ways_2 29 rfl) (by decide) ?_
          refine v_goto (tgt := 209) X (xdec_at tL_ways_2 30 rfl) (by decide) ?_
          exact v_xr (v_zret X hr (xdec_at tL_ways_2 32 rfl) (Nat.le_of_ble_eq_true rfl) (Nat.le_of_ble_eq_true rfl) (by rfl) ⟨rfl, (lyL_tr y_l1 y_l2), μ, tb, rfl, hL.up.up, hg, Nat.le_refl _⟩)
        · refine v_aload_n X (xdec_at tL_ways_2 16 rfl) rfl rfl ?_
          refine v_iload X (xdec_at tL_ways_2 17 rfl) rfl ?_
          refine v_iload X (xdec_at tL_ways_2 18 rfl) rfl ?_
          refine v_wN X hE myX4_days [.int (nI u0), .int (nI u4)] [] (qy_days hl0 hL.I hL.S hu0 hu4) (xw_at tW_4 14 rfl) (0, 0) cX_X rfl rfl rfl rfl (by rfl) (Nat.le_of_ble_eq_true rfl) (xdec_at tL_ways_2 19 rfl) ⟨(Nat.le_of_ble_eq_true rfl), (Nat.le_of_ble_eq_true rfl)⟩ ⟨(Nat.le_of_ble_eq_true rfl), (Nat.le_of_ble_eq_true rfl)⟩ ?_
          rintro v9 lay9 C9 ⟨rfl, rfl, rfl⟩
          refine v_if_lt (tgt := 208) X (xdec_at tL_ways_2 20 rfl) (by decide) (fun h9 => absurd h9 (w5' hL.I hL.K.1 hu0 hu2 hu4 c_169 c_174).1) (fun _ => ?_)
          refine v_aload_n X (xdec_at tL_ways_2 21 rfl) rfl rfl ?_
          refine v_iload X (xdec_at tL_ways_2 22 rfl) rfl ?_
          refine v_iload X (xdec_at tL_ways_2 23 rfl) rfl ?_
          refine v_wN X hE myX4_days [.int (nI u0), .int (nI u4)] [] (qy_days hl0 hL.I hL.S hu0 hu4) (xw_at tW_4 14 rfl) (0, 0) cX_X rfl rfl rfl rfl (by rfl) (Nat.le_of_ble_eq_true rfl) (xdec_at tL_ways_2 24 rfl) ⟨(Nat.le_of_ble_eq_true rfl), (Nat.le_of_ble_eq_true rfl)⟩ ⟨(Nat.le_of_ble_eq_true rfl), (Nat.le_of_ble_eq_true rfl)⟩ ?_
          rintro v9 lay9 C9 ⟨rfl, rfl, rfl⟩
          refine v_iload X (xdec_at tL_ways_2 25 rfl) rfl ?_
          refine v_iload X (xdec_at tL_ways_2 26 rfl) rfl ?_
          refine v_iadd X (xdec_at tL_ways_2 27 rfl) ?_
          refine v_icmp_gt (tgt := 208) X (xdec_at tL_ways_2 28 rfl) (by decide) (fun h9 => absurd h9 (Int32.not_lt.mpr (w5' hL.I hL.K.1 hu0 hu2 hu4 c_169 c_174).2)) (fun _ => ?_)
          refine v_iconst (v := 1) X (xdec_at tL_ways_2 29 rfl) (by decide) ?_
          refine v_goto (tgt := 209) X (xdec_at tL_ways_2 30 rfl) (by decide) ?_
          exact v_xr (v_zret X hr (xdec_at tL_ways_2 32 rfl) (Nat.le_of_ble_eq_true rfl) (Nat.le_of_ble_eq_true rfl) (by rfl) ⟨rfl, (lyL_tr y_l1 y_l2), μ, tb, rfl, hL.up.up, hg, Nat.le_refl _⟩)
    · refine v_iload X (xdec_at tL_ways_1 24 rfl) rfl ?_
      refine v_iconst (v := (-1)) X (xdec_at tL_ways_1 25 rfl) (by decide) ?_
      refine v_icmp_ne (tgt := 123) X (xdec_at tL_ways_1 26 rfl) (by decide) (fun _ => ?_) (fun h9 => absurd h9 (fun q9 => hd0 ((w3 hL.I hL.K.1 hu0 hu2).mp q9)))
      refine v_iconst (v := 0) X (xdec_at tL_ways_1 29 rfl) (by decide) ?_
      refine v_iload X (xdec_at tL_ways_1 30 rfl) rfl ?_
      refine v_if_gt (tgt := 133) X (xdec_at tL_ways_1 31 rfl) (by decide) (fun _ => ?_) (fun h9 => absurd (Int32.not_le.mp hd0) h9)
      refine v_iconst (v := 0) X (xdec_at tL_ways_1 34 rfl) (by decide) ?_
      refine v_icmp_ne (tgt := 149) X (xdec_at tL_ways_1 35 rfl) (by decide) (fun h9 => absurd h9 (by decide)) (fun _ => ?_)
      refine v_iload X (xdec_at tL_ways_1 36 rfl) rfl ?_
      refine v_aload_n X (xdec_at tL_ways_1 37 rfl) rfl rfl ?_
      refine v_iconst (v := 1) X (xdec_at tL_ways_1 38 rfl) (by decide) ?_
      refine x_iald (v := nI (nG μ)) X (300, 0) W2_d (vp_in_nI (n := 1) (N := 3) (by decide) (by decide)) rfl hf.2.1 (xdec_at tL_ways_1 39 rfl) ?_
      refine v_icmp_ge (tgt := 149) X (xdec_at tL_ways_2 0 rfl) (by decide) (fun h9 => absurd h9 (Int32.not_le.mpr (w4 hL.I))) (fun _ => ?_)
      refine v_iconst (v := 1) X (xdec_at tL_ways_2 1 rfl) (by decide) ?_
      refine v_goto (tgt := 150) X (xdec_at tL_ways_2 2 rfl) (by decide) ?_
      refine v_istore (lv' := [some (.ref (l2 (0, 0))), some (.ref (l2 (500, 0))), some (.ref (l2 (300, 0))), some (.int z), some (.int (nI u0)), some (.int (nI u2)), some (.int (nI u4)), some (.int (dY μ u0 u2)), some (.int (nX μ u0 u2)), some (.int 1), none]) X (xdec_at tL_ways_2 4 rfl) (by decide) rfl ?_
      refine v_aload_n X (xdec_at tL_ways_2 5 rfl) rfl rfl ?_
      refine v_iload X (xdec_at tL_ways_2 6 rfl) rfl ?_
      refine v_iload X (xdec_at tL_ways_2 7 rfl) rfl ?_
      refine v_wN X hE myX4_days [.int (nI u2), .int (nI u4)] [] (qy_days hl0 hL.I hL.S hu2 hu4) (xw_at tW_4 14 rfl) (0, 0) cX_X rfl rfl rfl rfl (by rfl) (Nat.le_of_ble_eq_true rfl) (xdec_at tL_ways_2 8 rfl) ⟨(Nat.le_of_ble_eq_true rfl), (Nat.le_of_ble_eq_true rfl)⟩ ⟨(Nat.le_of_ble_eq_true rfl), (Nat.le_of_ble_eq_true rfl)⟩ ?_
      rintro v9 lay9 C9 ⟨rfl, rfl, rfl⟩
      refine v_istore (lv' := [some (.ref (l2 (0, 0))), some (.ref (l2 (500, 0))), some (.ref (l2 (300, 0))), some (.int z), some (.int (nI u0)), some (.int (nI u2)), some (.int (nI u4)), some (.int (dY μ u0 u2)), some (.int (nX μ u0 u2)), some (.int 1), some (.int (dY μ u2 u4))]) X (xdec_at tL_ways_2 9 rfl) (by decide) rfl ?_
      refine v_iload X (xdec_at tL_ways_2 10 rfl) rfl ?_
      refine v_if_eq (tgt := 208) X (xdec_at tL_ways_2 11 rfl) (by decide) (fun h9 => absurd h9 (by decide)) (fun _ => ?_)
      refine v_iload X (xdec_at tL_ways_2 12 rfl) rfl ?_
      refine v_if_lt (tgt := 204) X (xdec_at tL_ways_2 13 rfl) (by decide) (fun c_169 => ?_) (fun c_169 => ?_)
      · refine v_iconst (v := 1) X (xdec_at tL_ways_2 29 rfl) (by decide) ?_
        refine v_goto (tgt := 209) X (xdec_at tL_ways_2 30 rfl) (by decide) ?_
        exact v_xr (v_zret X hr (xdec_at tL_ways_2 32 rfl) (Nat.le_of_ble_eq_true rfl) (Nat.le_of_ble_eq_true rfl) (by rfl) ⟨rfl, (lyL_tr y_l1 y_l2), μ, tb, rfl, hL.up.up, hg, Nat.le_refl _⟩)
      · refine v_iload X (xdec_at tL_ways_2 14 rfl) rfl ?_
        refine v_if_lt (tgt := 204) X (xdec_at tL_ways_2 15 rfl) (by decide) (fun c_174 => ?_) (fun c_174 => ?_)
        · refine v_iconst (v := 1) X (xdec_at tL_ways_2 29 rfl) (by decide) ?_
          refine v_goto (tgt := 209) X (xdec_at tL_ways_2 30 rfl) (by decide) ?_
          exact v_xr (v_zret X hr (xdec_at tL_ways_2 32 rfl) (Nat.le_of_ble_eq_true rfl) (Nat.le_of_ble_eq_true rfl) (by rfl) ⟨rfl, (lyL_tr y_l1 y_l2), μ, tb, rfl, hL.up.up, hg, Nat.le_refl _⟩)
        · refine v_aload_n X (xdec_at tL_ways_2 16 rfl) rfl rfl ?_
          refine v_iload X (xdec_at tL_ways_2 17 rfl) rfl ?_
          refine v_iload X (xdec_at tL_ways_2 18 rfl) rfl ?_
          refine v_wN X hE myX4_days [.int (nI u0), .int (nI u4)] [] (qy_days hl0 hL.I hL.S hu0 hu4) (xw_at tW_4 14 rfl) (0, 0) cX_X rfl rfl rfl rfl (by rfl) (Nat.le_of_ble_eq_true rfl) (xdec_at tL_ways_2 19 rfl) ⟨(Nat.le_of_ble_eq_true rfl), (Nat.le_of_ble_eq_true rfl)⟩ ⟨(Nat.le_of_ble_eq_true rfl), (Nat.le_of_ble_eq_true rfl)⟩ ?_
          rintro v9 lay9 C9 ⟨rfl, rfl, rfl⟩
          refine v_if_lt (tgt := 208) X (xdec_at tL_ways_2 20 rfl) (by decide) (fun h9 => absurd h9 (w5' hL.I hL.K.1 hu0 hu2 hu4 c_169 c_174).1) (fun _ => ?_)
          refine v_aload_n X (xdec_at tL_ways_2 21 rfl) rfl rfl ?_
          refine v_iload X (xdec_at tL_ways_2 22 rfl) rfl ?_
          refine v_iload X (xdec_at tL_ways_2 23 rfl) rfl ?_
          refine v_wN X hE myX4_days [.int (nI u0), .int (nI u4)] [] (qy_days hl0 hL.I hL.S hu0 hu4) (xw_at tW_4 14 rfl) (0, 0) cX_X rfl rfl rfl rfl (by rfl) (Nat.le_of_ble_eq_true rfl) (xdec_at tL_ways_2 24 rfl) ⟨(Nat.le_of_ble_eq_true rfl), (Nat.le_of_ble_eq_true rfl)⟩ ⟨(Nat.le_of_ble_eq_true rfl), (Nat.le_of_ble_eq_true rfl)⟩ ?_
          rintro v9 lay9 C9 ⟨rfl, rfl, rfl⟩
          refine v_iload X (xdec_at tL_ways_2 25 rfl) rfl ?_
          refine v_iload X (xdec_at tL_ways_2 26 rfl) rfl ?_
          refine v_iadd X (xdec_at tL_ways_2 27 rfl) ?_
          refine v_icmp_gt (tgt := 208) X (xdec_at tL_ways_2 28 rfl) (by decide) (fun h9 => absurd h9 (Int32.not_lt.mpr (w5' hL.I hL.K.1 hu0 hu2 hu4 c_169 c_174).2)) (fun _ => ?_)
          refine v_iconst (v := 1) X (xdec_at tL_ways_2 29 rfl) (by decide) ?_
          refine v_goto (tgt := 209) X (xdec_at tL_ways_2 30 rfl) (by decide) ?_
          exact v_xr (v_zret X hr (xdec_at tL_ways_2 32 rfl) (Nat.le_of_ble_eq_true rfl) (Nat.le_of_ble_eq_true rfl) (by rfl) ⟨rfl, (lyL_tr y_l1 y_l2), μ, tb, rfl, hL.up.up, hg, Nat.le_refl _⟩)
set_option maxRecDepth 100000 in
set_option maxHeartbeats 8000000 in
theorem c_settles {l : Launch} (hl0 : l.stackTraces = false) {Z : xZ} {B0 : Nat} {lay : xK → Nat} {μ : Mu} {tb : Tb} {k : Nat} (x z : Int32) (hL : LJ μ tb k) (hg : 0 < nG μ → 3 ≤ nP μ) : YL l yL_settles cL_settles 12 (some FieldType.boolean) 23 850 900 7000 Z B0 [.ref (lay (0, 0)), .ref (lay (500, 0)), .ref (lay (300, 0)), .int x, .int z] lay (W2 Z lay μ tb μ tb (dR Z (dv μ))) (LPo Z lay tb k) := by
  have hP8 := nP8 hL.I
  have hG20 := nG20 hL.I
  have hT40 := nT40 hL.I
  have hf := dv_F hL.I
  refine YL_of myL_settles.2 RL rfl [some (.ref (lay (0, 0))), some (.ref (lay (500, 0))), some (.ref (lay (300, 0))), some (.int x), some (.int z), none, none, none, none, none, none, none] rfl (Nat.le_of_ble_eq_true rfl) ?_
  intro P1 P2 P3 P4 P5 P6 P7 P8 X hr hE
  refine v_iload_n X (xdec_at tL_settles_0 0 rfl) rfl rfl ?_
  refine v_iconst (v := 3) X (xdec_at tL_settles_0 1 rfl) (by decide) ?_
  refine v_wL X hE myL_some [.int x, .int (nI 3)] [] (c_some x (n := 3) (by decide) (by decide)) (xw_at tW_2 29 rfl) rfl rfl (by rfl) (Nat.le_of_ble_eq_true rfl) (xdec_at tL_settles_0 2 rfl) ⟨(Nat.le_of_ble_eq_true rfl), (Nat.le_of_ble_eq_true rfl)⟩ ⟨by show (_ : Nat) ≤ 900; omega, by show (_ : Nat) ≤ 7000; omega⟩ ?_
  rintro v9 lay9 C9 ⟨rfl, rfl, u0, hu0, rfl⟩
  refine v_if_le (tgt := 72) X (xdec_at tL_settles_0 3 rfl) (by decide) (fun c_5 => ?_) (fun c_5 => ?_)
  · refine v_iconst (v := 1) X (xdec_at tL_settles_1 0 rfl) (by decide) ?_
    refine v_iload X (xdec_at tL_settles_1 1 rfl) rfl ?_
    refine v_bipush (v := 100) X (xdec_at tL_settles_1 2 rfl) (by decide) ?_
    refine v_wL X hE myL_some [.int z, .int (nI 100)] [.int 1] (c_some z (n := 100) (by decide) (by decide)) (xw_at tW_2 29 rfl) rfl rfl (by rfl) (Nat.le_of_ble_eq_true rfl) (xdec_at tL_settles_1 3 rfl) ⟨(Nat.le_of_ble_eq_true rfl), (Nat.le_of_ble_eq_true rfl)⟩ ⟨by show (_ : Nat) ≤ 900; omega, by show (_ : Nat) ≤ 7000; omega⟩ ?_
    rintro v9 lay9 C9 ⟨rfl, rfl, u1, hu1, rfl⟩
    refine v_iadd X (xdec_at tL_settles_1 4 rfl) ?_
    refine v_st (st' := [.int (nI (1 + u1))]) (by rw [show (1 : Int32) = nI 1 from rfl, nI_add]) ?_
    refine v_istore (lv' := [some (.ref (lay (0, 0))), some (.ref (lay (500, 0))), some (.ref (lay (300, 0))), some (.int x), some (.int z), some (.int (nI (1 + u1))), none, none, none, none, none, none]) X (xdec_at tL_settles_1 5 rfl) (by decide) rfl ?_
    refine v_lconst (v := 0) X (xdec_at tL_settles_1 6 rfl) (by decide) ?_
    refine v_lstore (lv' := [some (.ref (lay (0, 0))), some (.ref (lay (500, 0))), some (.ref (lay (300, 0))), some (.int x), some (.int z), some (.int (nI (1 + u1))), some (.long 0), none, none, none, none, none]) X (xdec_at tL_settles_1 7 rfl) (by decide) rfl ?_
    refine v_aload_n X (xdec_at tL_settles_1 8 rfl) rfl rfl ?_
    refine v_aload_n X (xdec_at tL_settles_1 9 rfl) rfl rfl ?_
    refine v_iconst (v := 2) X (xdec_at tL_settles_1 10 rfl) (by decide) ?_
    refine v_wL X hE myL_sums [.ref (lay (0, 0)), .ref (lay (300, 0)), .int 2] [] (sums2_W hl0 hL.I hf rfl) (xw_at tW_13 28 rfl) rfl rfl (by rfl) (Nat.le_of_ble_eq_true rfl) (xdec_at tL_settles_1 11 rfl) ⟨(Nat.le_of_ble_eq_true rfl), (Nat.le_of_ble_eq_true rfl)⟩ ⟨by show (_ : Nat) ≤ 900; omega, by show (_ : Nat) ≤ 7000; omega⟩ ?_
    rintro v9 lay9 C9 ⟨rfl, rfl, rfl⟩
    refine v_lstore (lv' := [some (.ref (lay (0, 0))), some (.ref (lay (500, 0))), some (.ref (lay (300, 0))), some (.int x), some (.int z), some (.int (nI (1 + u1))), some (.long 0), none, some (.long (sm (μ.2 7) (nP μ))), none, none, none]) X (xdec_at tL_settles_1 12 rfl) (by decide) rfl ?_
    refine v_iconst (v := 0) X (xdec_at tL_settles_1 13 rfl) (by decide) ?_
    refine v_istore (lv' := [some (.ref (lay (0, 0))), some (.ref (lay (500, 0))), some (.ref (lay (300, 0))), some (.int x), some (.int z), some (.int (nI (1 + u1))), some (.long 0), none, some (.long (sm (μ.2 7) (nP μ))), none, some (.int 0), none]) X (xdec_at tL_settles_1 14 rfl) (by decide) rfl ?_
    have hfF : inR (nI (1 + u1)) 1 1000 := inR_n (a := 1) (b := 1000) (by omega) (by omega) (by decide)
    obtain ⟨eM, hJ, e1, eS, e7, eZ⟩ := cm_settle hL hfF
    refine v_forC (nP μ) (fun _ => W2 Z lay μ tb μ tb (dR Z (dv μ))) (fun p => [some (.ref (lay (0, 0))), some (.ref (lay (500, 0))), some (.ref (lay (300, 0))), some (.int x), some (.int z), some (.int (nI (1 + u1))), some (.long (d2 (μ.2 9) (nP μ) p)), none, some (.long (sm (μ.2 7) (nP μ))), none, some (.int (nI p)), none]) (fun p => 8 + 16 * p) (fun p => 48 + 96 * p) 97 [] (fun p hp K => ?_) ?_
    · refine v_iload X (xdec_at tL_settles_1 15 rfl) rfl ?_
      refine v_aload_n X (xdec_at tL_settles_1 16 rfl) rfl rfl ?_
      refine v_iconst (v := 0) X (xdec_at tL_settles_1 17 rfl) (by decide) ?_
      refine x_iald (v := nI (nP μ)) X (300, 0) W2_d (vp_in_nI (n := 0) (N := 3) (by decide) (by decide)) rfl hf.1 (xdec_at tL_settles_1 18 rfl) ?_
      refine v_icmp_ge (tgt := 141) X (xdec_at tL_settles_1 19 rfl) (by decide) (fun h9 => absurd h9 (nI_ge hp (by omega))) (fun _ => ?_)
      refine v_iconst (v := 0) X (xdec_at tL_settles_1 20 rfl) (by decide) ?_
      refine v_istore (lv' := [some (.ref (lay (0, 0))), some (.ref (lay (500, 0))), some (.ref (lay (300, 0))), some (.int x), some (.int z), some (.int (nI (1 + u1))), some (.long (d2 (μ.2 9) (nP μ) p)), none, some (.long (sm (μ.2 7) (nP μ))), none, some (.int (nI p)), some (.int 0)]) X (xdec_at tL_settles_1 21 rfl) (by decide) rfl ?_
      refine v_forC (nP μ) (fun _ => W2 Z lay μ tb μ tb (dR Z (dv μ))) (fun q => [some (.ref (lay (0, 0))), some (.ref (lay (500, 0))), some (.ref (lay (300, 0))), some (.int x), some (.int z), some (.int (nI (1 + u1))), some (.long (d1 (μ.2 9) p q (d2 (μ.2 9) (nP μ) p))), none, some (.long (sm (μ.2 7) (nP μ))), none, some (.int (nI p)), some (.int (nI q))]) (fun q => 8 + 16 * p + 2 * q) (fun q => 48 + 96 * p + 12 * q) 108 [] (fun q hq K2 => ?_) ?_
      · refine v_iload X (xdec_at tL_settles_1 22 rfl) rfl ?_
        refine v_aload_n X (xdec_at tL_settles_1 23 rfl) rfl rfl ?_
        refine v_iconst (v := 0) X (xdec_at tL_settles_1 24 rfl) (by decide) ?_
        refine x_iald (v := nI (nP μ)) X (300, 0) W2_d (vp_in_nI (n := 0) (N := 3) (by decide) (by decide)) rfl hf.1 (xdec_at tL_settles_1 25 rfl) ?_
        refine v_icmp_ge (tgt := 135) X (xdec_at tL_settles_1 26 rfl) (by decide) (fun h9 => absurd h9 (nI_ge hq (by omega))) (fun _ => ?_)
        refine v_lload X (xdec_at tL_settles_1 27 rfl) rfl ?_
        refine v_aload_n X (xdec_at tL_settles_1 28 rfl) rfl rfl ?_
        refine v_iload X (xdec_at tL_settles_1 29 rfl) rfl ?_
        refine v_iload X (xdec_at tL_settles_1 30 rfl) rfl ?_
        refine v_wN X hE myX4_counted [.int (nI p), .int (nI q)] [.long (d1 (μ.2 9) p q (d2 (μ.2 9) (nP μ) p))] (qy_counted hl0 hL.I hp hq) (xw_at tW_4 33 rfl) (0, 0) cX_X rfl rfl rfl rfl (by rfl) (Nat.le_of_ble_eq_true rfl) (xdec_at tL_settles_1 31 rfl) ⟨(Nat.le_of_ble_eq_true rfl), (Nat.le_of_ble_eq_true rfl)⟩ ⟨by show (_ : Nat) ≤ 900; omega, by show (_ : Nat) ≤ 7000; omega⟩ ?_
        rintro v9 lay9 C9 ⟨rfl, rfl, rfl⟩
        refine v_ladd X (xdec_at tL_settles_1 32 rfl) ?_
        refine v_lstore (lv' := [some (.ref (lay (0, 0))), some (.ref (lay (500, 0))), some (.ref (lay (300, 0))), some (.int x), some (.int z), some (.int (nI (1 + u1))), some (.long ((d1 (μ.2 9) p q (d2 (μ.2 9) (nP μ) p)) + (μ.2 9 (8 * p + q)))), none, some (.long (sm (μ.2 7) (nP μ))), none, some (.int (nI p)), some (.int (nI q))]) X (xdec_at tL_settles_1 33 rfl) (by decide) rfl ?_
        refine v_iinc (v := (nI (q + 1))) (lv' := [some (.ref (lay (0, 0))), some (.ref (lay (500, 0))), some (.ref (lay (300, 0))), some (.int x), some (.int z), some (.int (nI (1 + u1))), some (.long ((d1 (μ.2 9) p q (d2 (μ.2 9) (nP μ) p)) + (μ.2 9 (8 * p + q)))), none, some (.long (sm (μ.2 7) (nP μ))), none, some (.int (nI p)), some (.int (nI (q + 1)))]) X (xdec_at tL_settles_1 34 rfl) rfl (nI_1 _) (by decide) rfl ?_
        refine v_goto (tgt := 108) X (xdec_at tL_settles_1 35 rfl) (by decide) ?_
        exact v_widen (by show (_ : Nat) ≤ 8 + 16 * p + 2 * (q + 1); omega) (by show (_ : Nat) ≤ 48 + 96 * p + 12 * (q + 1); omega) K2
      · refine v_iload X (xdec_at tL_settles_1 22 rfl) rfl ?_
        refine v_aload_n X (xdec_at tL_settles_1 23 rfl) rfl rfl ?_
        refine v_iconst (v := 0) X (xdec_at tL_settles_1 24 rfl) (by decide) ?_
        refine x_iald (v := nI (nP μ)) X (300, 0) W2_d (vp_in_nI (n := 0) (N := 3) (by decide) (by decide)) rfl hf.1 (xdec_at tL_settles_1 25 rfl) ?_
        refine v_icmp_ge (tgt := 135) X (xdec_at tL_settles_1 26 rfl) (by decide) (fun _ => ?_) (fun h9 => absurd (nI_le (Nat.le_refl _) (by omega)) h9)
        refine v_iinc (v := (nI (p + 1))) (lv' := [some (.ref (lay (0, 0))), some (.ref (lay (500, 0))), some (.ref (lay (300, 0))), some (.int x), some (.int z), some (.int (nI (1 + u1))), some (.long (d1 (μ.2 9) p (nP μ) (d2 (μ.2 9) (nP μ) p))), none, some (.long (sm (μ.2 7) (nP μ))), none, some (.int (nI (p + 1))), some (.int (nI (nP μ)))]) X (xdec_at tL_settles_1 36 rfl) rfl (nI_1 _) (by decide) rfl ?_
        refine v_goto (tgt := 97) X (xdec_at tL_settles_1 37 rfl) (by decide) ?_
        exact v_le (lv' := [some (.ref (lay (0, 0))), some (.ref (lay (500, 0))), some (.ref (lay (300, 0))), some (.int x), some (.int z), some (.int (nI (1 + u1))), some (.long (d2 (μ.2 9) (nP μ) (p + 1))), none, some (.long (sm (μ.2 7) (nP μ))), none, some (.int (nI (p + 1))), none]) ⟨rfl, rfl, rfl, rfl, rfl, rfl, rfl, rfl, rfl, trivial⟩ (v_widen (by show (_ : Nat) ≤ 8 + 16 * (p + 1); omega) (by show (_ : Nat) ≤ 48 + 96 * (p + 1); omega) K)
    · refine v_iload X (xdec_at tL_settles_1 15 rfl) rfl ?_
      refine v_aload_n X (xdec_at tL_settles_1 16 rfl) rfl rfl ?_
      refine v_iconst (v := 0) X (xdec_at tL_settles_1 17 rfl) (by decide) ?_
      refine x_iald (v := nI (nP μ)) X (300, 0) W2_d (vp_in_nI (n := 0) (N := 3) (by decide) (by decide)) rfl hf.1 (xdec_at tL_settles_1 18 rfl) ?_
      refine v_icmp_ge (tgt := 141) X (xdec_at tL_settles_1 19 rfl) (by decide) (fun _ => ?_) (fun h9 => absurd (nI_le (Nat.le_refl _) (by omega)) h9)
      refine v_aload_n X (xdec_at tL_settles_1 38 rfl) rfl rfl ?_
      refine v_iconst (v := 0) X (xdec_at tL_settles_1 39 rfl) (by decide) ?_
      refine v_iload X (xdec_at tL_settles_2 0 rfl) rfl ?_
      refine v_iconst (v := 0) X (xdec_at tL_settles_2 1 rfl) (by decide) ?_
      have e_9 : (M_settle μ (nI (1 + u1))).2.1 38 0 = 0 := by rw [eM]; exact hJ.z
      have hOK : LongOK l Z B0 μ tb 0 (nI (1 + u1)) 0 (M_st1 (nI (1 + u1)) 64 (0, μ)).1 (M_st1 (nI (1 + u1)) 64 (0, μ)).2 := fun lay r => long_settle hl0 hL.I hL.K (fun _ => ⟨by rw [eM], fun _ => by rw [eM]⟩) (fun E q9 => absurd (e_9.symm.trans q9.2) (by decide))
      refine v_wC X hE mw_long0 [.ref (lay (0, 0)), .int 0, .int (nI (1 + u1)), .int 0] [] (long_W hOK) (xw_at tW_13 36 rfl) rfl (by rfl) (Nat.le_of_ble_eq_true rfl) (xdec_at tL_settles_2 2 rfl) ⟨(Nat.le_of_ble_eq_true rfl), (Nat.le_of_ble_eq_true rfl)⟩ ⟨by show (_ : Nat) ≤ 900; omega, by show (_ : Nat) ≤ 7000; omega⟩ ?_
      rintro v9 l1 C9 ⟨rfl, y_l1, rfl⟩
      rw [← y_l1.1, ← y_l1.2.1, ← y_l1.2.2 (300, 0) (by decide) (by decide)]
      refine v_lstore (lv' := [some (.ref (l1 (0, 0))), some (.ref (l1 (500, 0))), some (.ref (l1 (300, 0))), some (.int x), some (.int z), some (.int (nI (1 + u1))), some (.long (d2 (μ.2 9) (nP μ) (nP μ))), none, some (.long (sm (μ.2 7) (nP μ))), none, some (.long ((M_st1 (nI (1 + u1)) 64 (0, μ)).1)), none]) X (xdec_at tL_settles_2 3 rfl) (by decide) rfl ?_
      refine v_lload X (xdec_at tL_settles_2 4 rfl) rfl ?_
      refine v_lload X (xdec_at tL_settles_2 5 rfl) rfl ?_
      refine v_iload X (xdec_at tL_settles_2 6 rfl) rfl ?_
      refine v_i2l X (xdec_at tL_settles_2 7 rfl) rfl ?_
      refine v_lmul X (xdec_at tL_settles_2 8 rfl) ?_
      refine v_lcmp X (xdec_at tL_settles_2 9 rfl) ?_
      refine v_if_ne (tgt := 206) X (xdec_at tL_settles_2 10 rfl) (by decide) (fun h9 => absurd (lcz eS) h9) (fun _ => ?_)
      refine v_lload X (xdec_at tL_settles_2 11 rfl) rfl ?_
      refine v_aload_n X (xdec_at tL_settles_2 12 rfl) rfl rfl ?_
      refine v_iconst (v := 0) X (xdec_at tL_settles_2 13 rfl) (by decide) ?_
      refine v_iload X (xdec_at tL_settles_2 14 rfl) rfl ?_
      refine v_iconst (v := 0) X (xdec_at tL_settles_2 15 rfl) (by decide) ?_
      refine v_wC X hE mw_long0 [.ref (l1 (500, 0)), .int 0, .int (nI (1 + u1)), .int 0] [.long ((M_st1 (nI (1 + u1)) 64 (0, μ)).1)] (long_T hOK) (xw_at tW_13 36 rfl) rfl (by rfl) (Nat.le_of_ble_eq_true rfl) (xdec_at tL_settles_2 16 rfl) ⟨(Nat.le_of_ble_eq_true rfl), (Nat.le_of_ble_eq_true rfl)⟩ ⟨by show (_ : Nat) ≤ 900; omega, by show (_ : Nat) ≤ 7000; omega⟩ ?_
      rintro v9 l2 C9 ⟨rfl, y_l2, rfl⟩
      rw [← y_l2.1, ← y_l2.2.1, ← y_l2.2.2 (300, 0) (by decide) (by decide)]
      refine v_lcmp X (xdec_at tL_settles_2 17 rfl) ?_
      refine v_if_ne (tgt := 206) X (xdec_at tL_settles_2 18 rfl) (by decide) (fun h9 => absurd (lcz rfl) h9) (fun _ => ?_)
      refine v_aload_n X (xdec_at tL_settles_2 19 rfl) rfl rfl ?_
      refine v_aload_n X (xdec_at tL_settles_2 20 rfl) rfl rfl ?_
      refine v_iconst (v := 2) X (xdec_at tL_settles_2 21 rfl) (by decide) ?_
      refine v_wL X hE myL_sums [.ref (l2 (0, 0)), .ref (l2 (300, 0)), .int 2] [] (sums2_W hl0 hJ.I (show dF (dv μ) (M_st1 (nI (1 + u1)) 64 (0, μ)).2 from by unfold dF nP nG nT; rw [e1]; exact hf) rfl) (xw_at tW_13 28 rfl) rfl rfl (by rfl) (Nat.le_of_ble_eq_true rfl) (xdec_at tL_settles_2 22 rfl) ⟨(Nat.le_of_ble_eq_true rfl), (Nat.le_of_ble_eq_true rfl)⟩ ⟨by show (_ : Nat) ≤ 900; omega, by show (_ : Nat) ≤ 7000; omega⟩ ?_
      rintro v9 lay9 C9 ⟨rfl, rfl, rfl⟩
      refine v_lload X (xdec_at tL_settles_2 23 rfl) rfl ?_
      refine v_lcmp X (xdec_at tL_settles_2 24 rfl) ?_
      refine v_if_ne (tgt := 206) X (xdec_at tL_settles_2 25 rfl) (by decide) (fun h9 => absurd (lcz (show sm (((M_st1 (nI (1 + u1)) 64 (0, μ)).2).2 7) (nP (M_st1 (nI (1 + u1)) 64 (0, μ)).2) = _ from by rw [show nP (M_st1 (nI (1 + u1)) 64 (0, μ)).2 = nP μ from by unfold nP; rw [e1]]; exact e7)) h9) (fun _ => ?_)
      refine v_aload_n X (xdec_at tL_settles_2 26 rfl) rfl rfl ?_
      refine v_iconst (v := 0) X (xdec_at tL_settles_2 27 rfl) (by decide) ?_
      refine v_iload X (xdec_at tL_settles_2 28 rfl) rfl ?_
      refine v_iconst (v := 0) X (xdec_at tL_settles_2 29 rfl) (by decide) ?_
      have e_8 : (M_settle (M_st1 (nI (1 + u1)) 64 (0, μ)).2 (nI (1 + u1))).2.1 38 0 = 0 := by rw [eZ]; exact hJ.z
      have hOK2 : LongOK l Z B0 (M_st1 (nI (1 + u1)) 64 (0, μ)).2 tb 0 (nI (1 + u1)) 0 0 (M_st1 (nI (1 + u1)) 64 (0, μ)).2 := fun lay r => long_settle hl0 hJ.I hJ.K (fun _ => ⟨by rw [eZ], fun _ => by rw [eZ]⟩) (fun E q9 => absurd (e_8.symm.trans q9.2) (by decide))
      refine v_wC X hE mw_long0 [.ref (l2 (0, 0)), .int 0, .int (nI (1 + u1)), .int 0] [] (long_W hOK2) (xw_at tW_13 36 rfl) rfl (by rfl) (Nat.le_of_ble_eq_true rfl) (xdec_at tL_settles_2 30 rfl) ⟨(Nat.le_of_ble_eq_true rfl), (Nat.le_of_ble_eq_true rfl)⟩ ⟨by show (_ : Nat) ≤ 900; omega, by show (_ : Nat) ≤ 7000; omega⟩ ?_
      rintro v9 l3 C9 ⟨rfl, y_l3, rfl⟩
      rw [← y_l3.1, ← y_l3.2.1, ← y_l3.2.2 (300, 0) (by decide) (by decide)]
      refine v_lconst (v := 0) X (xdec_at tL_settles_2 31 rfl) (by decide) ?_
      refine v_lcmp X (xdec_at tL_settles_2 32 rfl) ?_
      refine v_if_ne (tgt := 206) X (xdec_at tL_settles_2 33 rfl) (by decide) (fun h9 => absurd (lcz rfl) h9) (fun _ => ?_)
      refine v_iconst (v := 1) X (xdec_at tL_settles_2 34 rfl) (by decide) ?_
      refine v_goto (tgt := 207) X (xdec_at tL_settles_2 35 rfl) (by decide) ?_
      exact v_xr (v_zret X hr (xdec_at tL_settles_2 37 rfl) (by show (_ : Nat) ≤ 900; omega) (by show (_ : Nat) ≤ 7000; omega) (by rfl) ⟨rfl, (lyL_tr (lyL_tr y_l1 y_l2) y_l3), (M_st1 (nI (1 + u1)) 64 (0, μ)).2, tb, (by rw [dv_e (μ := μ) (ν := (M_st1 (nI (1 + u1)) 64 (0, μ)).2) (by rw [e1]) (by rw [e1]) (by rw [e1])] <;> rfl), hJ.up, (by unfold nG nP; rw [e1]; exact hg), Nat.le_refl _⟩)
  · refine v_iload X (xdec_at tL_settles_0 4 rfl) rfl ?_
    refine v_iconst (v := 3) X (xdec_at tL_settles_0 5 rfl) (by decide) ?_
    refine v_wL X hE myL_some [.int z, .int (nI 3)] [] (c_some z (n := 3) (by decide) (by decide)) (xw_at tW_2 29 rfl) rfl rfl (by rfl) (Nat.le_of_ble_eq_true rfl) (xdec_at tL_settles_0 6 rfl) ⟨(Nat.le_of_ble_eq_true rfl), (Nat.le_of_ble_eq_true rfl)⟩ ⟨by show (_ : Nat) ≤ 900; omega, by show (_ : Nat) ≤ 7000; omega⟩ ?_
    rintro v9 lay9 C9 ⟨rfl, rfl, u2, hu2, rfl⟩
    refine v_if_le (tgt := 21) X (xdec_at tL_settles_0 7 rfl) (by decide) (fun c_14 => ?_) (fun c_14 => ?_)
    · refine v_iconst (v := 0) X (xdec_at tL_settles_0 10 rfl) (by decide) ?_
      refine v_istore (lv' := [some (.ref (lay (0, 0))), some (.ref (lay (500, 0))), some (.ref (lay (300, 0))), some (.int x), some (.int z), some (.int 0), none, none, none, none, none, none]) X (xdec_at tL_settles_0 11 rfl) (by decide) rfl ?_
      refine v_aload_n X (xdec_at tL_settles_0 12 rfl) rfl rfl ?_
      refine v_aload_n X (xdec_at tL_settles_0 13 rfl) rfl rfl ?_
      refine v_bipush (v := 16) X (xdec_at tL_settles_0 14 rfl) (by decide) ?_
      refine v_iload X (xdec_at tL_settles_0 15 rfl) rfl ?_
      refine v_iconst (v := 0) X (xdec_at tL_settles_0 16 rfl) (by decide) ?_
      refine v_iconst (v := 0) X (xdec_at tL_settles_0 17 rfl) (by decide) ?_
      refine v_iconst (v := 0) X (xdec_at tL_settles_0 18 rfl) (by decide) ?_
      obtain ⟨eM, hJ⟩ := cm_sample (c := bo 0) hL (bo01 0)
      have h01 := hL.I.b (j := 36) (i := 0) (Or.inr rfl)
      refine v_wL X hE myL_both [.ref (lay (0, 0)), .ref (lay (500, 0)), .int 16, .int 0, .int 0, .int 0, .int 0] [] (both_of rfl (ckS_sample hl0 hL eM hJ.z)) (xw_at tW_6 11 rfl) rfl rfl (by rfl) (Nat.le_of_ble_eq_true rfl) (xdec_at tL_settles_0 19 rfl) ⟨(Nat.le_of_ble_eq_true rfl), (Nat.le_of_ble_eq_true rfl)⟩ ⟨by show (_ : Nat) ≤ 900; omega, by show (_ : Nat) ≤ 7000; omega⟩ ?_
      rintro v9 l4 C9 ⟨rfl, y_l4, rfl⟩
      rw [← y_l4.1, ← y_l4.2.1, ← y_l4.2.2 (300, 0) (by decide) (by decide)]
      refine v_istore (lv' := [some (.ref (l4 (0, 0))), some (.ref (l4 (500, 0))), some (.ref (l4 (300, 0))), some (.int x), some (.int z), some (.int 0), some (.int (μ.1 36 0)), none, none, none, none, none]) X (xdec_at tL_settles_0 20 rfl) (by decide) rfl ?_
      rcases h01 with h01 | h01
      · refine v_iload X (xdec_at tL_settles_0 21 rfl) rfl ?_
        refine v_if_eq (tgt := 49) X (xdec_at tL_settles_0 22 rfl) (by decide) (fun _ => ?_) (fun h9 => absurd h01 h9)
        refine v_aload_n X (xdec_at tL_settles_0 26 rfl) rfl rfl ?_
        refine v_aload_n X (xdec_at tL_settles_0 27 rfl) rfl rfl ?_
        refine v_bipush (v := 16) X (xdec_at tL_settles_0 28 rfl) (by decide) ?_
        refine v_iload X (xdec_at tL_settles_0 29 rfl) rfl ?_
        refine v_iconst (v := 0) X (xdec_at tL_settles_0 30 rfl) (by decide) ?_
        refine v_iconst (v := 0) X (xdec_at tL_settles_0 31 rfl) (by decide) ?_
        refine v_iconst (v := 0) X (xdec_at tL_settles_0 32 rfl) (by decide) ?_
        obtain ⟨eM2, hJ2⟩ := cm_sample (μ := (up2 μ.1 36 0 (bo 0), μ.2)) (c := bo 0) hJ (bo01 0)
        refine v_wL X hE myL_both [.ref (l4 (0, 0)), .ref (l4 (500, 0)), .int 16, .int 0, .int 0, .int 0, .int 0] [] (both_of rfl (ckS_sample hl0 hJ eM2 hJ2.z)) (xw_at tW_6 11 rfl) rfl rfl (by rfl) (Nat.le_of_ble_eq_true rfl) (xdec_at tL_settles_0 33 rfl) ⟨(Nat.le_of_ble_eq_true rfl), (Nat.le_of_ble_eq_true rfl)⟩ ⟨by show (_ : Nat) ≤ 900; omega, by show (_ : Nat) ≤ 7000; omega⟩ ?_
        rintro v9 l5 C9 ⟨rfl, y_l5, rfl⟩
        rw [← y_l5.1, ← y_l5.2.1, ← y_l5.2.2 (300, 0) (by decide) (by decide)]
        refine v_iload X (xdec_at tL_settles_0 34 rfl) rfl ?_
        refine v_icmp_ne (tgt := 70) X (xdec_at tL_settles_0 35 rfl) (by decide) (fun h9 => absurd (show up2 μ.1 36 0 (bo 0) 36 0 = 0 from u_at.trans (by decide)) h9) (fun _ => ?_)
        refine v_iconst (v := 1) X (xdec_at tL_settles_0 36 rfl) (by decide) ?_
        refine v_goto (tgt := 71) X (xdec_at tL_settles_0 37 rfl) (by decide) ?_
        exact v_xr (v_zret X hr (xdec_at tL_settles_0 39 rfl) (by show (_ : Nat) ≤ 900; omega) (by show (_ : Nat) ≤ 7000; omega) (by rfl) ⟨rfl, (lyL_tr y_l4 y_l5), (up2 (up2 μ.1 36 0 (bo 0), μ.2).1 36 0 (bo 0), (up2 μ.1 36 0 (bo 0), μ.2).2), tb, (by rw [dv_e (μ := μ) (ν := (up2 (up2 μ.1 36 0 (bo 0), μ.2).1 36 0 (bo 0), (up2 μ.1 36 0 (bo 0), μ.2).2)) rfl rfl rfl] <;> rfl), hJ2, hg, Nat.le_refl _⟩)
      · refine v_iload X (xdec_at tL_settles_0 21 rfl) rfl ?_
        refine v_if_eq (tgt := 49) X (xdec_at tL_settles_0 22 rfl) (by decide) (fun h9 => absurd h9 (show ¬ _ = (0 : Int32) from by rw [h01]; decide)) (fun _ => ?_)
        refine v_iload X (xdec_at tL_settles_0 23 rfl) rfl ?_
        refine v_iconst (v := 1) X (xdec_at tL_settles_0 24 rfl) (by decide) ?_
        refine v_icmp_ne (tgt := 70) X (xdec_at tL_settles_0 25 rfl) (by decide) (fun h9 => absurd h01 h9) (fun _ => ?_)
        refine v_aload_n X (xdec_at tL_settles_0 26 rfl) rfl rfl ?_
        refine v_aload_n X (xdec_at tL_settles_0 27 rfl) rfl rfl ?_
        refine v_bipush (v := 16) X (xdec_at tL_settles_0 28 rfl) (by decide) ?_
        refine v_iload X (xdec_at tL_settles_0 29 rfl) rfl ?_
        refine v_iconst (v := 0) X (xdec_at tL_settles_0 30 rfl) (by decide) ?_
        refine v_iconst (v := 0) X (xdec_at tL_settles_0 31 rfl) (by decide) ?_
        refine v_iconst (v := 0) X (xdec_at tL_settles_0 32 rfl) (by decide) ?_
        obtain ⟨eM2, hJ2⟩ := cm_sample (μ := (up2 μ.1 36 0 (bo 0), μ.2)) (c := bo 0) hJ (bo01 0)
        refine v_wL X hE myL_both [.ref (l4 (0, 0)), .ref (l4 (500, 0)), .int 16, .int 0, .int 0, .int 0, .int 0] [] (both_of rfl (ckS_sample hl0 hJ eM2 hJ2.z)) (xw_at tW_6 11 rfl) rfl rfl (by rfl) (Nat.le_of_ble_eq_true rfl) (xdec_at tL_settles_0 33 rfl) ⟨(Nat.le_of_ble_eq_true rfl), (Nat.le_of_ble_eq_true rfl)⟩ ⟨by show (_ : Nat) ≤ 900; omega, by show (_ : Nat) ≤ 7000; omega⟩ ?_
        rintro v9 l6 C9 ⟨rfl, y_l6, rfl⟩
        rw [← y_l6.1, ← y_l6.2.1, ← y_l6.2.2 (300, 0) (by decide) (by decide)]
        refine v_iload X (xdec_at tL_settles_0 34 rfl) rfl ?_
        refine v_icmp_ne (tgt := 70) X (xdec_at tL_settles_0 35 rfl) (by decide) (fun h9 => absurd (show up2 μ.1 36 0 (bo 0) 36 0 = 0 from u_at.trans (by decide)) h9) (fun _ => ?_)
        refine v_iconst (v := 1) X (xdec_at tL_settles_0 36 rfl) (by decide) ?_
        refine v_goto (tgt := 71) X (xdec_at tL_settles_0 37 rfl) (by decide) ?_
        exact v_xr (v_zret X hr (xdec_at tL_settles_0 39 rfl) (by show (_ : Nat) ≤ 900; omega) (by show (_ : Nat) ≤ 7000; omega) (by rfl) ⟨rfl, (lyL_tr y_l4 y_l6), (up2 (up2 μ.1 36 0 (bo 0), μ.2).1 36 0 (bo 0), (up2 μ.1 36 0 (bo 0), μ.2).2), tb, (by rw [dv_e (μ := μ) (ν := (up2 (up2 μ.1 36 0 (bo 0), μ.2).1 36 0 (bo 0), (up2 μ.1 36 0 (bo 0), μ.2).2)) rfl rfl rfl] <;> rfl), hJ2, hg, Nat.le_refl _⟩)
    · refine v_iconst (v := 1) X (xdec_at tL_settles_0 8 rfl) (by decide) ?_
      refine v_goto (tgt := 22) X (xdec_at tL_settles_0 9 rfl) (by decide) ?_
      refine v_istore (lv' := [some (.ref (lay (0, 0))), some (.ref (lay (500, 0))), some (.ref (lay (300, 0))), some (.int x), some (.int z), some (.int 1), none, none, none, none, none, none]) X (xdec_at tL_settles_0 11 rfl) (by decide) rfl ?_
      refine v_aload_n X (xdec_at tL_settles_0 12 rfl) rfl rfl ?_
      refine v_aload_n X (xdec_at tL_settles_0 13 rfl) rfl rfl ?_
      refine v_bipush (v := 16) X (xdec_at tL_settles_0 14 rfl) (by decide) ?_
      refine v_iload X (xdec_at tL_settles_0 15 rfl) rfl ?_
      refine v_iconst (v := 0) X (xdec_at tL_settles_0 16 rfl) (by decide) ?_
      refine v_iconst (v := 0) X (xdec_at tL_settles_0 17 rfl) (by decide) ?_
      refine v_iconst (v := 0) X (xdec_at tL_settles_0 18 rfl) (by decide) ?_
      obtain ⟨eM, hJ⟩ := cm_sample (c := bo 1) hL (bo01 1)
      have h01 := hL.I.b (j := 36) (i := 0) (Or.inr rfl)
      refine v_wL X hE myL_both [.ref (lay (0, 0)), .ref (lay (500, 0)), .int 16, .int 1, .int 0, .int 0, .int 0] [] (both_of rfl (ckS_sample hl0 hL eM hJ.z)) (xw_at tW_6 11 rfl) rfl rfl (by rfl) (Nat.le_of_ble_eq_true rfl) (xdec_at tL_settles_0 19 rfl) ⟨(Nat.le_of_ble_eq_true rfl), (Nat.le_of_ble_eq_true rfl)⟩ ⟨by show (_ : Nat) ≤ 900; omega, by show (_ : Nat) ≤ 7000; omega⟩ ?_
      rintro v9 l7 C9 ⟨rfl, y_l7, rfl⟩
      rw [← y_l7.1, ← y_l7.2.1, ← y_l7.2.2 (300, 0) (by decide) (by decide)]
      refine v_istore (lv' := [some (.ref (l7 (0, 0))), some (.ref (l7 (500, 0))), some (.ref (l7 (300, 0))), some (.int x), some (.int z), some (.int 1), some (.int (μ.1 36 0)), none, none, none, none, none]) X (xdec_at tL_settles_0 20 rfl) (by decide) rfl ?_
      rcases h01 with h01 | h01
      · refine v_iload X (xdec_at tL_settles_0 21 rfl) rfl ?_
        refine v_if_eq (tgt := 49) X (xdec_at tL_settles_0 22 rfl) (by decide) (fun _ => ?_) (fun h9 => absurd h01 h9)
        refine v_aload_n X (xdec_at tL_settles_0 26 rfl) rfl rfl ?_
        refine v_aload_n X (xdec_at tL_settles_0 27 rfl) rfl rfl ?_
        refine v_bipush (v := 16) X (xdec_at tL_settles_0 28 rfl) (by decide) ?_
        refine v_iload X (xdec_at tL_settles_0 29 rfl) rfl ?_
        refine v_iconst (v := 0) X (xdec_at tL_settles_0 30 rfl) (by decide) ?_
        refine v_iconst (v := 0) X (xdec_at tL_settles_0 31 rfl) (by decide) ?_
        refine v_iconst (v := 0) X (xdec_at tL_settles_0 32 rfl) (by decide) ?_
        obtain ⟨eM2, hJ2⟩ := cm_sample (μ := (up2 μ.1 36 0 (bo 1), μ.2)) (c := bo 1) hJ (bo01 1)
        refine v_wL X hE myL_both [.ref (l7 (0, 0)), .ref (l7 (500, 0)), .int 16, .int 1, .int 0, .int 0, .int 0] [] (both_of rfl (ckS_sample hl0 hJ eM2 hJ2.z)) (xw_at tW_6 11 rfl) rfl rfl (by rfl) (Nat.le_of_ble_eq_true rfl) (xdec_at tL_settles_0 33 rfl) ⟨(Nat.le_of_ble_eq_true rfl), (Nat.le_of_ble_eq_true rfl)⟩ ⟨by show (_ : Nat) ≤ 900; omega, by show (_ : Nat) ≤ 7000; omega⟩ ?_
        rintro v9 l8 C9 ⟨rfl, y_l8, rfl⟩
        rw [← y_l8.1, ← y_l8.2.1, ← y_l8.2.2 (300, 0) (by decide) (by decide)]
        refine v_iload X (xdec_at tL_settles_0 34 rfl) rfl ?_
        refine v_icmp_ne (tgt := 70) X (xdec_at tL_settles_0 35 rfl) (by decide) (fun h9 => absurd (show up2 μ.1 36 0 (bo 1) 36 0 = 1 from u_at.trans (by decide)) h9) (fun _ => ?_)
        refine v_iconst (v := 1) X (xdec_at tL_settles_0 36 rfl) (by decide) ?_
        refine v_goto (tgt := 71) X (xdec_at tL_settles_0 37 rfl) (by decide) ?_
        exact v_xr (v_zret X hr (xdec_at tL_settles_0 39 rfl) (by show (_ : Nat) ≤ 900; omega) (by show (_ : Nat) ≤ 7000; omega) (by rfl) ⟨rfl, (lyL_tr y_l7 y_l8), (up2 (up2 μ.1 36 0 (bo 1), μ.2).1 36 0 (bo 1), (up2 μ.1 36 0 (bo 1), μ.2).2), tb, (by rw [dv_e (μ := μ) (ν := (up2 (up2 μ.1 36 0 (bo 1), μ.2).1 36 0 (bo 1), (up2 μ.1 36 0 (bo 1), μ.2).2)) rfl rfl rfl] <;> rfl), hJ2, hg, Nat.le_refl _⟩)
      · refine v_iload X (xdec_at tL_settles_0 21 rfl) rfl ?_
        refine v_if_eq (tgt := 49) X (xdec_at tL_settles_0 22 rfl) (by decide) (fun h9 => absurd h9 (show ¬ _ = (0 : Int32) from by rw [h01]; decide)) (fun _ => ?_)
        refine v_iload X (xdec_at tL_settles_0 23 rfl) rfl ?_
        refine v_iconst (v := 1) X (xdec_at tL_settles_0 24 rfl) (by decide) ?_
        refine v_icmp_ne (tgt := 70) X (xdec_at tL_settles_0 25 rfl) (by decide) (fun h9 => absurd h01 h9) (fun _ => ?_)
        refine v_aload_n X (xdec_at tL_settles_0 26 rfl) rfl rfl ?_
        refine v_aload_n X (xdec_at tL_settles_0 27 rfl) rfl rfl ?_
        refine v_bipush (v := 16) X (xdec_at tL_settles_0 28 rfl) (by decide) ?_
        refine v_iload X (xdec_at tL_settles_0 29 rfl) rfl ?_
        refine v_iconst (v := 0) X (xdec_at tL_settles_0 30 rfl) (by decide) ?_
        refine v_iconst (v := 0) X (xdec_at tL_settles_0 31 rfl) (by decide) ?_
        refine v_iconst (v := 0) X (xdec_at tL_settles_0 32 rfl) (by decide) ?_
        obtain ⟨eM2, hJ2⟩ := cm_sample (μ := (up2 μ.1 36 0 (bo 1), μ.2)) (c := bo 1) hJ (bo01 1)
        refine v_wL X hE myL_both [.ref (l7 (0, 0)), .ref (l7 (500, 0)), .int 16, .int 1, .int 0, .int 0, .int 0] [] (both_of rfl (ckS_sample hl0 hJ eM2 hJ2.z)) (xw_at tW_6 11 rfl) rfl rfl (by rfl) (Nat.le_of_ble_eq_true rfl) (xdec_at tL_settles_0 33 rfl) ⟨(Nat.le_of_ble_eq_true rfl), (Nat.le_of_ble_eq_true rfl)⟩ ⟨by show (_ : Nat) ≤ 900; omega, by show (_ : Nat) ≤ 7000; omega⟩ ?_
        rintro v9 l9 C9 ⟨rfl, y_l9, rfl⟩
        rw [← y_l9.1, ← y_l9.2.1, ← y_l9.2.2 (300, 0) (by decide) (by decide)]
        refine v_iload X (xdec_at tL_settles_0 34 rfl) rfl ?_
        refine v_icmp_ne (tgt := 70) X (xdec_at tL_settles_0 35 rfl) (by decide) (fun h9 => absurd (show up2 μ.1 36 0 (bo 1) 36 0 = 1 from u_at.trans (by decide)) h9) (fun _ => ?_)
        refine v_iconst (v := 1) X (xdec_at tL_settles_0 36 rfl) (by decide) ?_
        refine v_goto (tgt := 71) X (xdec_at tL_settles_0 37 rfl) (by decide) ?_
        exact v_xr (v_zret X hr (xdec_at tL_settles_0 39 rfl) (by show (_ : Nat) ≤ 900; omega) (by show (_ : Nat) ≤ 7000; omega) (by rfl) ⟨rfl, (lyL_tr y_l7 y_l9), (up2 (up2 μ.1 36 0 (bo 1), μ.2).1 36 0 (bo 1), (up2 μ.1 36 0 (bo 1), μ.2).2), tb, (by rw [dv_e (μ := μ) (ν := (up2 (up2 μ.1 36 0 (bo 1), μ.2).1 36 0 (bo 1), (up2 μ.1 36 0 (bo 1), μ.2).2)) rfl rfl rfl] <;> rfl), hJ2, hg, Nat.le_refl _⟩)
/-- what refused leaves -/
def LRo (lay : xK → Nat) (Z : xZ) (μ μ' : Mu) (tb tb' : Tb) : Option Value → (xK → Nat) → (xK → Option xE) → Prop := fun v lay' C' => v = some (.int 1) ∧ lyL lay lay' ∧ C' = W2 Z lay' μ tb μ' tb' (dR Z (dv μ))
set_option maxRecDepth 100000 in
set_option maxHeartbeats 8000000 in
theorem c_refused {l : Launch} (hl0 : l.stackTraces = false) {Z : xZ} {B0 : Nat} {lay : xK → Nat} {μ μ' : Mu} {tb tb' : Tb} {k : Nat} (hL : LJ μ tb k) (hk : k < 500) : YL l yL_refused cL_refused 5 (some FieldType.boolean) 23 850 2600 15600 Z B0 [.ref (lay (0, 0)), .ref (lay (300, 0))] lay (W2 Z lay μ tb μ' tb' (dR Z (dv μ))) (LRo lay Z μ μ' tb tb') := by
  have hP8 := nP8 hL.I
  have hf := dv_F hL.I
  refine YL_of myL_refused.2 RL rfl [some (.ref (lay (0, 0))), some (.ref (lay (300, 0))), none, none, none] rfl (Nat.le_of_ble_eq_true rfl) ?_
  intro P1 P2 P3 P4 P5 P6 P7 P8 X hr hE
  refine v_aload_n X (xdec_at tL_refused_0 0 rfl) rfl rfl ?_
  refine v_aload_n X (xdec_at tL_refused_0 1 rfl) rfl rfl ?_
  refine v_wL X hE myL_all [.ref (lay (0, 0)), .ref (lay (300, 0))] [] (all_W hl0 hL.I hL.K hL.S hf) (xw_at tW_2 31 rfl) rfl rfl (by rfl) (Nat.le_of_ble_eq_true rfl) (xdec_at tL_refused_0 2 rfl) ⟨(Nat.le_of_ble_eq_true rfl), (Nat.le_of_ble_eq_true rfl)⟩ ⟨(Nat.le_of_ble_eq_true rfl), (Nat.le_of_ble_eq_true rfl)⟩ ?_
  rintro v9 lay9 C9 ⟨rfl, rfl, rfl⟩
  refine v_lstore_n (lv' := [some (.ref (lay (0, 0))), some (.ref (lay (300, 0))), some (.long (hA μ)), none, none]) X (xdec_at tL_refused_0 3 rfl) rfl (by decide) rfl ?_
  refine v_aload_n X (xdec_at tL_refused_0 4 rfl) rfl rfl ?_
  refine v_iconst (v := 1) X (xdec_at tL_refused_0 5 rfl) (by decide) ?_
  refine v_bipush (v := 8) X (xdec_at tL_refused_0 6 rfl) (by decide) ?_
  refine v_iconst (v := 0) X (xdec_at tL_refused_0 7 rfl) (by decide) ?_
  refine v_iconst (v := 0) X (xdec_at tL_refused_0 8 rfl) (by decide) ?_
  refine v_iconst (v := 0) X (xdec_at tL_refused_0 9 rfl) (by decide) ?_
  refine v_wC X hE mw_call [.ref (lay (0, 0)), .int 1, .int 8, .int 0, .int 0, .int 0] [] (call_W rfl (ckE_rates_1 hl0 hL (show (M_rates μ 8 0 0 0).1 38 0 = 1 from by unfold M_rates; rw [if_neg (notP_8 hL.I)]; exact th_38 μ 1))) (xw_at tW_6 13 rfl) rfl (by rfl) (Nat.le_of_ble_eq_true rfl) (xdec_at tL_refused_0 10 rfl) ⟨(Nat.le_of_ble_eq_true rfl), (Nat.le_of_ble_eq_true rfl)⟩ ⟨(Nat.le_of_ble_eq_true rfl), (Nat.le_of_ble_eq_true rfl)⟩ ?_
  rintro v9 l1 C9 ⟨rfl, y_l1, rfl⟩
  rw [← y_l1.1, ← y_l1.2.2 (300, 0) (by decide) (by decide)]
  refine v_ldc (v := -2000000001) X (xw_at tW_12 0 rfl) (xdec_at tL_refused_0 11 rfl) ?_
  refine v_icmp_ne (tgt := 242) X (xdec_at tL_refused_0 12 rfl) (by decide) (fun h9 => absurd rfl h9) (fun _ => ?_)
  refine v_aload_n X (xdec_at tL_refused_0 13 rfl) rfl rfl ?_
  refine v_iconst (v := 2) X (xdec_at tL_refused_0 14 rfl) (by decide) ?_
  refine v_iconst (v := (-1)) X (xdec_at tL_refused_0 15 rfl) (by decide) ?_
  refine v_iconst (v := 0) X (xdec_at tL_refused_0 16 rfl) (by decide) ?_
  refine v_iconst (v := 0) X (xdec_at tL_refused_0 17 rfl) (by decide) ?_
  refine v_iconst (v := 0) X (xdec_at tL_refused_0 18 rfl) (by decide) ?_
  refine v_wC X hE mw_call [.ref (l1 (0, 0)), .int 2, .int (-1), .int 0, .int 0, .int 0] [] (call_W rfl (ckE_due_1 hl0 hL (show (M_due μ (-1) 0 0).2.1 38 0 = 1 from by unfold M_due; rw [if_neg (notP_m hL.I)]; exact th_38 μ 1))) (xw_at tW_6 13 rfl) rfl (by rfl) (Nat.le_of_ble_eq_true rfl) (xdec_at tL_refused_0 19 rfl) ⟨(Nat.le_of_ble_eq_true rfl), (Nat.le_of_ble_eq_true rfl)⟩ ⟨(Nat.le_of_ble_eq_true rfl), (Nat.le_of_ble_eq_true rfl)⟩ ?_
  rintro v9 l2 C9 ⟨rfl, y_l2, rfl⟩
  rw [← y_l2.1, ← y_l2.2.2 (300, 0) (by decide) (by decide)]
  refine v_ldc (v := -2000000001) X (xw_at tW_12 0 rfl) (xdec_at tL_refused_0 20 rfl) ?_
  refine v_icmp_ne (tgt := 242) X (xdec_at tL_refused_0 21 rfl) (by decide) (fun h9 => absurd rfl h9) (fun _ => ?_)
  refine v_aload_n X (xdec_at tL_refused_0 22 rfl) rfl rfl ?_
  refine v_iconst (v := 3) X (xdec_at tL_refused_0 23 rfl) (by decide) ?_
  refine v_bipush (v := 8) X (xdec_at tL_refused_0 24 rfl) (by decide) ?_
  refine v_iconst (v := 0) X (xdec_at tL_refused_0 25 rfl) (by decide) ?_
  refine v_iconst (v := 0) X (xdec_at tL_refused_0 26 rfl) (by decide) ?_
  refine v_iconst (v := 0) X (xdec_at tL_refused_0 27 rfl) (by decide) ?_
  refine v_wC X hE mw_call [.ref (l2 (0, 0)), .int 3, .int 8, .int 0, .int 0, .int 0] [] (call_W rfl (ckE_charge_1 hl0 hL (show (M_charge μ 8 0).2.1 38 0 = 1 from by unfold M_charge; rw [if_neg (notP_8 hL.I)]; exact th_38 μ 1))) (xw_at tW_6 13 rfl) rfl (by rfl) (Nat.le_of_ble_eq_true rfl) (xdec_at tL_refused_0 28 rfl) ⟨(Nat.le_of_ble_eq_true rfl), (Nat.le_of_ble_eq_true rfl)⟩ ⟨(Nat.le_of_ble_eq_true rfl), (Nat.le_of_ble_eq_true rfl)⟩ ?_
  rintro v9 l3 C9 ⟨rfl, y_l3, rfl⟩
  rw [← y_l3.1, ← y_l3.2.2 (300, 0) (by decide) (by decide)]
  refine v_ldc (v := -2000000001) X (xw_at tW_12 0 rfl) (xdec_at tL_refused_0 29 rfl) ?_
  refine v_icmp_ne (tgt := 242) X (xdec_at tL_refused_0 30 rfl) (by decide) (fun h9 => absurd rfl h9) (fun _ => ?_)
  refine v_aload_n X (xdec_at tL_refused_0 31 rfl) rfl rfl ?_
  refine v_iconst (v := 4) X (xdec_at tL_refused_0 32 rfl) (by decide) ?_
  refine v_bipush (v := 8) X (xdec_at tL_refused_0 33 rfl) (by decide) ?_
  refine v_iconst (v := 0) X (xdec_at tL_refused_0 34 rfl) (by decide) ?_
  refine v_iconst (v := 0) X (xdec_at tL_refused_0 35 rfl) (by decide) ?_
  refine v_iconst (v := 0) X (xdec_at tL_refused_0 36 rfl) (by decide) ?_
  refine v_wC X hE mw_call [.ref (l3 (0, 0)), .int 4, .int 8, .int 0, .int 0, .int 0] [] (call_W rfl (ckE_coupon_1 hl0 hL (show (M_coupon μ 8 0).2.1 38 0 = 1 from by unfold M_coupon; rw [if_neg (notP_8 hL.I)]; exact th_38 μ 1))) (xw_at tW_6 13 rfl) rfl (by rfl) (Nat.le_of_ble_eq_true rfl) (xdec_at tL_refused_0 37 rfl) ⟨(Nat.le_of_ble_eq_true rfl), (Nat.le_of_ble_eq_true rfl)⟩ ⟨(Nat.le_of_ble_eq_true rfl), (Nat.le_of_ble_eq_true rfl)⟩ ?_
  rintro v9 l4 C9 ⟨rfl, y_l4, rfl⟩
  rw [← y_l4.1, ← y_l4.2.2 (300, 0) (by decide) (by decide)]
  refine v_ldc (v := -2000000001) X (xw_at tW_12 0 rfl) (xdec_at tL_refused_0 38 rfl) ?_
  refine v_icmp_ne (tgt := 242) X (xdec_at tL_refused_0 39 rfl) (by decide) (fun h9 => absurd rfl h9) (fun _ => ?_)
  refine v_aload_n X (xdec_at tL_refused_1 0 rfl) rfl rfl ?_
  refine v_iconst (v := 5) X (xdec_at tL_refused_1 1 rfl) (by decide) ?_
  refine v_iconst (v := (-1)) X (xdec_at tL_refused_1 2 rfl) (by decide) ?_
  refine v_iconst (v := 1) X (xdec_at tL_refused_1 3 rfl) (by decide) ?_
  refine v_iconst (v := 0) X (xdec_at tL_refused_1 4 rfl) (by decide) ?_
  refine v_iconst (v := 0) X (xdec_at tL_refused_1 5 rfl) (by decide) ?_
  refine v_wC X hE mw_call [.ref (l4 (0, 0)), .int 5, .int (-1), .int 1, .int 0, .int 0] [] (call_W rfl (ckE_strike_1 hl0 hL (show (M_strike μ (-1) (bo 1)).2.1 38 0 = 1 from by unfold M_strike; rw [if_neg (notP_m hL.I)]; exact th_38 μ 1))) (xw_at tW_6 13 rfl) rfl (by rfl) (Nat.le_of_ble_eq_true rfl) (xdec_at tL_refused_1 6 rfl) ⟨(Nat.le_of_ble_eq_true rfl), (Nat.le_of_ble_eq_true rfl)⟩ ⟨(Nat.le_of_ble_eq_true rfl), (Nat.le_of_ble_eq_true rfl)⟩ ?_
  rintro v9 l5 C9 ⟨rfl, y_l5, rfl⟩
  rw [← y_l5.1, ← y_l5.2.2 (300, 0) (by decide) (by decide)]
  refine v_ldc (v := -2000000001) X (xw_at tW_12 0 rfl) (xdec_at tL_refused_1 7 rfl) ?_
  refine v_icmp_ne (tgt := 242) X (xdec_at tL_refused_1 8 rfl) (by decide) (fun h9 => absurd rfl h9) (fun _ => ?_)
  refine v_aload_n X (xdec_at tL_refused_1 9 rfl) rfl rfl ?_
  refine v_bipush (v := 6) X (xdec_at tL_refused_1 10 rfl) (by decide) ?_
  refine v_bipush (v := 8) X (xdec_at tL_refused_1 11 rfl) (by decide) ?_
  refine v_iconst (v := 0) X (xdec_at tL_refused_1 12 rfl) (by decide) ?_
  refine v_iconst (v := 1) X (xdec_at tL_refused_1 13 rfl) (by decide) ?_
  refine v_iconst (v := 0) X (xdec_at tL_refused_1 14 rfl) (by decide) ?_
  refine v_wC X hE mw_call [.ref (l5 (0, 0)), .int 6, .int 8, .int 0, .int 1, .int 0] [] (call_W rfl (ckE_leg_1 hl0 hL (show (M_leg μ 8 0 1).2.1 38 0 = 1 from by unfold M_leg; rw [if_neg (fun q9 => notP_8 hL.I q9.1)]; exact th_38 μ 1))) (xw_at tW_6 13 rfl) rfl (by rfl) (Nat.le_of_ble_eq_true rfl) (xdec_at tL_refused_1 15 rfl) ⟨(Nat.le_of_ble_eq_true rfl), (Nat.le_of_ble_eq_true rfl)⟩ ⟨(Nat.le_of_ble_eq_true rfl), (Nat.le_of_ble_eq_true rfl)⟩ ?_
  rintro v9 l6 C9 ⟨rfl, y_l6, rfl⟩
  rw [← y_l6.1, ← y_l6.2.2 (300, 0) (by decide) (by decide)]
  refine v_ldc (v := -2000000001) X (xw_at tW_12 0 rfl) (xdec_at tL_refused_1 16 rfl) ?_
  refine v_icmp_ne (tgt := 242) X (xdec_at tL_refused_1 17 rfl) (by decide) (fun h9 => absurd rfl h9) (fun _ => ?_)
  refine v_aload_n X (xdec_at tL_refused_1 18 rfl) rfl rfl ?_
  refine v_bipush (v := 7) X (xdec_at tL_refused_1 19 rfl) (by decide) ?_
  refine v_bipush (v := 20) X (xdec_at tL_refused_1 20 rfl) (by decide) ?_
  refine v_iconst (v := 1) X (xdec_at tL_refused_1 21 rfl) (by decide) ?_
  refine v_iconst (v := 0) X (xdec_at tL_refused_1 22 rfl) (by decide) ?_
  refine v_iconst (v := 0) X (xdec_at tL_refused_1 23 rfl) (by decide) ?_
  refine v_wC X hE mw_call [.ref (l6 (0, 0)), .int 7, .int 20, .int 1, .int 0, .int 0] [] (call_W rfl (ckE_close_1 hl0 hL (show (M_close μ 20 (bo 1)).2.1 38 0 = 1 from by unfold M_close; rw [if_neg (notG_20 hL.I)]; exact th_38 μ 1))) (xw_at tW_6 13 rfl) rfl (by rfl) (Nat.le_of_ble_eq_true rfl) (xdec_at tL_refused_1 24 rfl) ⟨(Nat.le_of_ble_eq_true rfl), (Nat.le_of_ble_eq_true rfl)⟩ ⟨(Nat.le_of_ble_eq_true rfl), (Nat.le_of_ble_eq_true rfl)⟩ ?_
  rintro v9 l7 C9 ⟨rfl, y_l7, rfl⟩
  rw [← y_l7.1, ← y_l7.2.2 (300, 0) (by decide) (by decide)]
  refine v_ldc (v := -2000000001) X (xw_at tW_12 0 rfl) (xdec_at tL_refused_1 25 rfl) ?_
  refine v_icmp_ne (tgt := 242) X (xdec_at tL_refused_1 26 rfl) (by decide) (fun h9 => absurd rfl h9) (fun _ => ?_)
  refine v_aload_n X (xdec_at tL_refused_1 27 rfl) rfl rfl ?_
  refine v_bipush (v := 8) X (xdec_at tL_refused_1 28 rfl) (by decide) ?_
  refine v_iconst (v := (-1)) X (xdec_at tL_refused_1 29 rfl) (by decide) ?_
  refine v_iconst (v := 0) X (xdec_at tL_refused_1 30 rfl) (by decide) ?_
  refine v_iconst (v := 0) X (xdec_at tL_refused_1 31 rfl) (by decide) ?_
  refine v_iconst (v := 0) X (xdec_at tL_refused_1 32 rfl) (by decide) ?_
  refine v_wC X hE mw_call [.ref (l7 (0, 0)), .int 8, .int (-1), .int 0, .int 0, .int 0] [] (call_W rfl (ckE_days_1 hl0 hL (show (M_told μ (-1) 0).2.1 38 0 = 1 from by unfold M_told; rw [if_neg (fun q9 => notP_m hL.I q9.1)]; exact th_38 μ 1))) (xw_at tW_6 13 rfl) rfl (by rfl) (Nat.le_of_ble_eq_true rfl) (xdec_at tL_refused_1 33 rfl) ⟨(Nat.le_of_ble_eq_true rfl), (Nat.le_of_ble_eq_true rfl)⟩ ⟨(Nat.le_of_ble_eq_true rfl), (Nat.le_of_ble_eq_true rfl)⟩ ?_
  rintro v9 l8 C9 ⟨rfl, y_l8, rfl⟩
  rw [← y_l8.1, ← y_l8.2.2 (300, 0) (by decide) (by decide)]
  refine v_ldc (v := -2000000001) X (xw_at tW_12 0 rfl) (xdec_at tL_refused_1 34 rfl) ?_
  refine v_icmp_ne (tgt := 242) X (xdec_at tL_refused_1 35 rfl) (by decide) (fun h9 => absurd rfl h9) (fun _ => ?_)
  refine v_aload_n X (xdec_at tL_refused_1 36 rfl) rfl rfl ?_
  refine v_bipush (v := 9) X (xdec_at tL_refused_1 37 rfl) (by decide) ?_
  refine v_bipush (v := 8) X (xdec_at tL_refused_1 38 rfl) (by decide) ?_
  refine v_iconst (v := 0) X (xdec_at tL_refused_1 39 rfl) (by decide) ?_
  refine v_iconst (v := 0) X (xdec_at tL_refused_2 0 rfl) (by decide) ?_
  refine v_iconst (v := 0) X (xdec_at tL_refused_2 1 rfl) (by decide) ?_
  refine v_wC X hE mw_call [.ref (l8 (0, 0)), .int 9, .int 8, .int 0, .int 0, .int 0] [] (call_W rfl (ckE_daysAnew_1 hl0 hL (show (M_told μ 8 0).2.1 38 0 = 1 from by unfold M_told; rw [if_neg (fun q9 => notP_8 hL.I q9.1)]; exact th_38 μ 1))) (xw_at tW_6 13 rfl) rfl (by rfl) (Nat.le_of_ble_eq_true rfl) (xdec_at tL_refused_2 2 rfl) ⟨(Nat.le_of_ble_eq_true rfl), (Nat.le_of_ble_eq_true rfl)⟩ ⟨(Nat.le_of_ble_eq_true rfl), (Nat.le_of_ble_eq_true rfl)⟩ ?_
  rintro v9 l9 C9 ⟨rfl, y_l9, rfl⟩
  rw [← y_l9.1, ← y_l9.2.2 (300, 0) (by decide) (by decide)]
  refine v_ldc (v := -2000000001) X (xw_at tW_12 0 rfl) (xdec_at tL_refused_2 3 rfl) ?_
  refine v_icmp_ne (tgt := 242) X (xdec_at tL_refused_2 4 rfl) (by decide) (fun h9 => absurd rfl h9) (fun _ => ?_)
  refine v_aload_n X (xdec_at tL_refused_2 5 rfl) rfl rfl ?_
  refine v_bipush (v := 10) X (xdec_at tL_refused_2 6 rfl) (by decide) ?_
  refine v_bipush (v := 8) X (xdec_at tL_refused_2 7 rfl) (by decide) ?_
  refine v_iconst (v := 0) X (xdec_at tL_refused_2 8 rfl) (by decide) ?_
  refine v_iconst (v := 0) X (xdec_at tL_refused_2 9 rfl) (by decide) ?_
  refine v_iconst (v := 0) X (xdec_at tL_refused_2 10 rfl) (by decide) ?_
  refine v_wC X hE mw_call [.ref (l9 (0, 0)), .int 10, .int 8, .int 0, .int 0, .int 0] [] (call_W rfl (ckE_next_1 hl0 hL (show (M_next μ 8 0).2.1 38 0 = 1 from by unfold M_next; rw [if_neg (fun q9 => notP_8 hL.I q9.1)]; exact th_38 μ 1))) (xw_at tW_6 13 rfl) rfl (by rfl) (Nat.le_of_ble_eq_true rfl) (xdec_at tL_refused_2 11 rfl) ⟨(Nat.le_of_ble_eq_true rfl), (Nat.le_of_ble_eq_true rfl)⟩ ⟨(Nat.le_of_ble_eq_true rfl), (Nat.le_of_ble_eq_true rfl)⟩ ?_
  rintro v9 l10 C9 ⟨rfl, y_l10, rfl⟩
  rw [← y_l10.1, ← y_l10.2.2 (300, 0) (by decide) (by decide)]
  refine v_ldc (v := -2000000001) X (xw_at tW_12 0 rfl) (xdec_at tL_refused_2 12 rfl) ?_
  refine v_icmp_ne (tgt := 242) X (xdec_at tL_refused_2 13 rfl) (by decide) (fun h9 => absurd rfl h9) (fun _ => ?_)
  refine v_aload_n X (xdec_at tL_refused_2 14 rfl) rfl rfl ?_
  refine v_bipush (v := 11) X (xdec_at tL_refused_2 15 rfl) (by decide) ?_
  refine v_bipush (v := 40) X (xdec_at tL_refused_2 16 rfl) (by decide) ?_
  refine v_iconst (v := 0) X (xdec_at tL_refused_2 17 rfl) (by decide) ?_
  refine v_iconst (v := 0) X (xdec_at tL_refused_2 18 rfl) (by decide) ?_
  refine v_iconst (v := 0) X (xdec_at tL_refused_2 19 rfl) (by decide) ?_
  refine v_wC X hE mw_call [.ref (l10 (0, 0)), .int 11, .int 40, .int 0, .int 0, .int 0] [] (call_W rfl (ckE_redirect_1 hl0 hL (show (M_redirect μ 40 0).2.1 38 0 = 1 from by unfold M_redirect; rw [if_neg (fun q9 => notT_40 hL.I q9.1)]; exact th_38 μ 1))) (xw_at tW_6 13 rfl) rfl (by rfl) (Nat.le_of_ble_eq_true rfl) (xdec_at tL_refused_2 20 rfl) ⟨(Nat.le_of_ble_eq_true rfl), (Nat.le_of_ble_eq_true rfl)⟩ ⟨(Nat.le_of_ble_eq_true rfl), (Nat.le_of_ble_eq_true rfl)⟩ ?_
  rintro v9 l11 C9 ⟨rfl, y_l11, rfl⟩
  rw [← y_l11.1, ← y_l11.2.2 (300, 0) (by decide) (by decide)]
  refine v_ldc (v := -2000000001) X (xw_at tW_12 0 rfl) (xdec_at tL_refused_2 21 rfl) ?_
  refine v_icmp_ne (tgt := 242) X (xdec_at tL_refused_2 22 rfl) (by decide) (fun h9 => absurd rfl h9) (fun _ => ?_)
  refine v_aload_n X (xdec_at tL_refused_2 23 rfl) rfl rfl ?_
  refine v_bipush (v := 12) X (xdec_at tL_refused_2 24 rfl) (by decide) ?_
  refine v_iconst (v := (-1)) X (xdec_at tL_refused_2 25 rfl) (by decide) ?_
  refine v_iconst (v := 1) X (xdec_at tL_refused_2 26 rfl) (by decide) ?_
  refine v_iconst (v := 0) X (xdec_at tL_refused_2 27 rfl) (by decide) ?_
  refine v_iconst (v := 0) X (xdec_at tL_refused_2 28 rfl) (by decide) ?_
  refine v_wC X hE mw_call [.ref (l11 (0, 0)), .int 12, .int (-1), .int 1, .int 0, .int 0] [] (call_W rfl (ckE_refuse_1 hl0 hL (show (M_refuse μ (-1) (bo 1)).2.1 38 0 = 1 from by unfold M_refuse; rw [if_neg (notT_m hL.I)]; exact th_38 μ 1))) (xw_at tW_6 13 rfl) rfl (by rfl) (Nat.le_of_ble_eq_true rfl) (xdec_at tL_refused_2 29 rfl) ⟨(Nat.le_of_ble_eq_true rfl), (Nat.le_of_ble_eq_true rfl)⟩ ⟨(Nat.le_of_ble_eq_true rfl), (Nat.le_of_ble_eq_true rfl)⟩ ?_
  rintro v9 l12 C9 ⟨rfl, y_l12, rfl⟩
  rw [← y_l12.1, ← y_l12.2.2 (300, 0) (by decide) (by decide)]
  refine v_ldc (v := -2000000001) X (xw_at tW_12 0 rfl) (xdec_at tL_refused_2 30 rfl) ?_
  refine v_icmp_ne (tgt := 242) X (xdec_at tL_refused_2 31 rfl) (by decide) (fun h9 => absurd rfl h9) (fun _ => ?_)
  refine v_aload_n X (xdec_at tL_refused_2 32 rfl) rfl rfl ?_
  refine v_bipush (v := 13) X (xdec_at tL_refused_2 33 rfl) (by decide) ?_
  refine v_sipush (v := 201) X (xdec_at tL_refused_2 34 rfl) (by decide) ?_
  refine v_iconst (v := 0) X (xdec_at tL_refused_2 35 rfl) (by decide) ?_
  refine v_iconst (v := 0) X (xdec_at tL_refused_2 36 rfl) (by decide) ?_
  refine v_iconst (v := 0) X (xdec_at tL_refused_2 37 rfl) (by decide) ?_
  refine v_wC X hE mw_call [.ref (l12 (0, 0)), .int 13, .int 201, .int 0, .int 0, .int 0] [] (call_W rfl (ckE_go_1 hl0 hL hk 1 6 ⟨Nat.le_refl _, Nat.le_refl _⟩ (fun q9 => absurd q9 (by decide)) (show (M_go μ 201).2.1 38 0 = 1 from by unfold M_go; rw [if_neg (by decide)]; exact th_38 μ 1))) (xw_at tW_6 13 rfl) rfl (by rfl) (Nat.le_of_ble_eq_true rfl) (xdec_at tL_refused_2 38 rfl) ⟨(Nat.le_of_ble_eq_true rfl), (Nat.le_of_ble_eq_true rfl)⟩ ⟨(Nat.le_of_ble_eq_true rfl), (Nat.le_of_ble_eq_true rfl)⟩ ?_
  rintro v9 l13 C9 ⟨rfl, y_l13, rfl⟩
  rw [← y_l13.1, ← y_l13.2.2 (300, 0) (by decide) (by decide)]
  refine v_ldc (v := -2000000002) X (xw_at tW_12 1 rfl) (xdec_at tL_refused_2 39 rfl) ?_
  refine v_icmp_ne (tgt := 242) X (xdec_at tL_refused_3 0 rfl) (by decide) (fun h9 => absurd rfl h9) (fun _ => ?_)
  refine v_aload_n X (xdec_at tL_refused_3 1 rfl) rfl rfl ?_
  refine v_bipush (v := 14) X (xdec_at tL_refused_3 2 rfl) (by decide) ?_
  refine v_bipush (v := 40) X (xdec_at tL_refused_3 3 rfl) (by decide) ?_
  refine v_iconst (v := 0) X (xdec_at tL_refused_3 4 rfl) (by decide) ?_
  refine v_iconst (v := 0) X (xdec_at tL_refused_3 5 rfl) (by decide) ?_
  refine v_iconst (v := 0) X (xdec_at tL_refused_3 6 rfl) (by decide) ?_
  refine v_wC X hE mw_call [.ref (l13 (0, 0)), .int 14, .int 40, .int 0, .int 0, .int 0] [] (call_W rfl (ckE_lose_1 hl0 hL (show (M_lose μ 40).2.1 38 0 = 1 from by unfold M_lose; rw [if_neg (notT_40 hL.I)]; exact th_38 μ 1))) (xw_at tW_6 13 rfl) rfl (by rfl) (Nat.le_of_ble_eq_true rfl) (xdec_at tL_refused_3 7 rfl) ⟨(Nat.le_of_ble_eq_true rfl), (Nat.le_of_ble_eq_true rfl)⟩ ⟨(Nat.le_of_ble_eq_true rfl), (Nat.le_of_ble_eq_true rfl)⟩ ?_
  rintro v9 l14 C9 ⟨rfl, y_l14, rfl⟩
  rw [← y_l14.1, ← y_l14.2.2 (300, 0) (by decide) (by decide)]
  refine v_ldc (v := -2000000001) X (xw_at tW_12 0 rfl) (xdec_at tL_refused_3 8 rfl) ?_
  refine v_icmp_ne (tgt := 242) X (xdec_at tL_refused_3 9 rfl) (by decide) (fun h9 => absurd rfl h9) (fun _ => ?_)
  refine v_aload_n X (xdec_at tL_refused_3 10 rfl) rfl rfl ?_
  refine v_bipush (v := 15) X (xdec_at tL_refused_3 11 rfl) (by decide) ?_
  refine v_bipush (v := 40) X (xdec_at tL_refused_3 12 rfl) (by decide) ?_
  refine v_iconst (v := 0) X (xdec_at tL_refused_3 13 rfl) (by decide) ?_
  refine v_iconst (v := 0) X (xdec_at tL_refused_3 14 rfl) (by decide) ?_
  refine v_iconst (v := 0) X (xdec_at tL_refused_3 15 rfl) (by decide) ?_
  refine v_wC X hE mw_call [.ref (l14 (0, 0)), .int 15, .int 40, .int 0, .int 0, .int 0] [] (call_W rfl (ckE_claim_1 hl0 hL (show (M_claim μ 40).2.1 38 0 = 1 from by unfold M_claim; rw [if_neg (notT_40 hL.I)]; exact th_38 μ 1))) (xw_at tW_6 13 rfl) rfl (by rfl) (Nat.le_of_ble_eq_true rfl) (xdec_at tL_refused_3 16 rfl) ⟨(Nat.le_of_ble_eq_true rfl), (Nat.le_of_ble_eq_true rfl)⟩ ⟨(Nat.le_of_ble_eq_true rfl), (Nat.le_of_ble_eq_true rfl)⟩ ?_
  rintro v9 l15 C9 ⟨rfl, y_l15, rfl⟩
  rw [← y_l15.1, ← y_l15.2.2 (300, 0) (by decide) (by decide)]
  refine v_ldc (v := -2000000001) X (xw_at tW_12 0 rfl) (xdec_at tL_refused_3 17 rfl) ?_
  refine v_icmp_ne (tgt := 242) X (xdec_at tL_refused_3 18 rfl) (by decide) (fun h9 => absurd rfl h9) (fun _ => ?_)
  refine v_iconst (v := 1) X (xdec_at tL_refused_3 19 rfl) (by decide) ?_
  refine v_goto (tgt := 243) X (xdec_at tL_refused_3 20 rfl) (by decide) ?_
  refine v_istore (lv' := [some (.ref (l15 (0, 0))), some (.ref (l15 (300, 0))), some (.long (hA μ)), none, some (.int 1)]) X (xdec_at tL_refused_3 22 rfl) (by decide) rfl ?_
  refine v_iload X (xdec_at tL_refused_3 23 rfl) rfl ?_
  refine v_if_eq (tgt := 405) X (xdec_at tL_refused_3 24 rfl) (by decide) (fun h9 => absurd h9 (by decide)) (fun _ => ?_)
  refine v_aload_n X (xdec_at tL_refused_3 25 rfl) rfl rfl ?_
  refine v_bipush (v := 17) X (xdec_at tL_refused_3 26 rfl) (by decide) ?_
  refine v_iconst (v := 0) X (xdec_at tL_refused_3 27 rfl) (by decide) ?_
  refine v_bipush (v := 8) X (xdec_at tL_refused_3 28 rfl) (by decide) ?_
  refine v_iconst (v := 1) X (xdec_at tL_refused_3 29 rfl) (by decide) ?_
  refine v_iconst (v := 0) X (xdec_at tL_refused_3 30 rfl) (by decide) ?_
  refine v_wC X hE mw_call [.ref (l15 (0, 0)), .int 17, .int 0, .int 8, .int 1, .int 0] [] (call_W rfl (ckE_rate_1 hl0 hL (show (M_rate μ 0 8 1 (bo 0)).2.1 38 0 = 1 from by unfold M_rate; rw [if_neg (notP_8 hL.I)]; exact th_38 μ 1))) (xw_at tW_6 13 rfl) rfl (by rfl) (Nat.le_of_ble_eq_true rfl) (xdec_at tL_refused_3 31 rfl) ⟨(Nat.le_of_ble_eq_true rfl), (Nat.le_of_ble_eq_true rfl)⟩ ⟨(Nat.le_of_ble_eq_true rfl), (Nat.le_of_ble_eq_true rfl)⟩ ?_
  rintro v9 l16 C9 ⟨rfl, y_l16, rfl⟩
  rw [← y_l16.1, ← y_l16.2.2 (300, 0) (by decide) (by decide)]
  refine v_ldc (v := -2000000001) X (xw_at tW_12 0 rfl) (xdec_at tL_refused_3 32 rfl) ?_
  refine v_icmp_ne (tgt := 405) X (xdec_at tL_refused_3 33 rfl) (by decide) (fun h9 => absurd rfl h9) (fun _ => ?_)
  refine v_aload_n X (xdec_at tL_refused_3 34 rfl) rfl rfl ?_
  refine v_bipush (v := 18) X (xdec_at tL_refused_3 35 rfl) (by decide) ?_
  refine v_bipush (v := 40) X (xdec_at tL_refused_3 36 rfl) (by decide) ?_
  refine v_iconst (v := 0) X (xdec_at tL_refused_3 37 rfl) (by decide) ?_
  refine v_iconst (v := 0) X (xdec_at tL_refused_3 38 rfl) (by decide) ?_
  refine v_iconst (v := 0) X (xdec_at tL_refused_3 39 rfl) (by decide) ?_
  refine v_wC X hE mw_call [.ref (l16 (0, 0)), .int 18, .int 40, .int 0, .int 0, .int 0] [] (call_W rfl (ckE_hand_1 hl0 hL (show (M_hand μ 40 0).2.1 38 0 = 1 from by unfold M_hand; rw [if_neg (fun q9 => notT_40 hL.I q9.1)]; exact th_38 μ 1))) (xw_at tW_6 13 rfl) rfl (by rfl) (Nat.le_of_ble_eq_true rfl) (xdec_at tL_refused_4 0 rfl) ⟨(Nat.le_of_ble_eq_true rfl), (Nat.le_of_ble_eq_true rfl)⟩ ⟨(Nat.le_of_ble_eq_true rfl), (Nat.le_of_ble_eq_true rfl)⟩ ?_
  rintro v9 l17 C9 ⟨rfl, y_l17, rfl⟩
  rw [← y_l17.1, ← y_l17.2.2 (300, 0) (by decide) (by decide)]
  refine v_ldc (v := -2000000001) X (xw_at tW_12 0 rfl) (xdec_at tL_refused_4 1 rfl) ?_
  refine v_icmp_ne (tgt := 405) X (xdec_at tL_refused_4 2 rfl) (by decide) (fun h9 => absurd rfl h9) (fun _ => ?_)
  refine v_aload_n X (xdec_at tL_refused_4 3 rfl) rfl rfl ?_
  refine v_bipush (v := 19) X (xdec_at tL_refused_4 4 rfl) (by decide) ?_
  refine v_iconst (v := 3) X (xdec_at tL_refused_4 5 rfl) (by decide) ?_
  refine v_iconst (v := 0) X (xdec_at tL_refused_4 6 rfl) (by decide) ?_
  refine v_iconst (v := 0) X (xdec_at tL_refused_4 7 rfl) (by decide) ?_
  refine v_iconst (v := 0) X (xdec_at tL_refused_4 8 rfl) (by decide) ?_
  refine v_wC X hE mw_call [.ref (l17 (0, 0)), .int 19, .int 3, .int 0, .int 0, .int 0] [] (call_W rfl (ckE_gain_1 hl0 hL (show (M_gain μ 3).2.1 38 0 = 1 from by unfold M_gain; rw [if_neg (by decide)]; exact th_38 μ 1))) (xw_at tW_6 13 rfl) rfl (by rfl) (Nat.le_of_ble_eq_true rfl) (xdec_at tL_refused_4 9 rfl) ⟨(Nat.le_of_ble_eq_true rfl), (Nat.le_of_ble_eq_true rfl)⟩ ⟨(Nat.le_of_ble_eq_true rfl), (Nat.le_of_ble_eq_true rfl)⟩ ?_
  rintro v9 l18 C9 ⟨rfl, y_l18, rfl⟩
  rw [← y_l18.1, ← y_l18.2.2 (300, 0) (by decide) (by decide)]
  refine v_ldc (v := -2000000002) X (xw_at tW_12 1 rfl) (xdec_at tL_refused_4 10 rfl) ?_
  refine v_icmp_ne (tgt := 405) X (xdec_at tL_refused_4 11 rfl) (by decide) (fun h9 => absurd rfl h9) (fun _ => ?_)
  refine v_aload_n X (xdec_at tL_refused_4 12 rfl) rfl rfl ?_
  refine v_iconst (v := 0) X (xdec_at tL_refused_4 13 rfl) (by decide) ?_
  refine v_bipush (v := 8) X (xdec_at tL_refused_4 14 rfl) (by decide) ?_
  refine v_iconst (v := 0) X (xdec_at tL_refused_4 15 rfl) (by decide) ?_
  refine v_iconst (v := 1) X (xdec_at tL_refused_4 16 rfl) (by decide) ?_
  refine v_iconst (v := 0) X (xdec_at tL_refused_4 17 rfl) (by decide) ?_
  refine v_iconst (v := 0) X (xdec_at tL_refused_4 18 rfl) (by decide) ?_
  have e_l19 : (M_mail μ 0 8 0 1 0 (bo 0)).2.1 38 0 = 1 := by unfold M_mail; rw [if_neg (fun q9 => notP_8 hL.I q9.1)]; exact th_38 μ 1
  have hm_l19 : MailOK l Z B0 μ tb 0 8 0 1 0 0 (-2000000001) μ tb := by
    intro lay r hr2
    refine mail_of hl0 hL.I hL.K hr2 (hL.M hk) (fun q9 => absurd (e_l19.symm.trans q9) (by decide)) ?_
    rintro E (⟨rfl, h9⟩ | ⟨rfl, h9⟩ | ⟨rfl, h9⟩)
    · exact ⟨rfl, Or.inl ⟨rfl, rfl⟩⟩
    · exact absurd (e_l19.symm.trans h9) (by decide)
    · exact absurd (e_l19.symm.trans h9) (by decide)
  refine v_wC X hE mw_mail [.ref (l18 (0, 0)), .int 0, .int 8, .int 0, .int 1, .int 0, .int 0] [] (mail_W rfl hm_l19) (xw_at tW_12 8 rfl) rfl (by rfl) (Nat.le_of_ble_eq_true rfl) (xdec_at tL_refused_4 19 rfl) ⟨(Nat.le_of_ble_eq_true rfl), (Nat.le_of_ble_eq_true rfl)⟩ ⟨(Nat.le_of_ble_eq_true rfl), (Nat.le_of_ble_eq_true rfl)⟩ ?_
  rintro v9 l19 C9 ⟨rfl, y_l19, rfl⟩
  rw [← y_l19.1, ← y_l19.2.2 (300, 0) (by decide) (by decide)]
  refine v_ldc (v := -2000000001) X (xw_at tW_12 0 rfl) (xdec_at tL_refused_4 20 rfl) ?_
  refine v_icmp_ne (tgt := 405) X (xdec_at tL_refused_4 21 rfl) (by decide) (fun h9 => absurd rfl h9) (fun _ => ?_)
  refine v_aload_n X (xdec_at tL_refused_4 22 rfl) rfl rfl ?_
  refine v_iconst (v := 0) X (xdec_at tL_refused_4 23 rfl) (by decide) ?_
  refine v_iconst (v := 0) X (xdec_at tL_refused_4 24 rfl) (by decide) ?_
  refine v_iconst (v := (-1)) X (xdec_at tL_refused_4 25 rfl) (by decide) ?_
  refine v_iconst (v := 1) X (xdec_at tL_refused_4 26 rfl) (by decide) ?_
  refine v_iconst (v := 0) X (xdec_at tL_refused_4 27 rfl) (by decide) ?_
  refine v_iconst (v := 0) X (xdec_at tL_refused_4 28 rfl) (by decide) ?_
  have e_l20 : (M_mail μ 0 0 (-1) 1 0 (bo 0)).2.1 38 0 = 1 := by unfold M_mail; rw [if_neg (fun q9 => notP_m hL.I q9.2)]; exact th_38 μ 1
  have hm_l20 : MailOK l Z B0 μ tb 0 0 (-1) 1 0 0 (-2000000001) μ tb := by
    intro lay r hr2
    refine mail_of hl0 hL.I hL.K hr2 (hL.M hk) (fun q9 => absurd (e_l20.symm.trans q9) (by decide)) ?_
    rintro E (⟨rfl, h9⟩ | ⟨rfl, h9⟩ | ⟨rfl, h9⟩)
    · exact ⟨rfl, Or.inl ⟨rfl, rfl⟩⟩
    · exact absurd (e_l20.symm.trans h9) (by decide)
    · exact absurd (e_l20.symm.trans h9) (by decide)
  refine v_wC X hE mw_mail [.ref (l19 (0, 0)), .int 0, .int 0, .int (-1), .int 1, .int 0, .int 0] [] (mail_W rfl hm_l20) (xw_at tW_12 8 rfl) rfl (by rfl) (Nat.le_of_ble_eq_true rfl) (xdec_at tL_refused_4 29 rfl) ⟨(Nat.le_of_ble_eq_true rfl), (Nat.le_of_ble_eq_true rfl)⟩ ⟨(Nat.le_of_ble_eq_true rfl), (Nat.le_of_ble_eq_true rfl)⟩ ?_
  rintro v9 l20 C9 ⟨rfl, y_l20, rfl⟩
  rw [← y_l20.1, ← y_l20.2.2 (300, 0) (by decide) (by decide)]
  refine v_ldc (v := -2000000001) X (xw_at tW_12 0 rfl) (xdec_at tL_refused_4 30 rfl) ?_
  refine v_icmp_ne (tgt := 405) X (xdec_at tL_refused_4 31 rfl) (by decide) (fun h9 => absurd rfl h9) (fun _ => ?_)
  refine v_aload_n X (xdec_at tL_refused_4 32 rfl) rfl rfl ?_
  refine v_iconst (v := 0) X (xdec_at tL_refused_4 33 rfl) (by decide) ?_
  refine v_iconst (v := 0) X (xdec_at tL_refused_4 34 rfl) (by decide) ?_
  refine v_iconst (v := 0) X (xdec_at tL_refused_4 35 rfl) (by decide) ?_
  have e_l21 : (M_settle μ 0).2.1 38 0 = 1 := by unfold M_settle; rw [if_neg (by decide)]; exact th_38 μ 1
  have hm_l21 : LongOK l Z B0 μ tb 0 0 0 (-9000000000000000002) μ := by
    intro lay r
    refine long_settle hl0 hL.I hL.K (fun q9 => absurd (e_l21.symm.trans q9) (by decide)) ?_
    rintro E ⟨rfl, h9⟩
    exact ⟨rfl, Or.inr ⟨rfl, rfl⟩⟩
  refine v_wC X hE mw_long0 [.ref (l20 (0, 0)), .int 0, .int 0, .int 0] [] (long_W hm_l21) (xw_at tW_13 36 rfl) rfl (by rfl) (Nat.le_of_ble_eq_true rfl) (xdec_at tL_refused_4 36 rfl) ⟨(Nat.le_of_ble_eq_true rfl), (Nat.le_of_ble_eq_true rfl)⟩ ⟨(Nat.le_of_ble_eq_true rfl), (Nat.le_of_ble_eq_true rfl)⟩ ?_
  rintro v9 l21 C9 ⟨rfl, y_l21, rfl⟩
  rw [← y_l21.1, ← y_l21.2.2 (300, 0) (by decide) (by decide)]
  refine v_ldc2 (v := -9000000000000000002) X (xw_at tW_14 6 rfl) (xdec_at tL_refused_4 37 rfl) ?_
  refine v_lcmp X (xdec_at tL_refused_4 38 rfl) ?_
  refine v_if_ne (tgt := 405) X (xdec_at tL_refused_4 39 rfl) (by decide) (fun h9 => absurd (lcz rfl) h9) (fun _ => ?_)
  refine v_aload_n X (xdec_at tL_refused_5 0 rfl) rfl rfl ?_
  refine v_iconst (v := 1) X (xdec_at tL_refused_5 1 rfl) (by decide) ?_
  refine v_bipush (v := 40) X (xdec_at tL_refused_5 2 rfl) (by decide) ?_
  refine v_iconst (v := 0) X (xdec_at tL_refused_5 3 rfl) (by decide) ?_
  have e_l22 : (M_ofThing μ 40 0).2.1 38 0 = 1 := by unfold M_ofThing; rw [if_neg (notT_40 hL.I)]; exact th_38 μ 1
  have hm_l22 : LongOK l Z B0 μ tb 1 40 0 (-9000000000000000001) μ := by
    intro lay r
    refine long_ofThing hl0 hL.I hL.K (fun q9 => absurd (e_l22.symm.trans q9) (by decide)) ?_
    rintro E (⟨rfl, h9⟩ | ⟨rfl, h9⟩)
    · exact ⟨rfl, Or.inl ⟨rfl, rfl⟩⟩
    · exact absurd (e_l22.symm.trans h9) (by decide)
  refine v_wC X hE mw_long0 [.ref (l21 (0, 0)), .int 1, .int 40, .int 0] [] (long_W hm_l22) (xw_at tW_13 36 rfl) rfl (by rfl) (Nat.le_of_ble_eq_true rfl) (xdec_at tL_refused_5 4 rfl) ⟨(Nat.le_of_ble_eq_true rfl), (Nat.le_of_ble_eq_true rfl)⟩ ⟨(Nat.le_of_ble_eq_true rfl), (Nat.le_of_ble_eq_true rfl)⟩ ?_
  rintro v9 l22 C9 ⟨rfl, y_l22, rfl⟩
  rw [← y_l22.1, ← y_l22.2.2 (300, 0) (by decide) (by decide)]
  refine v_ldc2 (v := -9000000000000000001) X (xw_at tW_14 5 rfl) (xdec_at tL_refused_5 5 rfl) ?_
  refine v_lcmp X (xdec_at tL_refused_5 6 rfl) ?_
  refine v_if_ne (tgt := 405) X (xdec_at tL_refused_5 7 rfl) (by decide) (fun h9 => absurd (lcz rfl) h9) (fun _ => ?_)
  refine v_aload_n X (xdec_at tL_refused_5 8 rfl) rfl rfl ?_
  refine v_iconst (v := 2) X (xdec_at tL_refused_5 9 rfl) (by decide) ?_
  refine v_bipush (v := 8) X (xdec_at tL_refused_5 10 rfl) (by decide) ?_
  refine v_iconst (v := 0) X (xdec_at tL_refused_5 11 rfl) (by decide) ?_
  have e_l23 : (M_account μ 8).2.1 38 0 = 1 := by unfold M_account; rw [if_neg (notP_8 hL.I)]; exact th_38 μ 1
  have hm_l23 : LongOK l Z B0 μ tb 2 8 0 (-9000000000000000001) μ := by
    intro lay r
    refine long_account hl0 hL.I hL.K (fun q9 => absurd (e_l23.symm.trans q9) (by decide)) ?_
    rintro E ⟨rfl, h9⟩
    exact ⟨rfl, Or.inl ⟨rfl, rfl⟩⟩
  refine v_wC X hE mw_long0 [.ref (l22 (0, 0)), .int 2, .int 8, .int 0] [] (long_W hm_l23) (xw_at tW_13 36 rfl) rfl (by rfl) (Nat.le_of_ble_eq_true rfl) (xdec_at tL_refused_5 12 rfl) ⟨(Nat.le_of_ble_eq_true rfl), (Nat.le_of_ble_eq_true rfl)⟩ ⟨(Nat.le_of_ble_eq_true rfl), (Nat.le_of_ble_eq_true rfl)⟩ ?_
  rintro v9 l23 C9 ⟨rfl, y_l23, rfl⟩
  rw [← y_l23.1, ← y_l23.2.2 (300, 0) (by decide) (by decide)]
  refine v_ldc2 (v := -9000000000000000001) X (xw_at tW_14 5 rfl) (xdec_at tL_refused_5 13 rfl) ?_
  refine v_lcmp X (xdec_at tL_refused_5 14 rfl) ?_
  refine v_if_ne (tgt := 405) X (xdec_at tL_refused_5 15 rfl) (by decide) (fun h9 => absurd (lcz rfl) h9) (fun _ => ?_)
  refine v_aload_n X (xdec_at tL_refused_5 16 rfl) rfl rfl ?_
  refine v_iconst (v := 3) X (xdec_at tL_refused_5 17 rfl) (by decide) ?_
  refine v_iconst (v := (-1)) X (xdec_at tL_refused_5 18 rfl) (by decide) ?_
  refine v_iconst (v := 0) X (xdec_at tL_refused_5 19 rfl) (by decide) ?_
  have e_l24 : (M_till μ (-1)).2.1 38 0 = 1 := by unfold M_till; rw [if_neg (notP_m hL.I)]; exact th_38 μ 1
  have hm_l24 : LongOK l Z B0 μ tb 3 (-1) 0 (-9000000000000000001) μ := by
    intro lay r
    refine long_till hl0 hL.I hL.K (fun q9 => absurd (e_l24.symm.trans q9) (by decide)) ?_
    rintro E ⟨rfl, h9⟩
    exact ⟨rfl, Or.inl ⟨rfl, rfl⟩⟩
  refine v_wC X hE mw_long0 [.ref (l23 (0, 0)), .int 3, .int (-1), .int 0] [] (long_W hm_l24) (xw_at tW_13 36 rfl) rfl (by rfl) (Nat.le_of_ble_eq_true rfl) (xdec_at tL_refused_5 20 rfl) ⟨(Nat.le_of_ble_eq_true rfl), (Nat.le_of_ble_eq_true rfl)⟩ ⟨(Nat.le_of_ble_eq_true rfl), (Nat.le_of_ble_eq_true rfl)⟩ ?_
  rintro v9 l24 C9 ⟨rfl, y_l24, rfl⟩
  rw [← y_l24.1, ← y_l24.2.2 (300, 0) (by decide) (by decide)]
  refine v_ldc2 (v := -9000000000000000001) X (xw_at tW_14 5 rfl) (xdec_at tL_refused_5 21 rfl) ?_
  refine v_lcmp X (xdec_at tL_refused_5 22 rfl) ?_
  refine v_if_ne (tgt := 405) X (xdec_at tL_refused_5 23 rfl) (by decide) (fun h9 => absurd (lcz rfl) h9) (fun _ => ?_)
  refine v_aload_n X (xdec_at tL_refused_5 24 rfl) rfl rfl ?_
  refine v_iconst (v := 4) X (xdec_at tL_refused_5 25 rfl) (by decide) ?_
  refine v_bipush (v := 8) X (xdec_at tL_refused_5 26 rfl) (by decide) ?_
  refine v_iconst (v := 0) X (xdec_at tL_refused_5 27 rfl) (by decide) ?_
  have e_l25 : (M_counted μ 8 0).2.1 38 0 = 1 := by unfold M_counted; rw [if_neg (fun q9 => notP_8 hL.I q9.1)]; exact th_38 μ 1
  have hm_l25 : LongOK l Z B0 μ tb 4 8 0 (-9000000000000000001) μ := by
    intro lay r
    refine long_counted hl0 hL.I hL.K (fun q9 => absurd (e_l25.symm.trans q9) (by decide)) ?_
    rintro E ⟨rfl, h9⟩
    exact ⟨rfl, Or.inl ⟨rfl, rfl⟩⟩
  refine v_wC X hE mw_long0 [.ref (l24 (0, 0)), .int 4, .int 8, .int 0] [] (long_W hm_l25) (xw_at tW_13 36 rfl) rfl (by rfl) (Nat.le_of_ble_eq_true rfl) (xdec_at tL_refused_5 28 rfl) ⟨(Nat.le_of_ble_eq_true rfl), (Nat.le_of_ble_eq_true rfl)⟩ ⟨(Nat.le_of_ble_eq_true rfl), (Nat.le_of_ble_eq_true rfl)⟩ ?_
  rintro v9 l25 C9 ⟨rfl, y_l25, rfl⟩
  rw [← y_l25.1, ← y_l25.2.2 (300, 0) (by decide) (by decide)]
  refine v_ldc2 (v := -9000000000000000001) X (xw_at tW_14 5 rfl) (xdec_at tL_refused_5 29 rfl) ?_
  refine v_lcmp X (xdec_at tL_refused_5 30 rfl) ?_
  refine v_if_ne (tgt := 405) X (xdec_at tL_refused_5 31 rfl) (by decide) (fun h9 => absurd (lcz rfl) h9) (fun _ => ?_)
  refine v_iconst (v := 1) X (xdec_at tL_refused_5 32 rfl) (by decide) ?_
  refine v_goto (tgt := 406) X (xdec_at tL_refused_5 33 rfl) (by decide) ?_
  refine v_istore (lv' := [some (.ref (l25 (0, 0))), some (.ref (l25 (300, 0))), some (.long (hA μ)), none, some (.int 1)]) X (xdec_at tL_refused_5 35 rfl) (by decide) rfl ?_
  refine v_aload_n X (xdec_at tL_refused_5 36 rfl) rfl rfl ?_
  refine v_iconst (v := 0) X (xdec_at tL_refused_5 37 rfl) (by decide) ?_
  refine x_iald (v := nI (nP μ)) X (300, 0) W2_d (vp_in_nI (n := 0) (N := 3) (by decide) (by decide)) rfl hf.1 (xdec_at tL_refused_5 38 rfl) ?_
  refine v_iconst (v := 1) X (xdec_at tL_refused_5 39 rfl) (by decide) ?_
  refine v_icmp_le (tgt := 565) X (xdec_at tL_refused_6 0 rfl) (by decide) (fun c_412 => ?_) (fun c_412 => ?_)
  · refine v_iload X (xdec_at tL_refused_8 10 rfl) rfl ?_
    refine v_if_eq (tgt := 584) X (xdec_at tL_refused_8 11 rfl) (by decide) (fun h9 => absurd h9 (by decide)) (fun _ => ?_)
    refine v_aload_n X (xdec_at tL_refused_8 12 rfl) rfl rfl ?_
    refine v_aload_n X (xdec_at tL_refused_8 13 rfl) rfl rfl ?_
    refine v_wL X hE myL_all [.ref (l25 (0, 0)), .ref (l25 (300, 0))] [] (all_W hl0 hL.I hL.K hL.S hf) (xw_at tW_2 31 rfl) rfl rfl (by rfl) (Nat.le_of_ble_eq_true rfl) (xdec_at tL_refused_8 14 rfl) ⟨(Nat.le_of_ble_eq_true rfl), (Nat.le_of_ble_eq_true rfl)⟩ ⟨(Nat.le_of_ble_eq_true rfl), (Nat.le_of_ble_eq_true rfl)⟩ ?_
    rintro v9 lay9 C9 ⟨rfl, rfl, rfl⟩
    refine v_lload_n X (xdec_at tL_refused_8 15 rfl) rfl rfl ?_
    refine v_lcmp X (xdec_at tL_refused_8 16 rfl) ?_
    refine v_if_ne (tgt := 584) X (xdec_at tL_refused_8 17 rfl) (by decide) (fun h9 => absurd (lcz rfl) h9) (fun _ => ?_)
    refine v_iconst (v := 1) X (xdec_at tL_refused_8 18 rfl) (by decide) ?_
    refine v_goto (tgt := 585) X (xdec_at tL_refused_8 19 rfl) (by decide) ?_
    exact v_xr (v_zret X hr (xdec_at tL_refused_8 21 rfl) (Nat.le_of_ble_eq_true rfl) (Nat.le_of_ble_eq_true rfl) (by rfl) ⟨rfl, (lyL_tr (lyL_tr (lyL_tr (lyL_tr (lyL_tr (lyL_tr (lyL_tr (lyL_tr (lyL_tr (lyL_tr (lyL_tr (lyL_tr (lyL_tr (lyL_tr (lyL_tr (lyL_tr (lyL_tr (lyL_tr (lyL_tr (lyL_tr (lyL_tr (lyL_tr (lyL_tr (lyL_tr y_l1 y_l2) y_l3) y_l4) y_l5) y_l6) y_l7) y_l8) y_l9) y_l10) y_l11) y_l12) y_l13) y_l14) y_l15) y_l16) y_l17) y_l18) y_l19) y_l20) y_l21) y_l22) y_l23) y_l24) y_l25), rfl⟩)
  · have hP2 : 1 < nP μ := Nat.not_le.mp (fun q9 => c_412 (nI_le (b := 1) q9 (by decide)))
    have hp0 : isP μ 0 := (isP_n (p := 0) hL.I (by omega)).1
    have hp1 : isP μ 1 := (isP_n (p := 1) hL.I (by omega)).1
    refine v_iload X (xdec_at tL_refused_6 1 rfl) rfl ?_
    refine v_if_eq (tgt := 562) X (xdec_at tL_refused_6 2 rfl) (by decide) (fun h9 => absurd h9 (by decide)) (fun _ => ?_)
    refine v_aload_n X (xdec_at tL_refused_6 3 rfl) rfl rfl ?_
    refine v_iconst (v := 1) X (xdec_at tL_refused_6 4 rfl) (by decide) ?_
    refine v_iconst (v := 0) X (xdec_at tL_refused_6 5 rfl) (by decide) ?_
    refine v_iconst (v := 3) X (xdec_at tL_refused_6 6 rfl) (by decide) ?_
    refine v_iconst (v := 0) X (xdec_at tL_refused_6 7 rfl) (by decide) ?_
    refine v_iconst (v := 0) X (xdec_at tL_refused_6 8 rfl) (by decide) ?_
    refine v_wC X hE mw_call [.ref (l25 (0, 0)), .int 1, .int 0, .int 3, .int 0, .int 0] [] (call_W rfl (ckE_rates_2 hl0 hL (show (M_rates μ 0 3 0 0).1 38 0 = 2 from by unfold M_rates; rw [if_pos hp0, if_neg (by decide)]; exact th_38 _ 2))) (xw_at tW_6 13 rfl) rfl (by rfl) (Nat.le_of_ble_eq_true rfl) (xdec_at tL_refused_6 9 rfl) ⟨(Nat.le_of_ble_eq_true rfl), (Nat.le_of_ble_eq_true rfl)⟩ ⟨(Nat.le_of_ble_eq_true rfl), (Nat.le_of_ble_eq_true rfl)⟩ ?_
    rintro v9 l26 C9 ⟨rfl, y_l26, rfl⟩
    rw [← y_l26.1, ← y_l26.2.2 (300, 0) (by decide) (by decide)]
    refine v_ldc (v := -2000000002) X (xw_at tW_12 1 rfl) (xdec_at tL_refused_6 10 rfl) ?_
    refine v_icmp_ne (tgt := 562) X (xdec_at tL_refused_6 11 rfl) (by decide) (fun h9 => absurd rfl h9) (fun _ => ?_)
    refine v_aload_n X (xdec_at tL_refused_6 12 rfl) rfl rfl ?_
    refine v_iconst (v := 2) X (xdec_at tL_refused_6 13 rfl) (by decide) ?_
    refine v_iconst (v := 0) X (xdec_at tL_refused_6 14 rfl) (by decide) ?_
    refine v_iconst (v := 0) X (xdec_at tL_refused_6 15 rfl) (by decide) ?_
    refine v_sipush (v := 10001) X (xdec_at tL_refused_6 16 rfl) (by decide) ?_
    refine v_iconst (v := 0) X (xdec_at tL_refused_6 17 rfl) (by decide) ?_
    refine v_wC X hE mw_call [.ref (l26 (0, 0)), .int 2, .int 0, .int 0, .int 10001, .int 0] [] (call_W rfl (ckE_due_2 hl0 hL (show (M_due μ 0 0 10001).2.1 38 0 = 2 from by unfold M_due; rw [if_pos hp0, if_neg (by decide)]; exact th_38 _ 2))) (xw_at tW_6 13 rfl) rfl (by rfl) (Nat.le_of_ble_eq_true rfl) (xdec_at tL_refused_6 18 rfl) ⟨(Nat.le_of_ble_eq_true rfl), (Nat.le_of_ble_eq_true rfl)⟩ ⟨(Nat.le_of_ble_eq_true rfl), (Nat.le_of_ble_eq_true rfl)⟩ ?_
    rintro v9 l27 C9 ⟨rfl, y_l27, rfl⟩
    rw [← y_l27.1, ← y_l27.2.2 (300, 0) (by decide) (by decide)]
    refine v_ldc (v := -2000000002) X (xw_at tW_12 1 rfl) (xdec_at tL_refused_6 19 rfl) ?_
    refine v_icmp_ne (tgt := 562) X (xdec_at tL_refused_6 20 rfl) (by decide) (fun h9 => absurd rfl h9) (fun _ => ?_)
    refine v_aload_n X (xdec_at tL_refused_6 21 rfl) rfl rfl ?_
    refine v_iconst (v := 3) X (xdec_at tL_refused_6 22 rfl) (by decide) ?_
    refine v_iconst (v := 0) X (xdec_at tL_refused_6 23 rfl) (by decide) ?_
    refine v_iconst (v := (-1)) X (xdec_at tL_refused_6 24 rfl) (by decide) ?_
    refine v_iconst (v := 0) X (xdec_at tL_refused_6 25 rfl) (by decide) ?_
    refine v_iconst (v := 0) X (xdec_at tL_refused_6 26 rfl) (by decide) ?_
    refine v_wC X hE mw_call [.ref (l27 (0, 0)), .int 3, .int 0, .int (-1), .int 0, .int 0] [] (call_W rfl (ckE_charge_2 hl0 hL (show (M_charge μ 0 (-1)).2.1 38 0 = 2 from by unfold M_charge; rw [if_pos hp0, if_neg (by decide)]; exact th_38 _ 2))) (xw_at tW_6 13 rfl) rfl (by rfl) (Nat.le_of_ble_eq_true rfl) (xdec_at tL_refused_6 27 rfl) ⟨(Nat.le_of_ble_eq_true rfl), (Nat.le_of_ble_eq_true rfl)⟩ ⟨(Nat.le_of_ble_eq_true rfl), (Nat.le_of_ble_eq_true rfl)⟩ ?_
    rintro v9 l28 C9 ⟨rfl, y_l28, rfl⟩
    rw [← y_l28.1, ← y_l28.2.2 (300, 0) (by decide) (by decide)]
    refine v_ldc (v := -2000000002) X (xw_at tW_12 1 rfl) (xdec_at tL_refused_6 28 rfl) ?_
    refine v_icmp_ne (tgt := 562) X (xdec_at tL_refused_6 29 rfl) (by decide) (fun h9 => absurd rfl h9) (fun _ => ?_)
    refine v_aload_n X (xdec_at tL_refused_6 30 rfl) rfl rfl ?_
    refine v_iconst (v := 4) X (xdec_at tL_refused_6 31 rfl) (by decide) ?_
    refine v_iconst (v := 0) X (xdec_at tL_refused_6 32 rfl) (by decide) ?_
    refine v_sipush (v := 10001) X (xdec_at tL_refused_6 33 rfl) (by decide) ?_
    refine v_iconst (v := 0) X (xdec_at tL_refused_6 34 rfl) (by decide) ?_
    refine v_iconst (v := 0) X (xdec_at tL_refused_6 35 rfl) (by decide) ?_
    refine v_wC X hE mw_call [.ref (l28 (0, 0)), .int 4, .int 0, .int 10001, .int 0, .int 0] [] (call_W rfl (ckE_coupon_2 hl0 hL (show (M_coupon μ 0 10001).2.1 38 0 = 2 from by unfold M_coupon; rw [if_pos hp0, if_neg (by decide)]; exact th_38 _ 2))) (xw_at tW_6 13 rfl) rfl (by rfl) (Nat.le_of_ble_eq_true rfl) (xdec_at tL_refused_6 36 rfl) ⟨(Nat.le_of_ble_eq_true rfl), (Nat.le_of_ble_eq_true rfl)⟩ ⟨(Nat.le_of_ble_eq_true rfl), (Nat.le_of_ble_eq_true rfl)⟩ ?_
    rintro v9 l29 C9 ⟨rfl, y_l29, rfl⟩
    rw [← y_l29.1, ← y_l29.2.2 (300, 0) (by decide) (by decide)]
    refine v_ldc (v := -2000000002) X (xw_at tW_12 1 rfl) (xdec_at tL_refused_6 37 rfl) ?_
    refine v_icmp_ne (tgt := 562) X (xdec_at tL_refused_6 38 rfl) (by decide) (fun h9 => absurd rfl h9) (fun _ => ?_)
    refine v_aload_n X (xdec_at tL_refused_6 39 rfl) rfl rfl ?_
    refine v_bipush (v := 6) X (xdec_at tL_refused_7 0 rfl) (by decide) ?_
    refine v_iconst (v := 0) X (xdec_at tL_refused_7 1 rfl) (by decide) ?_
    refine v_iconst (v := 0) X (xdec_at tL_refused_7 2 rfl) (by decide) ?_
    refine v_iconst (v := 1) X (xdec_at tL_refused_7 3 rfl) (by decide) ?_
    refine v_iconst (v := 0) X (xdec_at tL_refused_7 4 rfl) (by decide) ?_
    refine v_wC X hE mw_call [.ref (l29 (0, 0)), .int 6, .int 0, .int 0, .int 1, .int 0] [] (call_W rfl (ckE_leg_2 hl0 hL (show (M_leg μ 0 0 1).2.1 38 0 = 2 from by unfold M_leg; rw [if_pos ⟨hp0, hp0⟩, if_pos (Or.inl rfl)]; exact th_38 _ 2))) (xw_at tW_6 13 rfl) rfl (by rfl) (Nat.le_of_ble_eq_true rfl) (xdec_at tL_refused_7 5 rfl) ⟨(Nat.le_of_ble_eq_true rfl), (Nat.le_of_ble_eq_true rfl)⟩ ⟨(Nat.le_of_ble_eq_true rfl), (Nat.le_of_ble_eq_true rfl)⟩ ?_
    rintro v9 l30 C9 ⟨rfl, y_l30, rfl⟩
    rw [← y_l30.1, ← y_l30.2.2 (300, 0) (by decide) (by decide)]
    refine v_ldc (v := -2000000002) X (xw_at tW_12 1 rfl) (xdec_at tL_refused_7 6 rfl) ?_
    refine v_icmp_ne (tgt := 562) X (xdec_at tL_refused_7 7 rfl) (by decide) (fun h9 => absurd rfl h9) (fun _ => ?_)
    refine v_aload_n X (xdec_at tL_refused_7 8 rfl) rfl rfl ?_
    refine v_bipush (v := 6) X (xdec_at tL_refused_7 9 rfl) (by decide) ?_
    refine v_iconst (v := 0) X (xdec_at tL_refused_7 10 rfl) (by decide) ?_
    refine v_iconst (v := 1) X (xdec_at tL_refused_7 11 rfl) (by decide) ?_
    refine v_bipush (v := 101) X (xdec_at tL_refused_7 12 rfl) (by decide) ?_
    refine v_iconst (v := 0) X (xdec_at tL_refused_7 13 rfl) (by decide) ?_
    refine v_wC X hE mw_call [.ref (l30 (0, 0)), .int 6, .int 0, .int 1, .int 101, .int 0] [] (call_W rfl (ckE_leg_2 hl0 hL (show (M_leg μ 0 1 101).2.1 38 0 = 2 from by unfold M_leg; rw [if_pos ⟨hp0, hp1⟩, if_pos (Or.inr (by decide))]; exact th_38 _ 2))) (xw_at tW_6 13 rfl) rfl (by rfl) (Nat.le_of_ble_eq_true rfl) (xdec_at tL_refused_7 14 rfl) ⟨(Nat.le_of_ble_eq_true rfl), (Nat.le_of_ble_eq_true rfl)⟩ ⟨(Nat.le_of_ble_eq_true rfl), (Nat.le_of_ble_eq_true rfl)⟩ ?_
    rintro v9 l31 C9 ⟨rfl, y_l31, rfl⟩
    rw [← y_l31.1, ← y_l31.2.2 (300, 0) (by decide) (by decide)]
    refine v_ldc (v := -2000000002) X (xw_at tW_12 1 rfl) (xdec_at tL_refused_7 15 rfl) ?_
    refine v_icmp_ne (tgt := 562) X (xdec_at tL_refused_7 16 rfl) (by decide) (fun h9 => absurd rfl h9) (fun _ => ?_)
    refine v_aload_n X (xdec_at tL_refused_7 17 rfl) rfl rfl ?_
    refine v_bipush (v := 17) X (xdec_at tL_refused_7 18 rfl) (by decide) ?_
    refine v_iconst (v := 1) X (xdec_at tL_refused_7 19 rfl) (by decide) ?_
    refine v_iconst (v := 0) X (xdec_at tL_refused_7 20 rfl) (by decide) ?_
    refine v_bipush (v := 21) X (xdec_at tL_refused_7 21 rfl) (by decide) ?_
    refine v_iconst (v := 0) X (xdec_at tL_refused_7 22 rfl) (by decide) ?_
    refine v_wC X hE mw_call [.ref (l31 (0, 0)), .int 17, .int 1, .int 0, .int 21, .int 0] [] (call_W rfl (ckE_rate_2 hl0 hL (show (M_rate μ 1 0 21 (bo 0)).2.1 38 0 = 2 from by unfold M_rate; rw [if_pos hp0, if_neg (by decide)]; exact th_38 _ 2))) (xw_at tW_6 13 rfl) rfl (by rfl) (Nat.le_of_ble_eq_true rfl) (xdec_at tL_refused_7 23 rfl) ⟨(Nat.le_of_ble_eq_true rfl), (Nat.le_of_ble_eq_true rfl)⟩ ⟨(Nat.le_of_ble_eq_true rfl), (Nat.le_of_ble_eq_true rfl)⟩ ?_
    rintro v9 l32 C9 ⟨rfl, y_l32, rfl⟩
    rw [← y_l32.1, ← y_l32.2.2 (300, 0) (by decide) (by decide)]
    refine v_ldc (v := -2000000002) X (xw_at tW_12 1 rfl) (xdec_at tL_refused_7 24 rfl) ?_
    refine v_icmp_ne (tgt := 562) X (xdec_at tL_refused_7 25 rfl) (by decide) (fun h9 => absurd rfl h9) (fun _ => ?_)
    refine v_aload_n X (xdec_at tL_refused_7 26 rfl) rfl rfl ?_
    refine v_iconst (v := 0) X (xdec_at tL_refused_7 27 rfl) (by decide) ?_
    refine v_iconst (v := 0) X (xdec_at tL_refused_7 28 rfl) (by decide) ?_
    refine v_iconst (v := 0) X (xdec_at tL_refused_7 29 rfl) (by decide) ?_
    refine v_iconst (v := 1) X (xdec_at tL_refused_7 30 rfl) (by decide) ?_
    refine v_iconst (v := 0) X (xdec_at tL_refused_7 31 rfl) (by decide) ?_
    refine v_iconst (v := 0) X (xdec_at tL_refused_7 32 rfl) (by decide) ?_
    have e_l33 : (M_mail μ 0 0 0 1 0 (bo 0)).2.1 38 0 = 2 := by unfold M_mail; rw [if_pos ⟨hp0, hp0⟩, if_pos (by decide)]; exact th_38 _ 2
    have hm_l33 : MailOK l Z B0 μ tb 0 0 0 1 0 0 (-2000000002) μ tb := by
      intro lay r hr2
      refine mail_of hl0 hL.I hL.K hr2 (hL.M hk) (fun q9 => absurd (e_l33.symm.trans q9) (by decide)) ?_
      rintro E (⟨rfl, h9⟩ | ⟨rfl, h9⟩ | ⟨rfl, h9⟩)
      · exact absurd (e_l33.symm.trans h9) (by decide)
      · exact ⟨rfl, Or.inr (Or.inl ⟨rfl, rfl⟩)⟩
      · exact absurd (e_l33.symm.trans h9) (by decide)
    refine v_wC X hE mw_mail [.ref (l32 (0, 0)), .int 0, .int 0, .int 0, .int 1, .int 0, .int 0] [] (mail_W rfl hm_l33) (xw_at tW_12 8 rfl) rfl (by rfl) (Nat.le_of_ble_eq_true rfl) (xdec_at tL_refused_7 33 rfl) ⟨(Nat.le_of_ble_eq_true rfl), (Nat.le_of_ble_eq_true rfl)⟩ ⟨(Nat.le_of_ble_eq_true rfl), (Nat.le_of_ble_eq_true rfl)⟩ ?_
    rintro v9 l33 C9 ⟨rfl, y_l33, rfl⟩
    rw [← y_l33.1, ← y_l33.2.2 (300, 0) (by decide) (by decide)]
    refine v_ldc (v := -2000000002) X (xw_at tW_12 1 rfl) (xdec_at tL_refused_7 34 rfl) ?_
    refine v_icmp_ne (tgt := 562) X (xdec_at tL_refused_7 35 rfl) (by decide) (fun h9 => absurd rfl h9) (fun _ => ?_)
    refine v_aload_n X (xdec_at tL_refused_7 36 rfl) rfl rfl ?_
    refine v_iconst (v := 1) X (xdec_at tL_refused_7 37 rfl) (by decide) ?_
    refine v_iconst (v := 0) X (xdec_at tL_refused_7 38 rfl) (by decide) ?_
    refine v_iconst (v := 1) X (xdec_at tL_refused_7 39 rfl) (by decide) ?_
    refine v_bipush (v := 21) X (xdec_at tL_refused_8 0 rfl) (by decide) ?_
    refine v_iconst (v := 0) X (xdec_at tL_refused_8 1 rfl) (by decide) ?_
    refine v_iconst (v := 0) X (xdec_at tL_refused_8 2 rfl) (by decide) ?_
    have e_l34 : (M_mail μ 1 0 1 21 0 (bo 0)).2.1 38 0 = 2 := by unfold M_mail; rw [if_pos ⟨hp0, hp1⟩, if_pos (by decide)]; exact th_38 _ 2
    have hm_l34 : MailOK l Z B0 μ tb 1 0 1 21 0 0 (-2000000002) μ tb := by
      intro lay r hr2
      refine mail_of hl0 hL.I hL.K hr2 (hL.M hk) (fun q9 => absurd (e_l34.symm.trans q9) (by decide)) ?_
      rintro E (⟨rfl, h9⟩ | ⟨rfl, h9⟩ | ⟨rfl, h9⟩)
      · exact absurd (e_l34.symm.trans h9) (by decide)
      · exact ⟨rfl, Or.inr (Or.inl ⟨rfl, rfl⟩)⟩
      · exact absurd (e_l34.symm.trans h9) (by decide)
    refine v_wC X hE mw_mail [.ref (l33 (0, 0)), .int 1, .int 0, .int 1, .int 21, .int 0, .int 0] [] (mail_W rfl hm_l34) (xw_at tW_12 8 rfl) rfl (by rfl) (Nat.le_of_ble_eq_true rfl) (xdec_at tL_refused_8 3 rfl) ⟨(Nat.le_of_ble_eq_true rfl), (Nat.le_of_ble_eq_true rfl)⟩ ⟨(Nat.le_of_ble_eq_true rfl), (Nat.le_of_ble_eq_true rfl)⟩ ?_
    rintro v9 l34 C9 ⟨rfl, y_l34, rfl⟩
    rw [← y_l34.1, ← y_l34.2.2 (300, 0) (by decide) (by decide)]
    refine v_ldc (v := -2000000002) X (xw_at tW_12 1 rfl) (xdec_at tL_refused_8 4 rfl) ?_
    refine v_icmp_ne (tgt := 562) X (xdec_at tL_refused_8 5 rfl) (by decide) (fun h9 => absurd rfl h9) (fun _ => ?_)
    refine v_iconst (v := 1) X (xdec_at tL_refused_8 6 rfl) (by decide) ?_
    refine v_goto (tgt := 563) X (xdec_at tL_refused_8 7 rfl) (by decide) ?_
    refine v_istore (lv' := [some (.ref (l34 (0, 0))), some (.ref (l34 (300, 0))), some (.long (hA μ)), none, some (.int 1)]) X (xdec_at tL_refused_8 9 rfl) (by decide) rfl ?_
    refine v_iload X (xdec_at tL_refused_8 10 rfl) rfl ?_
    refine v_if_eq (tgt := 584) X (xdec_at tL_refused_8 11 rfl) (by decide) (fun h9 => absurd h9 (by decide)) (fun _ => ?_)
    refine v_aload_n X (xdec_at tL_refused_8 12 rfl) rfl rfl ?_
    refine v_aload_n X (xdec_at tL_refused_8 13 rfl) rfl rfl ?_
    refine v_wL X hE myL_all [.ref (l34 (0, 0)), .ref (l34 (300, 0))] [] (all_W hl0 hL.I hL.K hL.S hf) (xw_at tW_2 31 rfl) rfl rfl (by rfl) (Nat.le_of_ble_eq_true rfl) (xdec_at tL_refused_8 14 rfl) ⟨(Nat.le_of_ble_eq_true rfl), (Nat.le_of_ble_eq_true rfl)⟩ ⟨(Nat.le_of_ble_eq_true rfl), (Nat.le_of_ble_eq_true rfl)⟩ ?_
    rintro v9 lay9 C9 ⟨rfl, rfl, rfl⟩
    refine v_lload_n X (xdec_at tL_refused_8 15 rfl) rfl rfl ?_
    refine v_lcmp X (xdec_at tL_refused_8 16 rfl) ?_
    refine v_if_ne (tgt := 584) X (xdec_at tL_refused_8 17 rfl) (by decide) (fun h9 => absurd (lcz rfl) h9) (fun _ => ?_)
    refine v_iconst (v := 1) X (xdec_at tL_refused_8 18 rfl) (by decide) ?_
    refine v_goto (tgt := 585) X (xdec_at tL_refused_8 19 rfl) (by decide) ?_
    exact v_xr (v_zret X hr (xdec_at tL_refused_8 21 rfl) (Nat.le_of_ble_eq_true rfl) (Nat.le_of_ble_eq_true rfl) (by rfl) ⟨rfl, (lyL_tr (lyL_tr (lyL_tr (lyL_tr (lyL_tr (lyL_tr (lyL_tr (lyL_tr (lyL_tr (lyL_tr (lyL_tr (lyL_tr (lyL_tr (lyL_tr (lyL_tr (lyL_tr (lyL_tr (lyL_tr (lyL_tr (lyL_tr (lyL_tr (lyL_tr (lyL_tr (lyL_tr (lyL_tr (lyL_tr (lyL_tr (lyL_tr (lyL_tr (lyL_tr (lyL_tr (lyL_tr (lyL_tr y_l1 y_l2) y_l3) y_l4) y_l5) y_l6) y_l7) y_l8) y_l9) y_l10) y_l11) y_l12) y_l13) y_l14) y_l15) y_l16) y_l17) y_l18) y_l19) y_l20) y_l21) y_l22) y_l23) y_l24) y_l25) y_l26) y_l27) y_l28) y_l29) y_l30) y_l31) y_l32) y_l33) y_l34), rfl⟩)
