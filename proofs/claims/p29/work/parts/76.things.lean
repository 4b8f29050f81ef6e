/-! the law's things -/
theorem vp_ne {a : Int32} {n : Nat} (h : vp_in a n) (hn : n < 2 ^ 31 := by decide) : ¬ a = -2000000001 ∧ ¬ a = -2000000002 ∧ ¬ a = -2000000003 := by
  have h1 := nI_toInt (n := ix a) (Nat.lt_trans (in_ix h) hn)
  rw [in_eq h hn] at h1
  refine ⟨?_, ?_, ?_⟩ <;> intro z <;> rw [z] at h1
  · have h2 : ((-2000000001 : Int32)).toInt = -2000000001 := by decide
    omega
  · have h2 : ((-2000000002 : Int32)).toInt = -2000000002 := by decide
    omega
  · have h2 : ((-2000000003 : Int32)).toInt = -2000000003 := by decide
    omega
theorem st_gt {a : Int32} (h : a = 0 ∨ a = 1 ∨ a = 2 ∨ a = 3) (hu : ¬ (a = 0 ∨ a = 1)) : 1 < a ∧ 2 ≤ a := by
  rcases h with rfl | rfl | rfl | rfl
  · exact absurd (Or.inl rfl) hu
  · exact absurd (Or.inr rfl) hu
  · decide
  · decide
theorem st_lt {a : Int32} (hu : a = 0 ∨ a = 1) : ¬ 1 < a ∧ ¬ 2 ≤ a ∧ ¬ a = 3 := by
  rcases hu with rfl | rfl <;> decide
set_option maxRecDepth 100000 in
set_option maxHeartbeats 8000000 in
theorem c_things {l : Launch} (hl0 : l.stackTraces = false) {Z : xZ} {B0 : Nat} {lay : xK → Nat} {μ : Mu} {tb : Tb} {k : Nat} (x z : Int32) (hL : LJ μ tb k) (hk : k < 400) (hg : 0 < nG μ → 3 ≤ nP μ) (hP3 : 3 ≤ nP μ) : YL l yL_things cL_things 17 (some FieldType.boolean) 23 850 900 7000 Z B0 [.ref (lay (0, 0)), .ref (lay (500, 0)), .ref (lay (300, 0)), .int x, .int z] lay (W2 Z lay μ tb μ tb (dR Z (dv μ))) (LPo Z lay tb k) := by
  have hP8 := nP8 hL.I
  have hG20 := nG20 hL.I
  have hT40 := nT40 hL.I
  have hf := dv_F hL.I
  refine YL_of myL_things.2 RL rfl [some (.ref (lay (0, 0))), some (.ref (lay (500, 0))), some (.ref (lay (300, 0))), some (.int x), some (.int z), none, none, none, none, none, none, none, none, none, none, none, none] rfl (Nat.le_of_ble_eq_true rfl) ?_
  intro P1 P2 P3 P4 P5 P6 P7 P8 X hr hE
  refine v_aload_n X (xdec_at tL_things_0 0 rfl) rfl rfl ?_
  refine v_iconst (v := 2) X (xdec_at tL_things_0 1 rfl) (by decide) ?_
  refine x_iald (v := nI (nT μ)) X (300, 0) W2_d (vp_in_nI (n := 2) (N := 3) (by decide) (by decide)) rfl hf.2.2 (xdec_at tL_things_0 2 rfl) ?_
  refine v_if_ne (tgt := 72) X (xdec_at tL_things_0 3 rfl) (by decide) (fun c_3 => ?_) (fun c_3 => ?_)
  · have hT1 : 0 < nT μ := Nat.pos_of_ne_zero (fun q9 => c_3 (by rw [q9]; rfl))
    refine v_iload X (xdec_at tL_things_1 4 rfl) rfl ?_
    refine v_aload_n X (xdec_at tL_things_1 5 rfl) rfl rfl ?_
    refine v_iconst (v := 2) X (xdec_at tL_things_1 6 rfl) (by decide) ?_
    refine x_iald (v := nI (nT μ)) X (300, 0) W2_d (vp_in_nI (n := 2) (N := 3) (by decide) (by decide)) rfl hf.2.2 (xdec_at tL_things_1 7 rfl) ?_
    refine v_wL X hE myL_some [.int z, .int (nI (nT μ))] [] (c_some z (n := nT μ) (by omega) (by omega)) (xw_at tW_2 29 rfl) rfl rfl (by rfl) (Nat.le_of_ble_eq_true rfl) (xdec_at tL_things_1 8 rfl) ⟨(Nat.le_of_ble_eq_true rfl), (Nat.le_of_ble_eq_true rfl)⟩ ⟨(Nat.le_of_ble_eq_true rfl), (Nat.le_of_ble_eq_true rfl)⟩ ?_
    rintro v9 lay9 C9 ⟨rfl, rfl, u0, hu0, rfl⟩
    refine v_istore (lv' := [some (.ref (lay (0, 0))), some (.ref (lay (500, 0))), some (.ref (lay (300, 0))), some (.int x), some (.int z), some (.int (nI u0)), none, none, none, none, none, none, none, none, none, none, none]) X (xdec_at tL_things_1 9 rfl) (by decide) rfl ?_
    refine v_iload_n X (xdec_at tL_things_1 10 rfl) rfl rfl ?_
    refine v_bipush (v := 8) X (xdec_at tL_things_1 11 rfl) (by decide) ?_
    refine v_wL X hE myL_some [.int x, .int (nI 8)] [] (c_some x (n := 8) (by decide) (by decide)) (xw_at tW_2 29 rfl) rfl rfl (by rfl) (Nat.le_of_ble_eq_true rfl) (xdec_at tL_things_1 12 rfl) ⟨(Nat.le_of_ble_eq_true rfl), (Nat.le_of_ble_eq_true rfl)⟩ ⟨(Nat.le_of_ble_eq_true rfl), (Nat.le_of_ble_eq_true rfl)⟩ ?_
    rintro v9 lay9 C9 ⟨rfl, rfl, u1, hu1, rfl⟩
    refine v_istore (lv' := [some (.ref (lay (0, 0))), some (.ref (lay (500, 0))), some (.ref (lay (300, 0))), some (.int x), some (.int z), some (.int (nI u0)), some (.int (nI u1)), none, none, none, none, none, none, none, none, none, none]) X (xdec_at tL_things_1 13 rfl) (by decide) rfl ?_
    have g1 := isT_n hL.I hu0
    have hTP := hL.T hu0
    have h40 : u0 < 40 := by omega
    refine v_aload_n X (xdec_at tL_things_1 14 rfl) rfl rfl ?_
    refine v_iload X (xdec_at tL_things_1 15 rfl) rfl ?_
    refine v_iconst (v := 0) X (xdec_at tL_things_1 16 rfl) (by decide) ?_
    refine v_wN X hE myX4_ofThing [.int (nI u0), .int 0] [] (qy_ofThing (t := u0) (w := 0) hl0 hL.I hL.K hu0 (by decide)) (xw_at tW_5 30 rfl) (0, 0) cX_X rfl rfl rfl rfl (by rfl) (Nat.le_of_ble_eq_true rfl) (xdec_at tL_things_1 17 rfl) ⟨(Nat.le_of_ble_eq_true rfl), (Nat.le_of_ble_eq_true rfl)⟩ ⟨(Nat.le_of_ble_eq_true rfl), (Nat.le_of_ble_eq_true rfl)⟩ ?_
    rintro v9 lay9 C9 ⟨rfl, rfl, rfl⟩
    refine v_l2i (v := μ.1 23 u0) X (xdec_at tL_things_1 18 rfl) (Int32.toInt32_toInt64 _) ?_
    refine v_istore (lv' := [some (.ref (lay (0, 0))), some (.ref (lay (500, 0))), some (.ref (lay (300, 0))), some (.int x), some (.int z), some (.int (nI u0)), some (.int (nI u1)), some (.int (μ.1 23 u0)), none, none, none, none, none, none, none, none, none]) X (xdec_at tL_things_1 19 rfl) (by decide) rfl ?_
    refine v_aload_n X (xdec_at tL_things_1 20 rfl) rfl rfl ?_
    refine v_iload X (xdec_at tL_things_1 21 rfl) rfl ?_
    refine v_iconst (v := 1) X (xdec_at tL_things_1 22 rfl) (by decide) ?_
    refine v_wN X hE myX4_ofThing [.int (nI u0), .int 1] [] (qy_ofThing (t := u0) (w := 1) hl0 hL.I hL.K hu0 (by decide)) (xw_at tW_5 30 rfl) (0, 0) cX_X rfl rfl rfl rfl (by rfl) (Nat.le_of_ble_eq_true rfl) (xdec_at tL_things_1 23 rfl) ⟨(Nat.le_of_ble_eq_true rfl), (Nat.le_of_ble_eq_true rfl)⟩ ⟨(Nat.le_of_ble_eq_true rfl), (Nat.le_of_ble_eq_true rfl)⟩ ?_
    rintro v9 lay9 C9 ⟨rfl, rfl, rfl⟩
    refine v_l2i (v := μ.1 24 u0) X (xdec_at tL_things_1 24 rfl) (Int32.toInt32_toInt64 _) ?_
    refine v_istore (lv' := [some (.ref (lay (0, 0))), some (.ref (lay (500, 0))), some (.ref (lay (300, 0))), some (.int x), some (.int z), some (.int (nI u0)), some (.int (nI u1)), some (.int (μ.1 23 u0)), some (.int (μ.1 24 u0)), none, none, none, none, none, none, none, none]) X (xdec_at tL_things_1 25 rfl) (by decide) rfl ?_
    refine v_aload_n X (xdec_at tL_things_1 26 rfl) rfl rfl ?_
    refine v_iload X (xdec_at tL_things_1 27 rfl) rfl ?_
    refine v_iconst (v := 3) X (xdec_at tL_things_1 28 rfl) (by decide) ?_
    refine v_wN X hE myX4_ofThing [.int (nI u0), .int 3] [] (qy_ofThing (t := u0) (w := 3) hl0 hL.I hL.K hu0 (by decide)) (xw_at tW_5 30 rfl) (0, 0) cX_X rfl rfl rfl rfl (by rfl) (Nat.le_of_ble_eq_true rfl) (xdec_at tL_things_1 29 rfl) ⟨(Nat.le_of_ble_eq_true rfl), (Nat.le_of_ble_eq_true rfl)⟩ ⟨(Nat.le_of_ble_eq_true rfl), (Nat.le_of_ble_eq_true rfl)⟩ ?_
    rintro v9 lay9 C9 ⟨rfl, rfl, rfl⟩
    refine v_l2i (v := μ.1 19 u0) X (xdec_at tL_things_1 30 rfl) (Int32.toInt32_toInt64 _) ?_
    refine v_istore (lv' := [some (.ref (lay (0, 0))), some (.ref (lay (500, 0))), some (.ref (lay (300, 0))), some (.int x), some (.int z), some (.int (nI u0)), some (.int (nI u1)), some (.int (μ.1 23 u0)), some (.int (μ.1 24 u0)), some (.int (μ.1 19 u0)), none, none, none, none, none, none, none]) X (xdec_at tL_things_1 31 rfl) (by decide) rfl ?_
    refine v_aload_n X (xdec_at tL_things_1 32 rfl) rfl rfl ?_
    refine v_iload X (xdec_at tL_things_1 33 rfl) rfl ?_
    refine v_iconst (v := 5) X (xdec_at tL_things_1 34 rfl) (by decide) ?_
    refine v_wN X hE myX4_ofThing [.int (nI u0), .int 5] [] (qy_ofThing (t := u0) (w := 5) hl0 hL.I hL.K hu0 (by decide)) (xw_at tW_5 30 rfl) (0, 0) cX_X rfl rfl rfl rfl (by rfl) (Nat.le_of_ble_eq_true rfl) (xdec_at tL_things_1 35 rfl) ⟨(Nat.le_of_ble_eq_true rfl), (Nat.le_of_ble_eq_true rfl)⟩ ⟨(Nat.le_of_ble_eq_true rfl), (Nat.le_of_ble_eq_true rfl)⟩ ?_
    rintro v9 lay9 C9 ⟨rfl, rfl, rfl⟩
    refine v_lconst (v := 1) X (xdec_at tL_things_1 36 rfl) (by decide) ?_
    by_cases h27 : μ.1 27 u0 = 0
    · refine v_lcmp X (xdec_at tL_things_1 37 rfl) ?_
      refine v_if_ne (tgt := 136) X (xdec_at tL_things_1 38 rfl) (by decide) (fun _ => ?_) (fun h9 => absurd h9 (show ¬ lg_cmp (if μ.1 27 u0 = 0 then 0 else 1) 1 = 0 from by rw [if_pos h27]; decide))
      refine v_iconst (v := 0) X (xdec_at tL_things_2 1 rfl) (by decide) ?_
      refine v_istore (lv' := [some (.ref (lay (0, 0))), some (.ref (lay (500, 0))), some (.ref (lay (300, 0))), some (.int x), some (.int z), some (.int (nI u0)), some (.int (nI u1)), some (.int (μ.1 23 u0)), some (.int (μ.1 24 u0)), some (.int (μ.1 19 u0)), some (.int 0), none, none, none, none, none, none]) X (xdec_at tL_things_2 2 rfl) (by decide) rfl ?_
      refine v_iload X (xdec_at tL_things_2 3 rfl) rfl ?_
      refine v_iconst (v := 3) X (xdec_at tL_things_2 4 rfl) (by decide) ?_
      refine v_icmp_ge (tgt := 280) X (xdec_at tL_things_2 5 rfl) (by decide) (fun c_142 => ?_) (fun c_142 => ?_)
      · refine v_iload X (xdec_at tL_things_3 34 rfl) rfl ?_
        refine v_iconst (v := 5) X (xdec_at tL_things_3 35 rfl) (by decide) ?_
        refine v_icmp_ge (tgt := 386) X (xdec_at tL_things_3 36 rfl) (by decide) (fun c_283 => ?_) (fun c_283 => ?_)
        · refine v_aload_n X (xdec_at tL_things_5 10 rfl) rfl rfl ?_
          refine v_iload X (xdec_at tL_things_5 11 rfl) rfl ?_
          refine v_bipush (v := 6) X (xdec_at tL_things_5 12 rfl) (by decide) ?_
          refine v_wN X hE myX4_ofThing [.int (nI u0), .int 6] [] (qy_ofThing (t := u0) (w := 6) hl0 hL.I hL.K hu0 (by decide)) (xw_at tW_5 30 rfl) (0, 0) cX_X rfl rfl rfl rfl (by rfl) (Nat.le_of_ble_eq_true rfl) (xdec_at tL_things_5 13 rfl) ⟨(Nat.le_of_ble_eq_true rfl), (Nat.le_of_ble_eq_true rfl)⟩ ⟨(Nat.le_of_ble_eq_true rfl), (Nat.le_of_ble_eq_true rfl)⟩ ?_
          rintro v9 lay9 C9 ⟨rfl, rfl, rfl⟩
          refine v_l2i (v := μ.1 35 u0) X (xdec_at tL_things_5 14 rfl) (Int32.toInt32_toInt64 _) ?_
          refine v_istore (lv' := [some (.ref (lay (0, 0))), some (.ref (lay (500, 0))), some (.ref (lay (300, 0))), some (.int x), some (.int z), some (.int (nI u0)), some (.int (nI u1)), some (.int (μ.1 23 u0)), some (.int (μ.1 24 u0)), some (.int (μ.1 19 u0)), some (.int 0), some (.int (μ.1 35 u0)), none, none, none, none, none]) X (xdec_at tL_things_5 15 rfl) (by decide) rfl ?_
          refine v_iload X (xdec_at tL_things_5 16 rfl) rfl ?_
          refine v_bipush (v := 6) X (xdec_at tL_things_5 17 rfl) (by decide) ?_
          refine v_icmp_ge (tgt := 571) X (xdec_at tL_things_5 18 rfl) (by decide) (fun c_401 => ?_) (fun c_401 => ?_)
          · refine v_aload_n X (xdec_at tL_things_7 30 rfl) rfl rfl ?_
            refine v_aload_n X (xdec_at tL_things_7 31 rfl) rfl rfl ?_
            refine v_iconst (v := 2) X (xdec_at tL_things_7 32 rfl) (by decide) ?_
            refine v_wL X hE myL_sums [.ref (lay (0, 0)), .ref (lay (300, 0)), .int 2] [] (sums2_W hl0 hL.I hf rfl) (xw_at tW_13 28 rfl) rfl rfl (by rfl) (Nat.le_of_ble_eq_true rfl) (xdec_at tL_things_7 33 rfl) ⟨(Nat.le_of_ble_eq_true rfl), (Nat.le_of_ble_eq_true rfl)⟩ ⟨(Nat.le_of_ble_eq_true rfl), (Nat.le_of_ble_eq_true rfl)⟩ ?_
            rintro v9 lay9 C9 ⟨rfl, rfl, rfl⟩
            refine v_lstore (lv' := [some (.ref (lay (0, 0))), some (.ref (lay (500, 0))), some (.ref (lay (300, 0))), some (.int x), some (.int z), some (.int (nI u0)), some (.int (nI u1)), some (.int (μ.1 23 u0)), some (.int (μ.1 24 u0)), some (.int (μ.1 19 u0)), some (.int 0), some (.int (μ.1 35 u0)), some (.long (sm (μ.2 7) (nP μ))), none, none, none, none]) X (xdec_at tL_things_7 34 rfl) (by decide) rfl ?_
            refine v_aload_n X (xdec_at tL_things_7 35 rfl) rfl rfl ?_
            refine v_aload_n X (xdec_at tL_things_7 36 rfl) rfl rfl ?_
            refine v_iconst (v := 3) X (xdec_at tL_things_7 37 rfl) (by decide) ?_
            refine v_wL X hE myL_sums [.ref (lay (0, 0)), .ref (lay (300, 0)), .int 3] [] (sums3_W hl0 hL.I hf rfl) (xw_at tW_13 28 rfl) rfl rfl (by rfl) (Nat.le_of_ble_eq_true rfl) (xdec_at tL_things_7 38 rfl) ⟨(Nat.le_of_ble_eq_true rfl), (Nat.le_of_ble_eq_true rfl)⟩ ⟨(Nat.le_of_ble_eq_true rfl), (Nat.le_of_ble_eq_true rfl)⟩ ?_
            rintro v9 lay9 C9 ⟨rfl, rfl, rfl⟩
            refine v_lstore (lv' := [some (.ref (lay (0, 0))), some (.ref (lay (500, 0))), some (.ref (lay (300, 0))), some (.int x), some (.int z), some (.int (nI u0)), some (.int (nI u1)), some (.int (μ.1 23 u0)), some (.int (μ.1 24 u0)), some (.int (μ.1 19 u0)), some (.int 0), some (.int (μ.1 35 u0)), some (.long (sm (μ.2 7) (nP μ))), none, some (.long (sm (μ.2 8) (nP μ))), none, none]) X (xdec_at tL_things_7 39 rfl) (by decide) rfl ?_
            by_cases hc : ¬ μ.1 23 u0 = 3 ∨ μ.1 21 u0 = 0 ∨ ¬ μ.1 29 u0 = 0
            · refine v_aload_n X (xdec_at tL_things_8 0 rfl) rfl rfl ?_
              refine v_aload_n X (xdec_at tL_things_8 1 rfl) rfl rfl ?_
              refine v_bipush (v := 15) X (xdec_at tL_things_8 2 rfl) (by decide) ?_
              refine v_iload X (xdec_at tL_things_8 3 rfl) rfl ?_
              refine v_iconst (v := 0) X (xdec_at tL_things_8 4 rfl) (by decide) ?_
              refine v_iconst (v := 0) X (xdec_at tL_things_8 5 rfl) (by decide) ?_
              refine v_iconst (v := 0) X (xdec_at tL_things_8 6 rfl) (by decide) ?_
              refine v_wL X hE myL_both [.ref (lay (0, 0)), .ref (lay (500, 0)), .int 15, .int (nI u0), .int 0, .int 0, .int 0] [] (both_of rfl (ckE_claim_2 hl0 hL (show (M_claim μ (nI u0)).2.1 38 0 = 2 from by unfold M_claim; rw [if_pos g1.1, g1.2, if_pos hc]; exact th_38 _ 2))) (xw_at tW_6 11 rfl) rfl rfl (by rfl) (Nat.le_of_ble_eq_true rfl) (xdec_at tL_things_8 7 rfl) ⟨(Nat.le_of_ble_eq_true rfl), (Nat.le_of_ble_eq_true rfl)⟩ ⟨(Nat.le_of_ble_eq_true rfl), (Nat.le_of_ble_eq_true rfl)⟩ ?_
              rintro v9 l1 C9 ⟨rfl, y_l1, rfl⟩
              rw [← y_l1.1, ← y_l1.2.1, ← y_l1.2.2 (300, 0) (by decide) (by decide)]
              refine v_istore (lv' := [some (.ref (l1 (0, 0))), some (.ref (l1 (500, 0))), some (.ref (l1 (300, 0))), some (.int x), some (.int z), some (.int (nI u0)), some (.int (nI u1)), some (.int (μ.1 23 u0)), some (.int (μ.1 24 u0)), some (.int (μ.1 19 u0)), some (.int 0), some (.int (μ.1 35 u0)), some (.long (sm (μ.2 7) (nP μ))), none, some (.long (sm (μ.2 8) (nP μ))), none, some (.int (-2000000003))]) X (xdec_at tL_things_8 8 rfl) (by decide) rfl ?_
              refine v_iload X (xdec_at tL_things_8 9 rfl) rfl ?_
              refine v_ldc (v := -2000000003) X (xw_at tW_12 2 rfl) (xdec_at tL_things_8 10 rfl) ?_
              refine v_icmp_ne (tgt := 638) X (xdec_at tL_things_8 11 rfl) (by decide) (fun h9 => absurd h9 (by decide)) (fun _ => ?_)
              refine v_aload_n X (xdec_at tL_things_8 12 rfl) rfl rfl ?_
              refine v_aload_n X (xdec_at tL_things_8 13 rfl) rfl rfl ?_
              refine v_iconst (v := 3) X (xdec_at tL_things_8 14 rfl) (by decide) ?_
              refine v_wL X hE myL_sums [.ref (l1 (0, 0)), .ref (l1 (300, 0)), .int 3] [] (sums3_W hl0 hL.I hf rfl) (xw_at tW_13 28 rfl) rfl rfl (by rfl) (Nat.le_of_ble_eq_true rfl) (xdec_at tL_things_8 15 rfl) ⟨(Nat.le_of_ble_eq_true rfl), (Nat.le_of_ble_eq_true rfl)⟩ ⟨(Nat.le_of_ble_eq_true rfl), (Nat.le_of_ble_eq_true rfl)⟩ ?_
              rintro v9 lay9 C9 ⟨rfl, rfl, rfl⟩
              refine v_lload X (xdec_at tL_things_8 16 rfl) rfl ?_
              refine v_lcmp X (xdec_at tL_things_8 17 rfl) ?_
              refine v_if_ne (tgt := 636) X (xdec_at tL_things_8 18 rfl) (by decide) (fun h9 => absurd (lcz rfl) h9) (fun _ => ?_)
              refine v_aload_n X (xdec_at tL_things_8 19 rfl) rfl rfl ?_
              refine v_aload_n X (xdec_at tL_things_8 20 rfl) rfl rfl ?_
              refine v_iconst (v := 2) X (xdec_at tL_things_8 21 rfl) (by decide) ?_
              refine v_wL X hE myL_sums [.ref (l1 (0, 0)), .ref (l1 (300, 0)), .int 2] [] (sums2_W hl0 hL.I hf rfl) (xw_at tW_13 28 rfl) rfl rfl (by rfl) (Nat.le_of_ble_eq_true rfl) (xdec_at tL_things_8 22 rfl) ⟨(Nat.le_of_ble_eq_true rfl), (Nat.le_of_ble_eq_true rfl)⟩ ⟨(Nat.le_of_ble_eq_true rfl), (Nat.le_of_ble_eq_true rfl)⟩ ?_
              rintro v9 lay9 C9 ⟨rfl, rfl, rfl⟩
              refine v_lload X (xdec_at tL_things_8 23 rfl) rfl ?_
              refine v_lcmp X (xdec_at tL_things_8 24 rfl) ?_
              refine v_if_ne (tgt := 636) X (xdec_at tL_things_8 25 rfl) (by decide) (fun h9 => absurd (lcz rfl) h9) (fun _ => ?_)
              refine v_iconst (v := 1) X (xdec_at tL_things_8 26 rfl) (by decide) ?_
              refine v_goto (tgt := 637) X (xdec_at tL_things_8 27 rfl) (by decide) ?_
              exact v_xr (v_zret X hr (xdec_at tL_things_8 29 rfl) (Nat.le_of_ble_eq_true rfl) (Nat.le_of_ble_eq_true rfl) (by rfl) ⟨rfl, y_l1, μ, tb, rfl, hL.up.up, hg, Nat.le_refl _⟩)
            · refine v_aload_n X (xdec_at tL_things_8 0 rfl) rfl rfl ?_
              refine v_aload_n X (xdec_at tL_things_8 1 rfl) rfl rfl ?_
              refine v_bipush (v := 15) X (xdec_at tL_things_8 2 rfl) (by decide) ?_
              refine v_iload X (xdec_at tL_things_8 3 rfl) rfl ?_
              refine v_iconst (v := 0) X (xdec_at tL_things_8 4 rfl) (by decide) ?_
              refine v_iconst (v := 0) X (xdec_at tL_things_8 5 rfl) (by decide) ?_
              refine v_iconst (v := 0) X (xdec_at tL_things_8 6 rfl) (by decide) ?_
              have h3 : μ.1 23 u0 = 3 := Classical.not_not.mp (fun q9 => hc (Or.inl q9))
              have h21 : ¬ μ.1 21 u0 = 0 := fun q9 => hc (Or.inr (Or.inl q9))
              have h29 : μ.1 29 u0 = 0 := Classical.not_not.mp (fun q9 => hc (Or.inr (Or.inr q9)))
              obtain ⟨eM, hJ, e8⟩ := cm_claim hL (by omega) hu0 h3 h21 h29
              obtain ⟨v1, v2, v3, v4⟩ := claimS_view hL.I hL.K hu0
              obtain ⟨n, n1, n2, n3, n4, n5⟩ := hTP.2.2.2.2.2.1
              obtain ⟨an, han⟩ : ∃ an, an = (M_claimS μ u0).1 := ⟨_, rfl⟩
              obtain ⟨ν, hν⟩ : ∃ ν, ν = (M_claimS μ u0).2 := ⟨_, rfl⟩
              have eM9 : M_claim μ (nI u0) = (an, ν) := by rw [han, hν]; exact eM
              rw [← hν] at hJ e8 v1 v3
              rw [← han] at v2
              have eO : ∀ j, j ≠ 29 → ν.1 j = μ.1 j := fun j hj => by rw [v1]; exact up2_ne _ _ _ _ _ hj
              have nPn : nP ν = nP μ := by unfold nP; rw [eO 0 (by decide)]
              have nTn : nT ν = nT μ := by unfold nT; rw [eO 16 (by decide)]
              have hfn : dF (dv μ) ν := by unfold dF nP nG nT; rw [eO 0 (by decide), eO 10 (by decide), eO 16 (by decide)]; exact hf
              refine v_wL X hE myL_both [.ref (lay (0, 0)), .ref (lay (500, 0)), .int 15, .int (nI u0), .int 0, .int 0, .int 0] [] (both_of rfl (ckS_claim hl0 hL eM9 hJ.z)) (xw_at tW_6 11 rfl) rfl rfl (by rfl) (Nat.le_of_ble_eq_true rfl) (xdec_at tL_things_8 7 rfl) ⟨(Nat.le_of_ble_eq_true rfl), (Nat.le_of_ble_eq_true rfl)⟩ ⟨(Nat.le_of_ble_eq_true rfl), (Nat.le_of_ble_eq_true rfl)⟩ ?_
              rintro v9 l2 C9 ⟨rfl, y_l2, rfl⟩
              rw [← y_l2.1, ← y_l2.2.1, ← y_l2.2.2 (300, 0) (by decide) (by decide)]
              refine v_istore (lv' := [some (.ref (l2 (0, 0))), some (.ref (l2 (500, 0))), some (.ref (l2 (300, 0))), some (.int x), some (.int z), some (.int (nI u0)), some (.int (nI u1)), some (.int (μ.1 23 u0)), some (.int (μ.1 24 u0)), some (.int (μ.1 19 u0)), some (.int 0), some (.int (μ.1 35 u0)), some (.long (sm (μ.2 7) (nP μ))), none, some (.long (sm (μ.2 8) (nP μ))), none, some (.int an)]) X (xdec_at tL_things_8 8 rfl) (by decide) rfl ?_
              rcases v2 with v2 | v2 | v2
              · refine v_iload X (xdec_at tL_things_8 9 rfl) rfl ?_
                refine v_ldc (v := -2000000003) X (xw_at tW_12 2 rfl) (xdec_at tL_things_8 10 rfl) ?_
                refine v_icmp_ne (tgt := 638) X (xdec_at tL_things_8 11 rfl) (by decide) (fun _ => ?_) (fun h9 => absurd h9 (show ¬ _ = (-2000000003 : Int32) from by rw [v2]; decide))
                refine v_iload X (xdec_at tL_things_8 30 rfl) rfl ?_
                refine v_iconst (v := 3) X (xdec_at tL_things_8 31 rfl) (by decide) ?_
                refine v_icmp_ne (tgt := 718) X (xdec_at tL_things_8 32 rfl) (by decide) (fun h9 => absurd h3 h9) (fun _ => ?_)
                refine v_iload X (xdec_at tL_things_8 33 rfl) rfl ?_
                refine v_if_le (tgt := 718) X (xdec_at tL_things_8 34 rfl) (by decide) (fun h9 => absurd h9 (Int32.not_le.mpr (show 0 < μ.1 35 u0 from by rw [n2]; exact nI_lt (a := 0) (n5 h21).1 (by omega)))) (fun _ => ?_)
                refine v_iload X (xdec_at tL_things_8 35 rfl) rfl ?_
                refine v_if_eq (tgt := 670) X (xdec_at tL_things_8 36 rfl) (by decide) (fun _ => ?_) (fun h9 => absurd v2 h9)
                refine v_aload_n X (xdec_at tL_things_9 3 rfl) rfl rfl ?_
                refine v_aload_n X (xdec_at tL_things_9 4 rfl) rfl rfl ?_
                refine v_iconst (v := 3) X (xdec_at tL_things_9 5 rfl) (by decide) ?_
                refine v_wL X hE myL_sums [.ref (l2 (0, 0)), .ref (l2 (300, 0)), .int 3] [] (sums3_W hl0 hJ.I hfn rfl) (xw_at tW_13 28 rfl) rfl rfl (by rfl) (Nat.le_of_ble_eq_true rfl) (xdec_at tL_things_9 6 rfl) ⟨(Nat.le_of_ble_eq_true rfl), (Nat.le_of_ble_eq_true rfl)⟩ ⟨(Nat.le_of_ble_eq_true rfl), (Nat.le_of_ble_eq_true rfl)⟩ ?_
                rintro v9 lay9 C9 ⟨rfl, rfl, rfl⟩
                refine v_lload X (xdec_at tL_things_9 7 rfl) rfl ?_
                refine v_ldc2 (v := 4000) X (xw_at tW_13 33 rfl) (xdec_at tL_things_9 8 rfl) ?_
                refine v_lsub X (xdec_at tL_things_9 9 rfl) ?_
                refine v_lcmp X (xdec_at tL_things_9 10 rfl) ?_
                refine v_if_ne (tgt := 718) X (xdec_at tL_things_9 11 rfl) (by decide) (fun h9 => absurd (lcz (by rw [nPn]; exact e8)) h9) (fun _ => ?_)
                refine v_aload_n X (xdec_at tL_things_9 12 rfl) rfl rfl ?_
                refine v_aload_n X (xdec_at tL_things_9 13 rfl) rfl rfl ?_
                refine v_iconst (v := 2) X (xdec_at tL_things_9 14 rfl) (by decide) ?_
                refine v_wL X hE myL_sums [.ref (l2 (0, 0)), .ref (l2 (300, 0)), .int 2] [] (sums2_W hl0 hJ.I hfn rfl) (xw_at tW_13 28 rfl) rfl rfl (by rfl) (Nat.le_of_ble_eq_true rfl) (xdec_at tL_things_9 15 rfl) ⟨(Nat.le_of_ble_eq_true rfl), (Nat.le_of_ble_eq_true rfl)⟩ ⟨(Nat.le_of_ble_eq_true rfl), (Nat.le_of_ble_eq_true rfl)⟩ ?_
                rintro v9 lay9 C9 ⟨rfl, rfl, rfl⟩
                refine v_lload X (xdec_at tL_things_9 16 rfl) rfl ?_
                refine v_lcmp X (xdec_at tL_things_9 17 rfl) ?_
                refine v_if_ne (tgt := 718) X (xdec_at tL_things_9 18 rfl) (by decide) (fun h9 => absurd (lcz (by rw [nPn]; exact v3)) h9) (fun _ => ?_)
                refine v_aload_n X (xdec_at tL_things_9 19 rfl) rfl rfl ?_
                refine v_bipush (v := 15) X (xdec_at tL_things_9 20 rfl) (by decide) ?_
                refine v_iload X (xdec_at tL_things_9 21 rfl) rfl ?_
                refine v_iconst (v := 0) X (xdec_at tL_things_9 22 rfl) (by decide) ?_
                refine v_iconst (v := 0) X (xdec_at tL_things_9 23 rfl) (by decide) ?_
                refine v_iconst (v := 0) X (xdec_at tL_things_9 24 rfl) (by decide) ?_
                have g3 := isT_n hJ.I (p := u0) (by rw [nTn]; exact hu0)
                have e29 : ν.1 29 u0 = 1 := by rw [v1]; exact u_at
                refine v_wC X hE mw_call [.ref (l2 (0, 0)), .int 15, .int (nI u0), .int 0, .int 0, .int 0] [] (call_W rfl (ckE_claim_2 hl0 hJ (show (M_claim ν (nI u0)).2.1 38 0 = 2 from by unfold M_claim; rw [if_pos g3.1, g3.2, if_pos (Or.inr (Or.inr (by rw [e29]; decide)))]; exact th_38 _ 2))) (xw_at tW_6 13 rfl) rfl (by rfl) (Nat.le_of_ble_eq_true rfl) (xdec_at tL_things_9 25 rfl) ⟨(Nat.le_of_ble_eq_true rfl), (Nat.le_of_ble_eq_true rfl)⟩ ⟨(Nat.le_of_ble_eq_true rfl), (Nat.le_of_ble_eq_true rfl)⟩ ?_
                rintro v9 l3 C9 ⟨rfl, y_l3, rfl⟩
                rw [← y_l3.1, ← y_l3.2.1, ← y_l3.2.2 (300, 0) (by decide) (by decide)]
                refine v_ldc (v := -2000000003) X (xw_at tW_12 2 rfl) (xdec_at tL_things_9 26 rfl) ?_
                refine v_icmp_ne (tgt := 718) X (xdec_at tL_things_9 27 rfl) (by decide) (fun h9 => absurd rfl h9) (fun _ => ?_)
                refine v_iconst (v := 1) X (xdec_at tL_things_9 28 rfl) (by decide) ?_
                refine v_goto (tgt := 719) X (xdec_at tL_things_9 29 rfl) (by decide) ?_
                exact v_xr (v_zret X hr (xdec_at tL_things_9 31 rfl) (Nat.le_of_ble_eq_true rfl) (Nat.le_of_ble_eq_true rfl) (by rfl) ⟨rfl, (lyL_tr y_l2 y_l3), ν, tb, (by rw [dv_e (μ := μ) (ν := ν) (by rw [eO 0 (by decide)]) (by rw [eO 10 (by decide)]) (by rw [eO 16 (by decide)])] <;> rfl), hJ.up, (by unfold nG nP; rw [eO 10 (by decide), eO 0 (by decide)]; exact hg), Nat.le_refl _⟩)
              · refine v_iload X (xdec_at tL_things_8 9 rfl) rfl ?_
                refine v_ldc (v := -2000000003) X (xw_at tW_12 2 rfl) (xdec_at tL_things_8 10 rfl) ?_
                refine v_icmp_ne (tgt := 638) X (xdec_at tL_things_8 11 rfl) (by decide) (fun _ => ?_) (fun h9 => absurd h9 (show ¬ _ = (-2000000003 : Int32) from by rw [v2]; decide))
                refine v_iload X (xdec_at tL_things_8 30 rfl) rfl ?_
                refine v_iconst (v := 3) X (xdec_at tL_things_8 31 rfl) (by decide) ?_
                refine v_icmp_ne (tgt := 718) X (xdec_at tL_things_8 32 rfl) (by decide) (fun h9 => absurd h3 h9) (fun _ => ?_)
                refine v_iload X (xdec_at tL_things_8 33 rfl) rfl ?_
                refine v_if_le (tgt := 718) X (xdec_at tL_things_8 34 rfl) (by decide) (fun h9 => absurd h9 (Int32.not_le.mpr (show 0 < μ.1 35 u0 from by rw [n2]; exact nI_lt (a := 0) (n5 h21).1 (by omega)))) (fun _ => ?_)
                refine v_iload X (xdec_at tL_things_8 35 rfl) rfl ?_
                refine v_if_eq (tgt := 670) X (xdec_at tL_things_8 36 rfl) (by decide) (fun h9 => absurd h9 (show ¬ _ = (0 : Int32) from by rw [v2]; decide)) (fun _ => ?_)
                refine v_iload X (xdec_at tL_things_8 37 rfl) rfl ?_
                refine v_sipush (v := 2000) X (xdec_at tL_things_8 38 rfl) (by decide) ?_
                refine v_icmp_eq (tgt := 670) X (xdec_at tL_things_8 39 rfl) (by decide) (fun _ => ?_) (fun h9 => absurd v2 h9)
                refine v_aload_n X (xdec_at tL_things_9 3 rfl) rfl rfl ?_
                refine v_aload_n X (xdec_at tL_things_9 4 rfl) rfl rfl ?_
                refine v_iconst (v := 3) X (xdec_at tL_things_9 5 rfl) (by decide) ?_
                refine v_wL X hE myL_sums [.ref (l2 (0, 0)), .ref (l2 (300, 0)), .int 3] [] (sums3_W hl0 hJ.I hfn rfl) (xw_at tW_13 28 rfl) rfl rfl (by rfl) (Nat.le_of_ble_eq_true rfl) (xdec_at tL_things_9 6 rfl) ⟨(Nat.le_of_ble_eq_true rfl), (Nat.le_of_ble_eq_true rfl)⟩ ⟨(Nat.le_of_ble_eq_true rfl), (Nat.le_of_ble_eq_true rfl)⟩ ?_
                rintro v9 lay9 C9 ⟨rfl, rfl, rfl⟩
                refine v_lload X (xdec_at tL_things_9 7 rfl) rfl ?_
                refine v_ldc2 (v := 4000) X (xw_at tW_13 33 rfl) (xdec_at tL_things_9 8 rfl) ?_
                refine v_lsub X (xdec_at tL_things_9 9 rfl) ?_
                refine v_lcmp X (xdec_at tL_things_9 10 rfl) ?_
                refine v_if_ne (tgt := 718) X (xdec_at tL_things_9 11 rfl) (by decide) (fun h9 => absurd (lcz (by rw [nPn]; exact e8)) h9) (fun _ => ?_)
                refine v_aload_n X (xdec_at tL_things_9 12 rfl) rfl rfl ?_
                refine v_aload_n X (xdec_at tL_things_9 13 rfl) rfl rfl ?_
                refine v_iconst (v := 2) X (xdec_at tL_things_9 14 rfl) (by decide) ?_
                refine v_wL X hE myL_sums [.ref (l2 (0, 0)), .ref (l2 (300, 0)), .int 2] [] (sums2_W hl0 hJ.I hfn rfl) (xw_at tW_13 28 rfl) rfl rfl (by rfl) (Nat.le_of_ble_eq_true rfl) (xdec_at tL_things_9 15 rfl) ⟨(Nat.le_of_ble_eq_true rfl), (Nat.le_of_ble_eq_true rfl)⟩ ⟨(Nat.le_of_ble_eq_true rfl), (Nat.le_of_ble_eq_true rfl)⟩ ?_
                rintro v9 lay9 C9 ⟨rfl, rfl, rfl⟩
                refine v_lload X (xdec_at tL_things_9 16 rfl) rfl ?_
                refine v_lcmp X (xdec_at tL_things_9 17 rfl) ?_
                refine v_if_ne (tgt := 718) X (xdec_at tL_things_9 18 rfl) (by decide) (fun h9 => absurd (lcz (by rw [nPn]; exact v3)) h9) (fun _ => ?_)
                refine v_aload_n X (xdec_at tL_things_9 19 rfl) rfl rfl ?_
                refine v_bipush (v := 15) X (xdec_at tL_things_9 20 rfl) (by decide) ?_
                refine v_iload X (xdec_at tL_things_9 21 rfl) rfl ?_
                refine v_iconst (v := 0) X (xdec_at tL_things_9 22 rfl) (by decide) ?_
                refine v_iconst (v := 0) X (xdec_at tL_things_9 23 rfl) (by decide) ?_
                refine v_iconst (v := 0) X (xdec_at tL_things_9 24 rfl) (by decide) ?_
                have g3 := isT_n hJ.I (p := u0) (by rw [nTn]; exact hu0)
                have e29 : ν.1 29 u0 = 1 := by rw [v1]; exact u_at
                refine v_wC X hE mw_call [.ref (l2 (0, 0)), .int 15, .int (nI u0), .int 0, .int 0, .int 0] [] (call_W rfl (ckE_claim_2 hl0 hJ (show (M_claim ν (nI u0)).2.1 38 0 = 2 from by unfold M_claim; rw [if_pos g3.1, g3.2, if_pos (Or.inr (Or.inr (by rw [e29]; decide)))]; exact th_38 _ 2))) (xw_at tW_6 13 rfl) rfl (by rfl) (Nat.le_of_ble_eq_true rfl) (xdec_at tL_things_9 25 rfl) ⟨(Nat.le_of_ble_eq_true rfl), (Nat.le_of_ble_eq_true rfl)⟩ ⟨(Nat.le_of_ble_eq_true rfl), (Nat.le_of_ble_eq_true rfl)⟩ ?_
                rintro v9 l4 C9 ⟨rfl, y_l4, rfl⟩
                rw [← y_l4.1, ← y_l4.2.1, ← y_l4.2.2 (300, 0) (by decide) (by decide)]
                refine v_ldc (v := -2000000003) X (xw_at tW_12 2 rfl) (xdec_at tL_things_9 26 rfl) ?_
                refine v_icmp_ne (tgt := 718) X (xdec_at tL_things_9 27 rfl) (by decide) (fun h9 => absurd rfl h9) (fun _ => ?_)
                refine v_iconst (v := 1) X (xdec_at tL_things_9 28 rfl) (by decide) ?_
                refine v_goto (tgt := 719) X (xdec_at tL_things_9 29 rfl) (by decide) ?_
                exact v_xr (v_zret X hr (xdec_at tL_things_9 31 rfl) (Nat.le_of_ble_eq_true rfl) (Nat.le_of_ble_eq_true rfl) (by rfl) ⟨rfl, (lyL_tr y_l2 y_l4), ν, tb, (by rw [dv_e (μ := μ) (ν := ν) (by rw [eO 0 (by decide)]) (by rw [eO 10 (by decide)]) (by rw [eO 16 (by decide)])] <;> rfl), hJ.up, (by unfold nG nP; rw [eO 10 (by decide), eO 0 (by decide)]; exact hg), Nat.le_refl _⟩)
              · refine v_iload X (xdec_at tL_things_8 9 rfl) rfl ?_
                refine v_ldc (v := -2000000003) X (xw_at tW_12 2 rfl) (xdec_at tL_things_8 10 rfl) ?_
                refine v_icmp_ne (tgt := 638) X (xdec_at tL_things_8 11 rfl) (by decide) (fun _ => ?_) (fun h9 => absurd h9 (show ¬ _ = (-2000000003 : Int32) from by rw [v2]; decide))
                refine v_iload X (xdec_at tL_things_8 30 rfl) rfl ?_
                refine v_iconst (v := 3) X (xdec_at tL_things_8 31 rfl) (by decide) ?_
                refine v_icmp_ne (tgt := 718) X (xdec_at tL_things_8 32 rfl) (by decide) (fun h9 => absurd h3 h9) (fun _ => ?_)
                refine v_iload X (xdec_at tL_things_8 33 rfl) rfl ?_
                refine v_if_le (tgt := 718) X (xdec_at tL_things_8 34 rfl) (by decide) (fun h9 => absurd h9 (Int32.not_le.mpr (show 0 < μ.1 35 u0 from by rw [n2]; exact nI_lt (a := 0) (n5 h21).1 (by omega)))) (fun _ => ?_)
                refine v_iload X (xdec_at tL_things_8 35 rfl) rfl ?_
                refine v_if_eq (tgt := 670) X (xdec_at tL_things_8 36 rfl) (by decide) (fun h9 => absurd h9 (show ¬ _ = (0 : Int32) from by rw [v2]; decide)) (fun _ => ?_)
                refine v_iload X (xdec_at tL_things_8 37 rfl) rfl ?_
                refine v_sipush (v := 2000) X (xdec_at tL_things_8 38 rfl) (by decide) ?_
                refine v_icmp_eq (tgt := 670) X (xdec_at tL_things_8 39 rfl) (by decide) (fun h9 => absurd h9 (show ¬ _ = (2000 : Int32) from by rw [v2]; decide)) (fun _ => ?_)
                refine v_iload X (xdec_at tL_things_9 0 rfl) rfl ?_
                refine v_sipush (v := 4000) X (xdec_at tL_things_9 1 rfl) (by decide) ?_
                refine v_icmp_ne (tgt := 718) X (xdec_at tL_things_9 2 rfl) (by decide) (fun h9 => absurd v2 h9) (fun _ => ?_)
                refine v_aload_n X (xdec_at tL_things_9 3 rfl) rfl rfl ?_
                refine v_aload_n X (xdec_at tL_things_9 4 rfl) rfl rfl ?_
                refine v_iconst (v := 3) X (xdec_at tL_things_9 5 rfl) (by decide) ?_
                refine v_wL X hE myL_sums [.ref (l2 (0, 0)), .ref (l2 (300, 0)), .int 3] [] (sums3_W hl0 hJ.I hfn rfl) (xw_at tW_13 28 rfl) rfl rfl (by rfl) (Nat.le_of_ble_eq_true rfl) (xdec_at tL_things_9 6 rfl) ⟨(Nat.le_of_ble_eq_true rfl), (Nat.le_of_ble_eq_true rfl)⟩ ⟨(Nat.le_of_ble_eq_true rfl), (Nat.le_of_ble_eq_true rfl)⟩ ?_
                rintro v9 lay9 C9 ⟨rfl, rfl, rfl⟩
                refine v_lload X (xdec_at tL_things_9 7 rfl) rfl ?_
                refine v_ldc2 (v := 4000) X (xw_at tW_13 33 rfl) (xdec_at tL_things_9 8 rfl) ?_
                refine v_lsub X (xdec_at tL_things_9 9 rfl) ?_
                refine v_lcmp X (xdec_at tL_things_9 10 rfl) ?_
                refine v_if_ne (tgt := 718) X (xdec_at tL_things_9 11 rfl) (by decide) (fun h9 => absurd (lcz (by rw [nPn]; exact e8)) h9) (fun _ => ?_)
                refine v_aload_n X (xdec_at tL_things_9 12 rfl) rfl rfl ?_
                refine v_aload_n X (xdec_at tL_things_9 13 rfl) rfl rfl ?_
                refine v_iconst (v := 2) X (xdec_at tL_things_9 14 rfl) (by decide) ?_
                refine v_wL X hE myL_sums [.ref (l2 (0, 0)), .ref (l2 (300, 0)), .int 2] [] (sums2_W hl0 hJ.I hfn rfl) (xw_at tW_13 28 rfl) rfl rfl (by rfl) (Nat.le_of_ble_eq_true rfl) (xdec_at tL_things_9 15 rfl) ⟨(Nat.le_of_ble_eq_true rfl), (Nat.le_of_ble_eq_true rfl)⟩ ⟨(Nat.le_of_ble_eq_true rfl), (Nat.le_of_ble_eq_true rfl)⟩ ?_
                rintro v9 lay9 C9 ⟨rfl, rfl, rfl⟩
                refine v_lload X (xdec_at tL_things_9 16 rfl) rfl ?_
                refine v_lcmp X (xdec_at tL_things_9 17 rfl) ?_
                refine v_if_ne (tgt := 718) X (xdec_at tL_things_9 18 rfl) (by decide) (fun h9 => absurd (lcz (by rw [nPn]; exact v3)) h9) (fun _ => ?_)
                refine v_aload_n X (xdec_at tL_things_9 19 rfl) rfl rfl ?_
                refine v_bipush (v := 15) X (xdec_at tL_things_9 20 rfl) (by decide) ?_
                refine v_iload X (xdec_at tL_things_9 21 rfl) rfl ?_
                refine v_iconst (v := 0) X (xdec_at tL_things_9 22 rfl) (by decide) ?_
                refine v_iconst (v := 0) X (xdec_at tL_things_9 23 rfl) (by decide) ?_
                refine v_iconst (v := 0) X (xdec_at tL_things_9 24 rfl) (by decide) ?_
                have g3 := isT_n hJ.I (p := u0) (by rw [nTn]; exact hu0)
                have e29 : ν.1 29 u0 = 1 := by rw [v1]; exact u_at
                refine v_wC X hE mw_call [.ref (l2 (0, 0)), .int 15, .int (nI u0), .int 0, .int 0, .int 0] [] (call_W rfl (ckE_claim_2 hl0 hJ (show (M_claim ν (nI u0)).2.1 38 0 = 2 from by unfold M_claim; rw [if_pos g3.1, g3.2, if_pos (Or.inr (Or.inr (by rw [e29]; decide)))]; exact th_38 _ 2))) (xw_at tW_6 13 rfl) rfl (by rfl) (Nat.le_of_ble_eq_true rfl) (xdec_at tL_things_9 25 rfl) ⟨(Nat.le_of_ble_eq_true rfl), (Nat.le_of_ble_eq_true rfl)⟩ ⟨(Nat.le_of_ble_eq_true rfl), (Nat.le_of_ble_eq_true rfl)⟩ ?_
                rintro v9 l5 C9 ⟨rfl, y_l5, rfl⟩
                rw [← y_l5.1, ← y_l5.2.1, ← y_l5.2.2 (300, 0) (by decide) (by decide)]
                refine v_ldc (v := -2000000003) X (xw_at tW_12 2 rfl) (xdec_at tL_things_9 26 rfl) ?_
                refine v_icmp_ne (tgt := 718) X (xdec_at tL_things_9 27 rfl) (by decide) (fun h9 => absurd rfl h9) (fun _ => ?_)
                refine v_iconst (v := 1) X (xdec_at tL_things_9 28 rfl) (by decide) ?_
                refine v_goto (tgt := 719) X (xdec_at tL_things_9 29 rfl) (by decide) ?_
                exact v_xr (v_zret X hr (xdec_at tL_things_9 31 rfl) (Nat.le_of_ble_eq_true rfl) (Nat.le_of_ble_eq_true rfl) (by rfl) ⟨rfl, (lyL_tr y_l2 y_l5), ν, tb, (by rw [dv_e (μ := μ) (ν := ν) (by rw [eO 0 (by decide)]) (by rw [eO 10 (by decide)]) (by rw [eO 16 (by decide)])] <;> rfl), hJ.up, (by unfold nG nP; rw [eO 10 (by decide), eO 0 (by decide)]; exact hg), Nat.le_refl _⟩)
          · refine v_iload X (xdec_at tL_things_5 19 rfl) rfl ?_
            refine v_iconst (v := 5) X (xdec_at tL_things_5 20 rfl) (by decide) ?_
            refine v_ishr X (xdec_at tL_things_5 21 rfl) fun u2 => ?_
            refine v_iconst (v := 3) X (xdec_at tL_things_5 22 rfl) (by decide) ?_
            refine v_wL X hE myL_some [.int u2, .int (nI 3)] [] (c_some u2 (n := 3) (by decide) (by decide)) (xw_at tW_2 29 rfl) rfl rfl (by rfl) (Nat.le_of_ble_eq_true rfl) (xdec_at tL_things_5 23 rfl) ⟨(Nat.le_of_ble_eq_true rfl), (Nat.le_of_ble_eq_true rfl)⟩ ⟨(Nat.le_of_ble_eq_true rfl), (Nat.le_of_ble_eq_true rfl)⟩ ?_
            rintro v9 lay9 C9 ⟨rfl, rfl, u3, hu3, rfl⟩
            refine v_if_le (tgt := 428) X (xdec_at tL_things_5 24 rfl) (by decide) (fun c_412 => ?_) (fun c_412 => ?_)
            · by_cases hu : undW μ u0
              · obtain ⟨n, n1, n2, n3, n4, n5⟩ := hTP.2.2.2.2.2.1
                by_cases hn0 : n = 0
                · refine v_aload_n X (xdec_at tL_things_5 33 rfl) rfl rfl ?_
                  refine v_aload_n X (xdec_at tL_things_5 34 rfl) rfl rfl ?_
                  refine v_bipush (v := 14) X (xdec_at tL_things_5 35 rfl) (by decide) ?_
                  refine v_iload X (xdec_at tL_things_5 36 rfl) rfl ?_
                  refine v_iconst (v := 0) X (xdec_at tL_things_5 37 rfl) (by decide) ?_
                  refine v_iconst (v := 0) X (xdec_at tL_things_5 38 rfl) (by decide) ?_
                  refine v_iconst (v := 0) X (xdec_at tL_things_5 39 rfl) (by decide) ?_
                  obtain ⟨eM, hJ⟩ := cm_lose hL hu0 hu
                  have e35 : μ.1 35 u0 = 0 := by rw [n2, hn0]; rfl
                  rw [if_pos e35] at eM
                  have eO : ∀ j, j ≠ 23 ∧ j ≠ 26 → (nuO μ u0).1 j = μ.1 j := fun j hj => by
                    show up2 (up2 μ.1 23 u0 3) 26 u0 0 j = _
                    rw [up2_ne _ _ _ _ _ hj.2, up2_ne _ _ _ _ _ hj.1]
                  have eO23 : (nuO μ u0).1 23 u0 = 3 := by
                    show up2 (up2 μ.1 23 u0 3) 26 u0 0 23 u0 = 3
                    rw [up2_ne _ _ _ _ _ (by decide)]
                    exact u_at
                  have eO26 : (nuO μ u0).1 26 u0 = 0 := u_at
                  have eOT : nT (nuO μ u0) = nT μ := by unfold nT; rw [eO 16 (by decide)]
                  refine v_wL X hE myL_both [.ref (lay (0, 0)), .ref (lay (500, 0)), .int 14, .int (nI u0), .int 0, .int 0, .int 0] [] (both_of rfl (ckS_lose hl0 hL eM hJ.z)) (xw_at tW_6 11 rfl) rfl rfl (by rfl) (Nat.le_of_ble_eq_true rfl) (xdec_at tL_things_6 0 rfl) ⟨(Nat.le_of_ble_eq_true rfl), (Nat.le_of_ble_eq_true rfl)⟩ ⟨(Nat.le_of_ble_eq_true rfl), (Nat.le_of_ble_eq_true rfl)⟩ ?_
                  rintro v9 l6 C9 ⟨rfl, y_l6, rfl⟩
                  rw [← y_l6.1, ← y_l6.2.1, ← y_l6.2.2 (300, 0) (by decide) (by decide)]
                  refine v_istore (lv' := [some (.ref (l6 (0, 0))), some (.ref (l6 (500, 0))), some (.ref (l6 (300, 0))), some (.int x), some (.int z), some (.int (nI u0)), some (.int (nI u1)), some (.int (μ.1 23 u0)), some (.int (μ.1 24 u0)), some (.int (μ.1 19 u0)), some (.int 0), some (.int (μ.1 35 u0)), some (.int (-1)), none, none, none, none]) X (xdec_at tL_things_6 1 rfl) (by decide) rfl ?_
                  refine v_iload X (xdec_at tL_things_6 2 rfl) rfl ?_
                  refine v_ldc (v := -2000000001) X (xw_at tW_12 0 rfl) (xdec_at tL_things_6 3 rfl) ?_
                  refine v_icmp_ne (tgt := 469) X (xdec_at tL_things_6 4 rfl) (by decide) (fun _ => ?_) (fun h9 => absurd h9 (by decide))
                  refine v_iload X (xdec_at tL_things_6 17 rfl) rfl ?_
                  refine v_ldc (v := -2000000003) X (xw_at tW_12 2 rfl) (xdec_at tL_things_6 18 rfl) ?_
                  refine v_icmp_ne (tgt := 490) X (xdec_at tL_things_6 19 rfl) (by decide) (fun _ => ?_) (fun h9 => absurd h9 (by decide))
                  refine v_iload X (xdec_at tL_things_6 27 rfl) rfl ?_
                  refine v_iconst (v := 2) X (xdec_at tL_things_6 28 rfl) (by decide) ?_
                  refine v_icmp_ge (tgt := 569) X (xdec_at tL_things_6 29 rfl) (by decide) (fun h9 => absurd h9 (st_lt hu).2.1) (fun _ => ?_)
                  refine v_aload_n X (xdec_at tL_things_6 30 rfl) rfl rfl ?_
                  refine v_iload X (xdec_at tL_things_6 31 rfl) rfl ?_
                  refine v_iconst (v := 0) X (xdec_at tL_things_6 32 rfl) (by decide) ?_
                  refine v_wN X hE myX4_ofThing [.int (nI u0), .int 0] [] (qy_ofThing (t := u0) (w := 0) hl0 hJ.I hJ.K (show u0 < nT (nuO μ u0) from by rw [eOT]; exact hu0) (by decide)) (xw_at tW_5 30 rfl) (0, 0) cX_X rfl rfl rfl rfl (by rfl) (Nat.le_of_ble_eq_true rfl) (xdec_at tL_things_6 33 rfl) ⟨(Nat.le_of_ble_eq_true rfl), (Nat.le_of_ble_eq_true rfl)⟩ ⟨(Nat.le_of_ble_eq_true rfl), (Nat.le_of_ble_eq_true rfl)⟩ ?_
                  rintro v9 lay9 C9 ⟨rfl, rfl, rfl⟩
                  refine v_ldc2 (v := 3) X (xw_at tW_13 32 rfl) (xdec_at tL_things_6 34 rfl) ?_
                  refine v_lcmp X (xdec_at tL_things_6 35 rfl) ?_
                  refine v_if_ne (tgt := 569) X (xdec_at tL_things_6 36 rfl) (by decide) (fun h9 => absurd (lcz (show ((nuO μ u0).1 23 u0).toInt64 = 3 from by rw [eO23]; rfl)) h9) (fun _ => ?_)
                  refine v_aload_n X (xdec_at tL_things_6 37 rfl) rfl rfl ?_
                  refine v_iload X (xdec_at tL_things_6 38 rfl) rfl ?_
                  refine v_iconst (v := 1) X (xdec_at tL_things_6 39 rfl) (by decide) ?_
                  refine v_wN X hE myX4_ofThing [.int (nI u0), .int 1] [] (qy_ofThing (t := u0) (w := 1) hl0 hJ.I hJ.K (show u0 < nT (nuO μ u0) from by rw [eOT]; exact hu0) (by decide)) (xw_at tW_5 30 rfl) (0, 0) cX_X rfl rfl rfl rfl (by rfl) (Nat.le_of_ble_eq_true rfl) (xdec_at tL_things_7 0 rfl) ⟨(Nat.le_of_ble_eq_true rfl), (Nat.le_of_ble_eq_true rfl)⟩ ⟨(Nat.le_of_ble_eq_true rfl), (Nat.le_of_ble_eq_true rfl)⟩ ?_
                  rintro v9 lay9 C9 ⟨rfl, rfl, rfl⟩
                  refine v_iload X (xdec_at tL_things_7 1 rfl) rfl ?_
                  refine v_i2l X (xdec_at tL_things_7 2 rfl) rfl ?_
                  refine v_lcmp X (xdec_at tL_things_7 3 rfl) ?_
                  refine v_if_ne (tgt := 569) X (xdec_at tL_things_7 4 rfl) (by decide) (fun h9 => absurd (lcz (show ((nuO μ u0).1 24 u0).toInt64 = _ from by rw [eO 24 (by decide)])) h9) (fun _ => ?_)
                  refine v_aload_n X (xdec_at tL_things_7 5 rfl) rfl rfl ?_
                  refine v_iload X (xdec_at tL_things_7 6 rfl) rfl ?_
                  refine v_iconst (v := 2) X (xdec_at tL_things_7 7 rfl) (by decide) ?_
                  refine v_wN X hE myX4_ofThing [.int (nI u0), .int 2] [] (qy_ofThing (t := u0) (w := 2) hl0 hJ.I hJ.K (show u0 < nT (nuO μ u0) from by rw [eOT]; exact hu0) (by decide)) (xw_at tW_5 30 rfl) (0, 0) cX_X rfl rfl rfl rfl (by rfl) (Nat.le_of_ble_eq_true rfl) (xdec_at tL_things_7 8 rfl) ⟨(Nat.le_of_ble_eq_true rfl), (Nat.le_of_ble_eq_true rfl)⟩ ⟨(Nat.le_of_ble_eq_true rfl), (Nat.le_of_ble_eq_true rfl)⟩ ?_
                  rintro v9 lay9 C9 ⟨rfl, rfl, rfl⟩
                  refine v_lconst (v := 0) X (xdec_at tL_things_7 9 rfl) (by decide) ?_
                  refine v_lcmp X (xdec_at tL_things_7 10 rfl) ?_
                  refine v_if_ne (tgt := 569) X (xdec_at tL_things_7 11 rfl) (by decide) (fun h9 => absurd (lcz (show ((nuO μ u0).1 26 u0).toInt64 = 0 from by rw [eO26]; rfl)) h9) (fun _ => ?_)
                  refine v_iload X (xdec_at tL_things_7 12 rfl) rfl ?_
                  refine v_if_ne (tgt := 550) X (xdec_at tL_things_7 13 rfl) (by decide) (fun h9 => absurd e35 h9) (fun _ => ?_)
                  refine v_iload X (xdec_at tL_things_7 14 rfl) rfl ?_
                  refine v_iconst (v := (-1)) X (xdec_at tL_things_7 15 rfl) (by decide) ?_
                  refine v_icmp_ne (tgt := 569) X (xdec_at tL_things_7 16 rfl) (by decide) (fun h9 => absurd h9 (by decide)) (fun _ => ?_)
                  refine v_goto (tgt := 565) X (xdec_at tL_things_7 17 rfl) (by decide) ?_
                  refine v_iconst (v := 1) X (xdec_at tL_things_7 26 rfl) (by decide) ?_
                  refine v_goto (tgt := 570) X (xdec_at tL_things_7 27 rfl) (by decide) ?_
                  exact v_xr (v_zret X hr (xdec_at tL_things_7 29 rfl) (Nat.le_of_ble_eq_true rfl) (Nat.le_of_ble_eq_true rfl) (by rfl) ⟨rfl, y_l6, (nuO μ u0), tb, (by rw [dv_e (μ := μ) (ν := (nuO μ u0)) (by rw [eO 0 (by decide)]) (by rw [eO 10 (by decide)]) (by rw [eO 16 (by decide)])] <;> rfl), hJ.up, (by unfold nG nP; rw [eO 10 (by decide), eO 0 (by decide)]; exact hg), Nat.le_refl _⟩)
                · refine v_aload_n X (xdec_at tL_things_5 33 rfl) rfl rfl ?_
                  refine v_aload_n X (xdec_at tL_things_5 34 rfl) rfl rfl ?_
                  refine v_bipush (v := 14) X (xdec_at tL_things_5 35 rfl) (by decide) ?_
                  refine v_iload X (xdec_at tL_things_5 36 rfl) rfl ?_
                  refine v_iconst (v := 0) X (xdec_at tL_things_5 37 rfl) (by decide) ?_
                  refine v_iconst (v := 0) X (xdec_at tL_things_5 38 rfl) (by decide) ?_
                  refine v_iconst (v := 0) X (xdec_at tL_things_5 39 rfl) (by decide) ?_
                  obtain ⟨eM, hJ⟩ := cm_lose hL hu0 hu
                  have e35 : ¬ μ.1 35 u0 = 0 := by rw [n2]; exact fun q9 => hn0 (nI_inj (b := 0) (by omega) (by decide) q9)
                  have h21 : ¬ μ.1 21 u0 = 0 := fun q9 => hn0 (n4 q9)
                  rw [if_neg e35, lose_hand hL hu0 n2 n1 hn0] at eM
                  have hV := vp_ne (n5 h21).2.2
                  have eO : ∀ j, j ≠ 23 ∧ j ≠ 26 → (nuO μ u0).1 j = μ.1 j := fun j hj => by
                    show up2 (up2 μ.1 23 u0 3) 26 u0 0 j = _
                    rw [up2_ne _ _ _ _ _ hj.2, up2_ne _ _ _ _ _ hj.1]
                  have eO23 : (nuO μ u0).1 23 u0 = 3 := by
                    show up2 (up2 μ.1 23 u0 3) 26 u0 0 23 u0 = 3
                    rw [up2_ne _ _ _ _ _ (by decide)]
                    exact u_at
                  have eO26 : (nuO μ u0).1 26 u0 = 0 := u_at
                  have eOT : nT (nuO μ u0) = nT μ := by unfold nT; rw [eO 16 (by decide)]
                  refine v_wL X hE myL_both [.ref (lay (0, 0)), .ref (lay (500, 0)), .int 14, .int (nI u0), .int 0, .int 0, .int 0] [] (both_of rfl (ckS_lose hl0 hL eM hJ.z)) (xw_at tW_6 11 rfl) rfl rfl (by rfl) (Nat.le_of_ble_eq_true rfl) (xdec_at tL_things_6 0 rfl) ⟨(Nat.le_of_ble_eq_true rfl), (Nat.le_of_ble_eq_true rfl)⟩ ⟨(Nat.le_of_ble_eq_true rfl), (Nat.le_of_ble_eq_true rfl)⟩ ?_
                  rintro v9 l7 C9 ⟨rfl, y_l7, rfl⟩
                  rw [← y_l7.1, ← y_l7.2.1, ← y_l7.2.2 (300, 0) (by decide) (by decide)]
                  refine v_istore (lv' := [some (.ref (l7 (0, 0))), some (.ref (l7 (500, 0))), some (.ref (l7 (300, 0))), some (.int x), some (.int z), some (.int (nI u0)), some (.int (nI u1)), some (.int (μ.1 23 u0)), some (.int (μ.1 24 u0)), some (.int (μ.1 19 u0)), some (.int 0), some (.int (μ.1 35 u0)), some (.int (tb.2.1 u0 (n - 1))), none, none, none, none]) X (xdec_at tL_things_6 1 rfl) (by decide) rfl ?_
                  refine v_iload X (xdec_at tL_things_6 2 rfl) rfl ?_
                  refine v_ldc (v := -2000000001) X (xw_at tW_12 0 rfl) (xdec_at tL_things_6 3 rfl) ?_
                  refine v_icmp_ne (tgt := 469) X (xdec_at tL_things_6 4 rfl) (by decide) (fun _ => ?_) (fun h9 => absurd h9 hV.1)
                  refine v_iload X (xdec_at tL_things_6 17 rfl) rfl ?_
                  refine v_ldc (v := -2000000003) X (xw_at tW_12 2 rfl) (xdec_at tL_things_6 18 rfl) ?_
                  refine v_icmp_ne (tgt := 490) X (xdec_at tL_things_6 19 rfl) (by decide) (fun _ => ?_) (fun h9 => absurd h9 hV.2.2)
                  refine v_iload X (xdec_at tL_things_6 27 rfl) rfl ?_
                  refine v_iconst (v := 2) X (xdec_at tL_things_6 28 rfl) (by decide) ?_
                  refine v_icmp_ge (tgt := 569) X (xdec_at tL_things_6 29 rfl) (by decide) (fun h9 => absurd h9 (st_lt hu).2.1) (fun _ => ?_)
                  refine v_aload_n X (xdec_at tL_things_6 30 rfl) rfl rfl ?_
                  refine v_iload X (xdec_at tL_things_6 31 rfl) rfl ?_
                  refine v_iconst (v := 0) X (xdec_at tL_things_6 32 rfl) (by decide) ?_
                  refine v_wN X hE myX4_ofThing [.int (nI u0), .int 0] [] (qy_ofThing (t := u0) (w := 0) hl0 hJ.I hJ.K (show u0 < nT (nuO μ u0) from by rw [eOT]; exact hu0) (by decide)) (xw_at tW_5 30 rfl) (0, 0) cX_X rfl rfl rfl rfl (by rfl) (Nat.le_of_ble_eq_true rfl) (xdec_at tL_things_6 33 rfl) ⟨(Nat.le_of_ble_eq_true rfl), (Nat.le_of_ble_eq_true rfl)⟩ ⟨(Nat.le_of_ble_eq_true rfl), (Nat.le_of_ble_eq_true rfl)⟩ ?_
                  rintro v9 lay9 C9 ⟨rfl, rfl, rfl⟩
                  refine v_ldc2 (v := 3) X (xw_at tW_13 32 rfl) (xdec_at tL_things_6 34 rfl) ?_
                  refine v_lcmp X (xdec_at tL_things_6 35 rfl) ?_
                  refine v_if_ne (tgt := 569) X (xdec_at tL_things_6 36 rfl) (by decide) (fun h9 => absurd (lcz (show ((nuO μ u0).1 23 u0).toInt64 = 3 from by rw [eO23]; rfl)) h9) (fun _ => ?_)
                  refine v_aload_n X (xdec_at tL_things_6 37 rfl) rfl rfl ?_
                  refine v_iload X (xdec_at tL_things_6 38 rfl) rfl ?_
                  refine v_iconst (v := 1) X (xdec_at tL_things_6 39 rfl) (by decide) ?_
                  refine v_wN X hE myX4_ofThing [.int (nI u0), .int 1] [] (qy_ofThing (t := u0) (w := 1) hl0 hJ.I hJ.K (show u0 < nT (nuO μ u0) from by rw [eOT]; exact hu0) (by decide)) (xw_at tW_5 30 rfl) (0, 0) cX_X rfl rfl rfl rfl (by rfl) (Nat.le_of_ble_eq_true rfl) (xdec_at tL_things_7 0 rfl) ⟨(Nat.le_of_ble_eq_true rfl), (Nat.le_of_ble_eq_true rfl)⟩ ⟨(Nat.le_of_ble_eq_true rfl), (Nat.le_of_ble_eq_true rfl)⟩ ?_
                  rintro v9 lay9 C9 ⟨rfl, rfl, rfl⟩
                  refine v_iload X (xdec_at tL_things_7 1 rfl) rfl ?_
                  refine v_i2l X (xdec_at tL_things_7 2 rfl) rfl ?_
                  refine v_lcmp X (xdec_at tL_things_7 3 rfl) ?_
                  refine v_if_ne (tgt := 569) X (xdec_at tL_things_7 4 rfl) (by decide) (fun h9 => absurd (lcz (show ((nuO μ u0).1 24 u0).toInt64 = _ from by rw [eO 24 (by decide)])) h9) (fun _ => ?_)
                  refine v_aload_n X (xdec_at tL_things_7 5 rfl) rfl rfl ?_
                  refine v_iload X (xdec_at tL_things_7 6 rfl) rfl ?_
                  refine v_iconst (v := 2) X (xdec_at tL_things_7 7 rfl) (by decide) ?_
                  refine v_wN X hE myX4_ofThing [.int (nI u0), .int 2] [] (qy_ofThing (t := u0) (w := 2) hl0 hJ.I hJ.K (show u0 < nT (nuO μ u0) from by rw [eOT]; exact hu0) (by decide)) (xw_at tW_5 30 rfl) (0, 0) cX_X rfl rfl rfl rfl (by rfl) (Nat.le_of_ble_eq_true rfl) (xdec_at tL_things_7 8 rfl) ⟨(Nat.le_of_ble_eq_true rfl), (Nat.le_of_ble_eq_true rfl)⟩ ⟨(Nat.le_of_ble_eq_true rfl), (Nat.le_of_ble_eq_true rfl)⟩ ?_
                  rintro v9 lay9 C9 ⟨rfl, rfl, rfl⟩
                  refine v_lconst (v := 0) X (xdec_at tL_things_7 9 rfl) (by decide) ?_
                  refine v_lcmp X (xdec_at tL_things_7 10 rfl) ?_
                  refine v_if_ne (tgt := 569) X (xdec_at tL_things_7 11 rfl) (by decide) (fun h9 => absurd (lcz (show ((nuO μ u0).1 26 u0).toInt64 = 0 from by rw [eO26]; rfl)) h9) (fun _ => ?_)
                  refine v_iload X (xdec_at tL_things_7 12 rfl) rfl ?_
                  refine v_if_ne (tgt := 550) X (xdec_at tL_things_7 13 rfl) (by decide) (fun _ => ?_) (fun h9 => absurd h9 e35)
                  refine v_iload X (xdec_at tL_things_7 18 rfl) rfl ?_
                  refine v_aload_n X (xdec_at tL_things_7 19 rfl) rfl rfl ?_
                  refine v_iload X (xdec_at tL_things_7 20 rfl) rfl ?_
                  refine v_iload X (xdec_at tL_things_7 21 rfl) rfl ?_
                  refine v_iconst (v := 1) X (xdec_at tL_things_7 22 rfl) (by decide) ?_
                  refine v_isub X (xdec_at tL_things_7 23 rfl) ?_
                  refine v_st (st' := [.int (nI (n - 1)), .int (nI u0), .ref (l7 (0, 0)), .int (tb.2.1 u0 (n - 1))]) (by rw [n2, show (1 : Int32) = nI 1 from rfl, pk_sub (b := 1) (by omega)] <;> rfl) ?_
                  refine v_wN X hE myX4_hand [.int (nI u0), .int (nI (n - 1))] [.int (tb.2.1 u0 (n - 1))] (qy_hand (t := u0) (n := n - 1) hl0 hJ.I hJ.H.choose_spec (show u0 < nT (nuO μ u0) from by rw [eOT]; exact hu0) (show (nuO μ u0).1 35 u0 = nI n from by rw [eO 35 (by decide)]; exact n2) (by omega) (by omega)) (xw_at tW_11 36 rfl) (0, 0) cX_X rfl rfl rfl rfl (by rfl) (Nat.le_of_ble_eq_true rfl) (xdec_at tL_things_7 24 rfl) ⟨(Nat.le_of_ble_eq_true rfl), (Nat.le_of_ble_eq_true rfl)⟩ ⟨(Nat.le_of_ble_eq_true rfl), (Nat.le_of_ble_eq_true rfl)⟩ ?_
                  rintro v9 lay9 C9 ⟨rfl, rfl, rfl⟩
                  refine v_icmp_ne (tgt := 569) X (xdec_at tL_things_7 25 rfl) (by decide) (fun h9 => absurd rfl h9) (fun _ => ?_)
                  refine v_iconst (v := 1) X (xdec_at tL_things_7 26 rfl) (by decide) ?_
                  refine v_goto (tgt := 570) X (xdec_at tL_things_7 27 rfl) (by decide) ?_
                  exact v_xr (v_zret X hr (xdec_at tL_things_7 29 rfl) (Nat.le_of_ble_eq_true rfl) (Nat.le_of_ble_eq_true rfl) (by rfl) ⟨rfl, y_l7, (nuO μ u0), tb, (by rw [dv_e (μ := μ) (ν := (nuO μ u0)) (by rw [eO 0 (by decide)]) (by rw [eO 10 (by decide)]) (by rw [eO 16 (by decide)])] <;> rfl), hJ.up, (by unfold nG nP; rw [eO 10 (by decide), eO 0 (by decide)]; exact hg), Nat.le_refl _⟩)
              · refine v_aload_n X (xdec_at tL_things_5 33 rfl) rfl rfl ?_
                refine v_aload_n X (xdec_at tL_things_5 34 rfl) rfl rfl ?_
                refine v_bipush (v := 14) X (xdec_at tL_things_5 35 rfl) (by decide) ?_
                refine v_iload X (xdec_at tL_things_5 36 rfl) rfl ?_
                refine v_iconst (v := 0) X (xdec_at tL_things_5 37 rfl) (by decide) ?_
                refine v_iconst (v := 0) X (xdec_at tL_things_5 38 rfl) (by decide) ?_
                refine v_iconst (v := 0) X (xdec_at tL_things_5 39 rfl) (by decide) ?_
                refine v_wL X hE myL_both [.ref (lay (0, 0)), .ref (lay (500, 0)), .int 14, .int (nI u0), .int 0, .int 0, .int 0] [] (both_of rfl (ckE_lose_2 hl0 hL (show (M_lose μ (nI u0)).2.1 38 0 = 2 from by unfold M_lose; rw [if_pos g1.1, g1.2, if_neg hu]; exact th_38 _ 2))) (xw_at tW_6 11 rfl) rfl rfl (by rfl) (Nat.le_of_ble_eq_true rfl) (xdec_at tL_things_6 0 rfl) ⟨(Nat.le_of_ble_eq_true rfl), (Nat.le_of_ble_eq_true rfl)⟩ ⟨(Nat.le_of_ble_eq_true rfl), (Nat.le_of_ble_eq_true rfl)⟩ ?_
                rintro v9 l8 C9 ⟨rfl, y_l8, rfl⟩
                rw [← y_l8.1, ← y_l8.2.1, ← y_l8.2.2 (300, 0) (by decide) (by decide)]
                refine v_istore (lv' := [some (.ref (l8 (0, 0))), some (.ref (l8 (500, 0))), some (.ref (l8 (300, 0))), some (.int x), some (.int z), some (.int (nI u0)), some (.int (nI u1)), some (.int (μ.1 23 u0)), some (.int (μ.1 24 u0)), some (.int (μ.1 19 u0)), some (.int 0), some (.int (μ.1 35 u0)), some (.int (-2000000003)), none, none, none, none]) X (xdec_at tL_things_6 1 rfl) (by decide) rfl ?_
                refine v_iload X (xdec_at tL_things_6 2 rfl) rfl ?_
                refine v_ldc (v := -2000000001) X (xw_at tW_12 0 rfl) (xdec_at tL_things_6 3 rfl) ?_
                refine v_icmp_ne (tgt := 469) X (xdec_at tL_things_6 4 rfl) (by decide) (fun _ => ?_) (fun h9 => absurd h9 (by decide))
                refine v_iload X (xdec_at tL_things_6 17 rfl) rfl ?_
                refine v_ldc (v := -2000000003) X (xw_at tW_12 2 rfl) (xdec_at tL_things_6 18 rfl) ?_
                refine v_icmp_ne (tgt := 490) X (xdec_at tL_things_6 19 rfl) (by decide) (fun h9 => absurd h9 (by decide)) (fun _ => ?_)
                refine v_iload X (xdec_at tL_things_6 20 rfl) rfl ?_
                refine v_iconst (v := 1) X (xdec_at tL_things_6 21 rfl) (by decide) ?_
                refine v_icmp_le (tgt := 486) X (xdec_at tL_things_6 22 rfl) (by decide) (fun h9 => absurd h9 (Int32.not_le.mpr (st_gt hTP.1 hu).1)) (fun _ => ?_)
                refine v_iconst (v := 1) X (xdec_at tL_things_6 23 rfl) (by decide) ?_
                refine v_goto (tgt := 570) X (xdec_at tL_things_6 24 rfl) (by decide) ?_
                exact v_xr (v_zret X hr (xdec_at tL_things_7 29 rfl) (Nat.le_of_ble_eq_true rfl) (Nat.le_of_ble_eq_true rfl) (by rfl) ⟨rfl, y_l8, μ, tb, rfl, hL.up.up, hg, Nat.le_refl _⟩)
            · refine v_aload_n X (xdec_at tL_things_5 25 rfl) rfl rfl ?_
              refine v_bipush (v := 14) X (xdec_at tL_things_5 26 rfl) (by decide) ?_
              refine v_iconst (v := (-1)) X (xdec_at tL_things_5 27 rfl) (by decide) ?_
              refine v_iconst (v := 0) X (xdec_at tL_things_5 28 rfl) (by decide) ?_
              refine v_iconst (v := 0) X (xdec_at tL_things_5 29 rfl) (by decide) ?_
              refine v_iconst (v := 0) X (xdec_at tL_things_5 30 rfl) (by decide) ?_
              refine v_wC X hE mw_call [.ref (lay (0, 0)), .int 14, .int (-1), .int 0, .int 0, .int 0] [] (call_W rfl (ckE_lose_1 hl0 hL (show (M_lose μ (-1)).2.1 38 0 = 1 from by unfold M_lose; rw [if_neg (notT_m hL.I)]; exact th_38 μ 1))) (xw_at tW_6 13 rfl) rfl (by rfl) (Nat.le_of_ble_eq_true rfl) (xdec_at tL_things_5 31 rfl) ⟨(Nat.le_of_ble_eq_true rfl), (Nat.le_of_ble_eq_true rfl)⟩ ⟨(Nat.le_of_ble_eq_true rfl), (Nat.le_of_ble_eq_true rfl)⟩ ?_
              rintro v9 l9 C9 ⟨rfl, y_l9, rfl⟩
              rw [← y_l9.1, ← y_l9.2.1, ← y_l9.2.2 (300, 0) (by decide) (by decide)]
              refine v_goto (tgt := 440) X (xdec_at tL_things_5 32 rfl) (by decide) ?_
              refine v_istore (lv' := [some (.ref (l9 (0, 0))), some (.ref (l9 (500, 0))), some (.ref (l9 (300, 0))), some (.int x), some (.int z), some (.int (nI u0)), some (.int (nI u1)), some (.int (μ.1 23 u0)), some (.int (μ.1 24 u0)), some (.int (μ.1 19 u0)), some (.int 0), some (.int (μ.1 35 u0)), some (.int (-2000000001)), none, none, none, none]) X (xdec_at tL_things_6 1 rfl) (by decide) rfl ?_
              refine v_iload X (xdec_at tL_things_6 2 rfl) rfl ?_
              refine v_ldc (v := -2000000001) X (xw_at tW_12 0 rfl) (xdec_at tL_things_6 3 rfl) ?_
              refine v_icmp_ne (tgt := 469) X (xdec_at tL_things_6 4 rfl) (by decide) (fun h9 => absurd h9 (by decide)) (fun _ => ?_)
              refine v_aload_n X (xdec_at tL_things_6 5 rfl) rfl rfl ?_
              refine v_iload X (xdec_at tL_things_6 6 rfl) rfl ?_
              refine v_iconst (v := 0) X (xdec_at tL_things_6 7 rfl) (by decide) ?_
              refine v_wN X hE myX4_ofThing [.int (nI u0), .int 0] [] (qy_ofThing (t := u0) (w := 0) hl0 hL.I hL.K hu0 (by decide)) (xw_at tW_5 30 rfl) (0, 0) cX_X rfl rfl rfl rfl (by rfl) (Nat.le_of_ble_eq_true rfl) (xdec_at tL_things_6 8 rfl) ⟨(Nat.le_of_ble_eq_true rfl), (Nat.le_of_ble_eq_true rfl)⟩ ⟨(Nat.le_of_ble_eq_true rfl), (Nat.le_of_ble_eq_true rfl)⟩ ?_
              rintro v9 lay9 C9 ⟨rfl, rfl, rfl⟩
              refine v_iload X (xdec_at tL_things_6 9 rfl) rfl ?_
              refine v_i2l X (xdec_at tL_things_6 10 rfl) rfl ?_
              refine v_lcmp X (xdec_at tL_things_6 11 rfl) ?_
              refine v_if_ne (tgt := 467) X (xdec_at tL_things_6 12 rfl) (by decide) (fun h9 => absurd (lcz rfl) h9) (fun _ => ?_)
              refine v_iconst (v := 1) X (xdec_at tL_things_6 13 rfl) (by decide) ?_
              refine v_goto (tgt := 468) X (xdec_at tL_things_6 14 rfl) (by decide) ?_
              exact v_xr (v_zret X hr (xdec_at tL_things_6 16 rfl) (Nat.le_of_ble_eq_true rfl) (Nat.le_of_ble_eq_true rfl) (by rfl) ⟨rfl, y_l9, μ, tb, rfl, hL.up.up, hg, Nat.le_refl _⟩)
        · refine v_iload X (xdec_at tL_things_3 37 rfl) rfl ?_
          refine v_iconst (v := 5) X (xdec_at tL_things_3 38 rfl) (by decide) ?_
          refine v_ishr X (xdec_at tL_things_3 39 rfl) fun u4 => ?_
          refine v_iconst (v := 3) X (xdec_at tL_things_4 0 rfl) (by decide) ?_
          refine v_wL X hE myL_some [.int u4, .int (nI 3)] [] (c_some u4 (n := 3) (by decide) (by decide)) (xw_at tW_2 29 rfl) rfl rfl (by rfl) (Nat.le_of_ble_eq_true rfl) (xdec_at tL_things_4 1 rfl) ⟨(Nat.le_of_ble_eq_true rfl), (Nat.le_of_ble_eq_true rfl)⟩ ⟨(Nat.le_of_ble_eq_true rfl), (Nat.le_of_ble_eq_true rfl)⟩ ?_
          rintro v9 lay9 C9 ⟨rfl, rfl, u5, hu5, rfl⟩
          refine v_if_le (tgt := 301) X (xdec_at tL_things_4 2 rfl) (by decide) (fun c_294 => ?_) (fun c_294 => ?_)
          · refine v_iconst (v := 0) X (xdec_at tL_things_4 5 rfl) (by decide) ?_
            refine v_istore (lv' := [some (.ref (lay (0, 0))), some (.ref (lay (500, 0))), some (.ref (lay (300, 0))), some (.int x), some (.int z), some (.int (nI u0)), some (.int (nI u1)), some (.int (μ.1 23 u0)), some (.int (μ.1 24 u0)), some (.int (μ.1 19 u0)), some (.int 0), some (.int 0), none, none, none, none, none]) X (xdec_at tL_things_4 6 rfl) (by decide) rfl ?_
            by_cases hu : undW μ u0
            · refine v_aload_n X (xdec_at tL_things_4 7 rfl) rfl rfl ?_
              refine v_aload_n X (xdec_at tL_things_4 8 rfl) rfl rfl ?_
              refine v_bipush (v := 12) X (xdec_at tL_things_4 9 rfl) (by decide) ?_
              refine v_iload X (xdec_at tL_things_4 10 rfl) rfl ?_
              refine v_iload X (xdec_at tL_things_4 11 rfl) rfl ?_
              refine v_iconst (v := 0) X (xdec_at tL_things_4 12 rfl) (by decide) ?_
              refine v_iconst (v := 0) X (xdec_at tL_things_4 13 rfl) (by decide) ?_
              obtain ⟨eM, hJ⟩ := cm_refuse (c := bo 0) hL hu0 (bo01 0) hu h27
              have h01 := hL.I.b (j := 28) (i := u0) (Or.inl rfl)
              refine v_wL X hE myL_both [.ref (lay (0, 0)), .ref (lay (500, 0)), .int 12, .int (nI u0), .int 0, .int 0, .int 0] [] (both_of rfl (ckS_refuse hl0 hL eM hJ.z)) (xw_at tW_6 11 rfl) rfl rfl (by rfl) (Nat.le_of_ble_eq_true rfl) (xdec_at tL_things_4 14 rfl) ⟨(Nat.le_of_ble_eq_true rfl), (Nat.le_of_ble_eq_true rfl)⟩ ⟨(Nat.le_of_ble_eq_true rfl), (Nat.le_of_ble_eq_true rfl)⟩ ?_
              rintro v9 l10 C9 ⟨rfl, y_l10, rfl⟩
              rw [← y_l10.1, ← y_l10.2.1, ← y_l10.2.2 (300, 0) (by decide) (by decide)]
              refine v_istore (lv' := [some (.ref (l10 (0, 0))), some (.ref (l10 (500, 0))), some (.ref (l10 (300, 0))), some (.int x), some (.int z), some (.int (nI u0)), some (.int (nI u1)), some (.int (μ.1 23 u0)), some (.int (μ.1 24 u0)), some (.int (μ.1 19 u0)), some (.int 0), some (.int 0), some (.int (μ.1 28 u0)), none, none, none, none]) X (xdec_at tL_things_4 15 rfl) (by decide) rfl ?_
              rcases h01 with h01 | h01
              · refine v_iload X (xdec_at tL_things_4 16 rfl) rfl ?_
                refine v_ldc (v := -2000000003) X (xw_at tW_12 2 rfl) (xdec_at tL_things_4 17 rfl) ?_
                refine v_icmp_ne (tgt := 345) X (xdec_at tL_things_4 18 rfl) (by decide) (fun _ => ?_) (fun h9 => absurd h9 (show ¬ _ = (-2000000003 : Int32) from by rw [h01]; decide))
                refine v_iload X (xdec_at tL_things_4 28 rfl) rfl ?_
                refine v_if_eq (tgt := 356) X (xdec_at tL_things_4 29 rfl) (by decide) (fun _ => ?_) (fun h9 => absurd h01 h9)
                refine v_iload X (xdec_at tL_things_4 33 rfl) rfl ?_
                refine v_iconst (v := 2) X (xdec_at tL_things_4 34 rfl) (by decide) ?_
                refine v_icmp_ge (tgt := 384) X (xdec_at tL_things_4 35 rfl) (by decide) (fun h9 => absurd h9 (st_lt hu).2.1) (fun _ => ?_)
                refine v_aload_n X (xdec_at tL_things_4 36 rfl) rfl rfl ?_
                refine v_aload_n X (xdec_at tL_things_4 37 rfl) rfl rfl ?_
                refine v_bipush (v := 12) X (xdec_at tL_things_4 38 rfl) (by decide) ?_
                refine v_iload X (xdec_at tL_things_4 39 rfl) rfl ?_
                refine v_iload X (xdec_at tL_things_5 0 rfl) rfl ?_
                refine v_iconst (v := 0) X (xdec_at tL_things_5 1 rfl) (by decide) ?_
                refine v_iconst (v := 0) X (xdec_at tL_things_5 2 rfl) (by decide) ?_
                obtain ⟨eM2, hJ2⟩ := cm_refuse (μ := (up2 μ.1 28 u0 (bo 0), μ.2)) (c := bo 0) hJ (show u0 < nT μ from hu0) (bo01 0) hu h27
                refine v_wL X hE myL_both [.ref (l10 (0, 0)), .ref (l10 (500, 0)), .int 12, .int (nI u0), .int 0, .int 0, .int 0] [] (both_of rfl (ckS_refuse hl0 hJ eM2 hJ2.z)) (xw_at tW_6 11 rfl) rfl rfl (by rfl) (Nat.le_of_ble_eq_true rfl) (xdec_at tL_things_5 3 rfl) ⟨(Nat.le_of_ble_eq_true rfl), (Nat.le_of_ble_eq_true rfl)⟩ ⟨(Nat.le_of_ble_eq_true rfl), (Nat.le_of_ble_eq_true rfl)⟩ ?_
                rintro v9 l11 C9 ⟨rfl, y_l11, rfl⟩
                rw [← y_l11.1, ← y_l11.2.1, ← y_l11.2.2 (300, 0) (by decide) (by decide)]
                refine v_iload X (xdec_at tL_things_5 4 rfl) rfl ?_
                refine v_icmp_ne (tgt := 384) X (xdec_at tL_things_5 5 rfl) (by decide) (fun h9 => absurd (show up2 μ.1 28 u0 (bo 0) 28 u0 = 0 from u_at.trans (by decide)) h9) (fun _ => ?_)
                refine v_iconst (v := 1) X (xdec_at tL_things_5 6 rfl) (by decide) ?_
                refine v_goto (tgt := 385) X (xdec_at tL_things_5 7 rfl) (by decide) ?_
                exact v_xr (v_zret X hr (xdec_at tL_things_5 9 rfl) (Nat.le_of_ble_eq_true rfl) (Nat.le_of_ble_eq_true rfl) (by rfl) ⟨rfl, (lyL_tr y_l10 y_l11), (up2 (up2 μ.1 28 u0 (bo 0), μ.2).1 28 u0 (bo 0), (up2 μ.1 28 u0 (bo 0), μ.2).2), tb, (by rw [dv_e (μ := μ) (ν := (up2 (up2 μ.1 28 u0 (bo 0), μ.2).1 28 u0 (bo 0), (up2 μ.1 28 u0 (bo 0), μ.2).2)) rfl rfl rfl] <;> rfl), hJ2, hg, Nat.le_refl _⟩)
              · refine v_iload X (xdec_at tL_things_4 16 rfl) rfl ?_
                refine v_ldc (v := -2000000003) X (xw_at tW_12 2 rfl) (xdec_at tL_things_4 17 rfl) ?_
                refine v_icmp_ne (tgt := 345) X (xdec_at tL_things_4 18 rfl) (by decide) (fun _ => ?_) (fun h9 => absurd h9 (show ¬ _ = (-2000000003 : Int32) from by rw [h01]; decide))
                refine v_iload X (xdec_at tL_things_4 28 rfl) rfl ?_
                refine v_if_eq (tgt := 356) X (xdec_at tL_things_4 29 rfl) (by decide) (fun h9 => absurd h9 (show ¬ _ = (0 : Int32) from by rw [h01]; decide)) (fun _ => ?_)
                refine v_iload X (xdec_at tL_things_4 30 rfl) rfl ?_
                refine v_iconst (v := 1) X (xdec_at tL_things_4 31 rfl) (by decide) ?_
                refine v_icmp_ne (tgt := 384) X (xdec_at tL_things_4 32 rfl) (by decide) (fun h9 => absurd h01 h9) (fun _ => ?_)
                refine v_iload X (xdec_at tL_things_4 33 rfl) rfl ?_
                refine v_iconst (v := 2) X (xdec_at tL_things_4 34 rfl) (by decide) ?_
                refine v_icmp_ge (tgt := 384) X (xdec_at tL_things_4 35 rfl) (by decide) (fun h9 => absurd h9 (st_lt hu).2.1) (fun _ => ?_)
                refine v_aload_n X (xdec_at tL_things_4 36 rfl) rfl rfl ?_
                refine v_aload_n X (xdec_at tL_things_4 37 rfl) rfl rfl ?_
                refine v_bipush (v := 12) X (xdec_at tL_things_4 38 rfl) (by decide) ?_
                refine v_iload X (xdec_at tL_things_4 39 rfl) rfl ?_
                refine v_iload X (xdec_at tL_things_5 0 rfl) rfl ?_
                refine v_iconst (v := 0) X (xdec_at tL_things_5 1 rfl) (by decide) ?_
                refine v_iconst (v := 0) X (xdec_at tL_things_5 2 rfl) (by decide) ?_
                obtain ⟨eM2, hJ2⟩ := cm_refuse (μ := (up2 μ.1 28 u0 (bo 0), μ.2)) (c := bo 0) hJ (show u0 < nT μ from hu0) (bo01 0) hu h27
                refine v_wL X hE myL_both [.ref (l10 (0, 0)), .ref (l10 (500, 0)), .int 12, .int (nI u0), .int 0, .int 0, .int 0] [] (both_of rfl (ckS_refuse hl0 hJ eM2 hJ2.z)) (xw_at tW_6 11 rfl) rfl rfl (by rfl) (Nat.le_of_ble_eq_true rfl) (xdec_at tL_things_5 3 rfl) ⟨(Nat.le_of_ble_eq_true rfl), (Nat.le_of_ble_eq_true rfl)⟩ ⟨(Nat.le_of_ble_eq_true rfl), (Nat.le_of_ble_eq_true rfl)⟩ ?_
                rintro v9 l12 C9 ⟨rfl, y_l12, rfl⟩
                rw [← y_l12.1, ← y_l12.2.1, ← y_l12.2.2 (300, 0) (by decide) (by decide)]
                refine v_iload X (xdec_at tL_things_5 4 rfl) rfl ?_
                refine v_icmp_ne (tgt := 384) X (xdec_at tL_things_5 5 rfl) (by decide) (fun h9 => absurd (show up2 μ.1 28 u0 (bo 0) 28 u0 = 0 from u_at.trans (by decide)) h9) (fun _ => ?_)
                refine v_iconst (v := 1) X (xdec_at tL_things_5 6 rfl) (by decide) ?_
                refine v_goto (tgt := 385) X (xdec_at tL_things_5 7 rfl) (by decide) ?_
                exact v_xr (v_zret X hr (xdec_at tL_things_5 9 rfl) (Nat.le_of_ble_eq_true rfl) (Nat.le_of_ble_eq_true rfl) (by rfl) ⟨rfl, (lyL_tr y_l10 y_l12), (up2 (up2 μ.1 28 u0 (bo 0), μ.2).1 28 u0 (bo 0), (up2 μ.1 28 u0 (bo 0), μ.2).2), tb, (by rw [dv_e (μ := μ) (ν := (up2 (up2 μ.1 28 u0 (bo 0), μ.2).1 28 u0 (bo 0), (up2 μ.1 28 u0 (bo 0), μ.2).2)) rfl rfl rfl] <;> rfl), hJ2, hg, Nat.le_refl _⟩)
            · refine v_aload_n X (xdec_at tL_things_4 7 rfl) rfl rfl ?_
              refine v_aload_n X (xdec_at tL_things_4 8 rfl) rfl rfl ?_
              refine v_bipush (v := 12) X (xdec_at tL_things_4 9 rfl) (by decide) ?_
              refine v_iload X (xdec_at tL_things_4 10 rfl) rfl ?_
              refine v_iload X (xdec_at tL_things_4 11 rfl) rfl ?_
              refine v_iconst (v := 0) X (xdec_at tL_things_4 12 rfl) (by decide) ?_
              refine v_iconst (v := 0) X (xdec_at tL_things_4 13 rfl) (by decide) ?_
              refine v_wL X hE myL_both [.ref (lay (0, 0)), .ref (lay (500, 0)), .int 12, .int (nI u0), .int 0, .int 0, .int 0] [] (both_of rfl (ckE_refuse_2 hl0 hL (show (M_refuse μ (nI u0) (bo 0)).2.1 38 0 = 2 from by unfold M_refuse; rw [if_pos g1.1, g1.2, if_pos (Or.inl hu)]; exact th_38 _ 2))) (xw_at tW_6 11 rfl) rfl rfl (by rfl) (Nat.le_of_ble_eq_true rfl) (xdec_at tL_things_4 14 rfl) ⟨(Nat.le_of_ble_eq_true rfl), (Nat.le_of_ble_eq_true rfl)⟩ ⟨(Nat.le_of_ble_eq_true rfl), (Nat.le_of_ble_eq_true rfl)⟩ ?_
              rintro v9 l13 C9 ⟨rfl, y_l13, rfl⟩
              rw [← y_l13.1, ← y_l13.2.1, ← y_l13.2.2 (300, 0) (by decide) (by decide)]
              refine v_istore (lv' := [some (.ref (l13 (0, 0))), some (.ref (l13 (500, 0))), some (.ref (l13 (300, 0))), some (.int x), some (.int z), some (.int (nI u0)), some (.int (nI u1)), some (.int (μ.1 23 u0)), some (.int (μ.1 24 u0)), some (.int (μ.1 19 u0)), some (.int 0), some (.int 0), some (.int (-2000000003)), none, none, none, none]) X (xdec_at tL_things_4 15 rfl) (by decide) rfl ?_
              refine v_iload X (xdec_at tL_things_4 16 rfl) rfl ?_
              refine v_ldc (v := -2000000003) X (xw_at tW_12 2 rfl) (xdec_at tL_things_4 17 rfl) ?_
              refine v_icmp_ne (tgt := 345) X (xdec_at tL_things_4 18 rfl) (by decide) (fun h9 => absurd h9 (by decide)) (fun _ => ?_)
              refine v_iload X (xdec_at tL_things_4 19 rfl) rfl ?_
              refine v_iconst (v := 1) X (xdec_at tL_things_4 20 rfl) (by decide) ?_
              refine v_icmp_gt (tgt := 337) X (xdec_at tL_things_4 21 rfl) (by decide) (fun _ => ?_) (fun h9 => absurd (st_gt hTP.1 hu).1 h9)
              refine v_iconst (v := 1) X (xdec_at tL_things_4 24 rfl) (by decide) ?_
              refine v_goto (tgt := 385) X (xdec_at tL_things_4 25 rfl) (by decide) ?_
              exact v_xr (v_zret X hr (xdec_at tL_things_5 9 rfl) (Nat.le_of_ble_eq_true rfl) (Nat.le_of_ble_eq_true rfl) (by rfl) ⟨rfl, y_l13, μ, tb, rfl, hL.up.up, hg, Nat.le_refl _⟩)
          · refine v_iconst (v := 1) X (xdec_at tL_things_4 3 rfl) (by decide) ?_
            refine v_goto (tgt := 302) X (xdec_at tL_things_4 4 rfl) (by decide) ?_
            refine v_istore (lv' := [some (.ref (lay (0, 0))), some (.ref (lay (500, 0))), some (.ref (lay (300, 0))), some (.int x), some (.int z), some (.int (nI u0)), some (.int (nI u1)), some (.int (μ.1 23 u0)), some (.int (μ.1 24 u0)), some (.int (μ.1 19 u0)), some (.int 0), some (.int 1), none, none, none, none, none]) X (xdec_at tL_things_4 6 rfl) (by decide) rfl ?_
            by_cases hu : undW μ u0
            · refine v_aload_n X (xdec_at tL_things_4 7 rfl) rfl rfl ?_
              refine v_aload_n X (xdec_at tL_things_4 8 rfl) rfl rfl ?_
              refine v_bipush (v := 12) X (xdec_at tL_things_4 9 rfl) (by decide) ?_
              refine v_iload X (xdec_at tL_things_4 10 rfl) rfl ?_
              refine v_iload X (xdec_at tL_things_4 11 rfl) rfl ?_
              refine v_iconst (v := 0) X (xdec_at tL_things_4 12 rfl) (by decide) ?_
              refine v_iconst (v := 0) X (xdec_at tL_things_4 13 rfl) (by decide) ?_
              obtain ⟨eM, hJ⟩ := cm_refuse (c := bo 1) hL hu0 (bo01 1) hu h27
              have h01 := hL.I.b (j := 28) (i := u0) (Or.inl rfl)
              refine v_wL X hE myL_both [.ref (lay (0, 0)), .ref (lay (500, 0)), .int 12, .int (nI u0), .int 1, .int 0, .int 0] [] (both_of rfl (ckS_refuse hl0 hL eM hJ.z)) (xw_at tW_6 11 rfl) rfl rfl (by rfl) (Nat.le_of_ble_eq_true rfl) (xdec_at tL_things_4 14 rfl) ⟨(Nat.le_of_ble_eq_true rfl), (Nat.le_of_ble_eq_true rfl)⟩ ⟨(Nat.le_of_ble_eq_true rfl), (Nat.le_of_ble_eq_true rfl)⟩ ?_
              rintro v9 l14 C9 ⟨rfl, y_l14, rfl⟩
              rw [← y_l14.1, ← y_l14.2.1, ← y_l14.2.2 (300, 0) (by decide) (by decide)]
              refine v_istore (lv' := [some (.ref (l14 (0, 0))), some (.ref (l14 (500, 0))), some (.ref (l14 (300, 0))), some (.int x), some (.int z), some (.int (nI u0)), some (.int (nI u1)), some (.int (μ.1 23 u0)), some (.int (μ.1 24 u0)), some (.int (μ.1 19 u0)), some (.int 0), some (.int 1), some (.int (μ.1 28 u0)), none, none, none, none]) X (xdec_at tL_things_4 15 rfl) (by decide) rfl ?_
              rcases h01 with h01 | h01
              · refine v_iload X (xdec_at tL_things_4 16 rfl) rfl ?_
                refine v_ldc (v := -2000000003) X (xw_at tW_12 2 rfl) (xdec_at tL_things_4 17 rfl) ?_
                refine v_icmp_ne (tgt := 345) X (xdec_at tL_things_4 18 rfl) (by decide) (fun _ => ?_) (fun h9 => absurd h9 (show ¬ _ = (-2000000003 : Int32) from by rw [h01]; decide))
                refine v_iload X (xdec_at tL_things_4 28 rfl) rfl ?_
                refine v_if_eq (tgt := 356) X (xdec_at tL_things_4 29 rfl) (by decide) (fun _ => ?_) (fun h9 => absurd h01 h9)
                refine v_iload X (xdec_at tL_things_4 33 rfl) rfl ?_
                refine v_iconst (v := 2) X (xdec_at tL_things_4 34 rfl) (by decide) ?_
                refine v_icmp_ge (tgt := 384) X (xdec_at tL_things_4 35 rfl) (by decide) (fun h9 => absurd h9 (st_lt hu).2.1) (fun _ => ?_)
                refine v_aload_n X (xdec_at tL_things_4 36 rfl) rfl rfl ?_
                refine v_aload_n X (xdec_at tL_things_4 37 rfl) rfl rfl ?_
                refine v_bipush (v := 12) X (xdec_at tL_things_4 38 rfl) (by decide) ?_
                refine v_iload X (xdec_at tL_things_4 39 rfl) rfl ?_
                refine v_iload X (xdec_at tL_things_5 0 rfl) rfl ?_
                refine v_iconst (v := 0) X (xdec_at tL_things_5 1 rfl) (by decide) ?_
                refine v_iconst (v := 0) X (xdec_at tL_things_5 2 rfl) (by decide) ?_
                obtain ⟨eM2, hJ2⟩ := cm_refuse (μ := (up2 μ.1 28 u0 (bo 1), μ.2)) (c := bo 1) hJ (show u0 < nT μ from hu0) (bo01 1) hu h27
                refine v_wL X hE myL_both [.ref (l14 (0, 0)), .ref (l14 (500, 0)), .int 12, .int (nI u0), .int 1, .int 0, .int 0] [] (both_of rfl (ckS_refuse hl0 hJ eM2 hJ2.z)) (xw_at tW_6 11 rfl) rfl rfl (by rfl) (Nat.le_of_ble_eq_true rfl) (xdec_at tL_things_5 3 rfl) ⟨(Nat.le_of_ble_eq_true rfl), (Nat.le_of_ble_eq_true rfl)⟩ ⟨(Nat.le_of_ble_eq_true rfl), (Nat.le_of_ble_eq_true rfl)⟩ ?_
                rintro v9 l15 C9 ⟨rfl, y_l15, rfl⟩
                rw [← y_l15.1, ← y_l15.2.1, ← y_l15.2.2 (300, 0) (by decide) (by decide)]
                refine v_iload X (xdec_at tL_things_5 4 rfl) rfl ?_
                refine v_icmp_ne (tgt := 384) X (xdec_at tL_things_5 5 rfl) (by decide) (fun h9 => absurd (show up2 μ.1 28 u0 (bo 1) 28 u0 = 1 from u_at.trans (by decide)) h9) (fun _ => ?_)
                refine v_iconst (v := 1) X (xdec_at tL_things_5 6 rfl) (by decide) ?_
                refine v_goto (tgt := 385) X (xdec_at tL_things_5 7 rfl) (by decide) ?_
                exact v_xr (v_zret X hr (xdec_at tL_things_5 9 rfl) (Nat.le_of_ble_eq_true rfl) (Nat.le_of_ble_eq_true rfl) (by rfl) ⟨rfl, (lyL_tr y_l14 y_l15), (up2 (up2 μ.1 28 u0 (bo 1), μ.2).1 28 u0 (bo 1), (up2 μ.1 28 u0 (bo 1), μ.2).2), tb, (by rw [dv_e (μ := μ) (ν := (up2 (up2 μ.1 28 u0 (bo 1), μ.2).1 28 u0 (bo 1), (up2 μ.1 28 u0 (bo 1), μ.2).2)) rfl rfl rfl] <;> rfl), hJ2, hg, Nat.le_refl _⟩)
              · refine v_iload X (xdec_at tL_things_4 16 rfl) rfl ?_
                refine v_ldc (v := -2000000003) X (xw_at tW_12 2 rfl) (xdec_at tL_things_4 17 rfl) ?_
                refine v_icmp_ne (tgt := 345) X (xdec_at tL_things_4 18 rfl) (by decide) (fun _ => ?_) (fun h9 => absurd h9 (show ¬ _ = (-2000000003 : Int32) from by rw [h01]; decide))
                refine v_iload X (xdec_at tL_things_4 28 rfl) rfl ?_
                refine v_if_eq (tgt := 356) X (xdec_at tL_things_4 29 rfl) (by decide) (fun h9 => absurd h9 (show ¬ _ = (0 : Int32) from by rw [h01]; decide)) (fun _ => ?_)
                refine v_iload X (xdec_at tL_things_4 30 rfl) rfl ?_
                refine v_iconst (v := 1) X (xdec_at tL_things_4 31 rfl) (by decide) ?_
                refine v_icmp_ne (tgt := 384) X (xdec_at tL_things_4 32 rfl) (by decide) (fun h9 => absurd h01 h9) (fun _ => ?_)
                refine v_iload X (xdec_at tL_things_4 33 rfl) rfl ?_
                refine v_iconst (v := 2) X (xdec_at tL_things_4 34 rfl) (by decide) ?_
                refine v_icmp_ge (tgt := 384) X (xdec_at tL_things_4 35 rfl) (by decide) (fun h9 => absurd h9 (st_lt hu).2.1) (fun _ => ?_)
                refine v_aload_n X (xdec_at tL_things_4 36 rfl) rfl rfl ?_
                refine v_aload_n X (xdec_at tL_things_4 37 rfl) rfl rfl ?_
                refine v_bipush (v := 12) X (xdec_at tL_things_4 38 rfl) (by decide) ?_
                refine v_iload X (xdec_at tL_things_4 39 rfl) rfl ?_
                refine v_iload X (xdec_at tL_things_5 0 rfl) rfl ?_
                refine v_iconst (v := 0) X (xdec_at tL_things_5 1 rfl) (by decide) ?_
                refine v_iconst (v := 0) X (xdec_at tL_things_5 2 rfl) (by decide) ?_
                obtain ⟨eM2, hJ2⟩ := cm_refuse (μ := (up2 μ.1 28 u0 (bo 1), μ.2)) (c := bo 1) hJ (show u0 < nT μ from hu0) (bo01 1) hu h27
                refine v_wL X hE myL_both [.ref (l14 (0, 0)), .ref (l14 (500, 0)), .int 12, .int (nI u0), .int 1, .int 0, .int 0] [] (both_of rfl (ckS_refuse hl0 hJ eM2 hJ2.z)) (xw_at tW_6 11 rfl) rfl rfl (by rfl) (Nat.le_of_ble_eq_true rfl) (xdec_at tL_things_5 3 rfl) ⟨(Nat.le_of_ble_eq_true rfl), (Nat.le_of_ble_eq_true rfl)⟩ ⟨(Nat.le_of_ble_eq_true rfl), (Nat.le_of_ble_eq_true rfl)⟩ ?_
                rintro v9 l16 C9 ⟨rfl, y_l16, rfl⟩
                rw [← y_l16.1, ← y_l16.2.1, ← y_l16.2.2 (300, 0) (by decide) (by decide)]
                refine v_iload X (xdec_at tL_things_5 4 rfl) rfl ?_
                refine v_icmp_ne (tgt := 384) X (xdec_at tL_things_5 5 rfl) (by decide) (fun h9 => absurd (show up2 μ.1 28 u0 (bo 1) 28 u0 = 1 from u_at.trans (by decide)) h9) (fun _ => ?_)
                refine v_iconst (v := 1) X (xdec_at tL_things_5 6 rfl) (by decide) ?_
                refine v_goto (tgt := 385) X (xdec_at tL_things_5 7 rfl) (by decide) ?_
                exact v_xr (v_zret X hr (xdec_at tL_things_5 9 rfl) (Nat.le_of_ble_eq_true rfl) (Nat.le_of_ble_eq_true rfl) (by rfl) ⟨rfl, (lyL_tr y_l14 y_l16), (up2 (up2 μ.1 28 u0 (bo 1), μ.2).1 28 u0 (bo 1), (up2 μ.1 28 u0 (bo 1), μ.2).2), tb, (by rw [dv_e (μ := μ) (ν := (up2 (up2 μ.1 28 u0 (bo 1), μ.2).1 28 u0 (bo 1), (up2 μ.1 28 u0 (bo 1), μ.2).2)) rfl rfl rfl] <;> rfl), hJ2, hg, Nat.le_refl _⟩)
            · refine v_aload_n X (xdec_at tL_things_4 7 rfl) rfl rfl ?_
              refine v_aload_n X (xdec_at tL_things_4 8 rfl) rfl rfl ?_
              refine v_bipush (v := 12) X (xdec_at tL_things_4 9 rfl) (by decide) ?_
              refine v_iload X (xdec_at tL_things_4 10 rfl) rfl ?_
              refine v_iload X (xdec_at tL_things_4 11 rfl) rfl ?_
              refine v_iconst (v := 0) X (xdec_at tL_things_4 12 rfl) (by decide) ?_
              refine v_iconst (v := 0) X (xdec_at tL_things_4 13 rfl) (by decide) ?_
              refine v_wL X hE myL_both [.ref (lay (0, 0)), .ref (lay (500, 0)), .int 12, .int (nI u0), .int 1, .int 0, .int 0] [] (both_of rfl (ckE_refuse_2 hl0 hL (show (M_refuse μ (nI u0) (bo 1)).2.1 38 0 = 2 from by unfold M_refuse; rw [if_pos g1.1, g1.2, if_pos (Or.inl hu)]; exact th_38 _ 2))) (xw_at tW_6 11 rfl) rfl rfl (by rfl) (Nat.le_of_ble_eq_true rfl) (xdec_at tL_things_4 14 rfl) ⟨(Nat.le_of_ble_eq_true rfl), (Nat.le_of_ble_eq_true rfl)⟩ ⟨(Nat.le_of_ble_eq_true rfl), (Nat.le_of_ble_eq_true rfl)⟩ ?_
              rintro v9 l17 C9 ⟨rfl, y_l17, rfl⟩
              rw [← y_l17.1, ← y_l17.2.1, ← y_l17.2.2 (300, 0) (by decide) (by decide)]
              refine v_istore (lv' := [some (.ref (l17 (0, 0))), some (.ref (l17 (500, 0))), some (.ref (l17 (300, 0))), some (.int x), some (.int z), some (.int (nI u0)), some (.int (nI u1)), some (.int (μ.1 23 u0)), some (.int (μ.1 24 u0)), some (.int (μ.1 19 u0)), some (.int 0), some (.int 1), some (.int (-2000000003)), none, none, none, none]) X (xdec_at tL_things_4 15 rfl) (by decide) rfl ?_
              refine v_iload X (xdec_at tL_things_4 16 rfl) rfl ?_
              refine v_ldc (v := -2000000003) X (xw_at tW_12 2 rfl) (xdec_at tL_things_4 17 rfl) ?_
              refine v_icmp_ne (tgt := 345) X (xdec_at tL_things_4 18 rfl) (by decide) (fun h9 => absurd h9 (by decide)) (fun _ => ?_)
              refine v_iload X (xdec_at tL_things_4 19 rfl) rfl ?_
              refine v_iconst (v := 1) X (xdec_at tL_things_4 20 rfl) (by decide) ?_
              refine v_icmp_gt (tgt := 337) X (xdec_at tL_things_4 21 rfl) (by decide) (fun _ => ?_) (fun h9 => absurd (st_gt hTP.1 hu).1 h9)
              refine v_iconst (v := 1) X (xdec_at tL_things_4 24 rfl) (by decide) ?_
              refine v_goto (tgt := 385) X (xdec_at tL_things_4 25 rfl) (by decide) ?_
              exact v_xr (v_zret X hr (xdec_at tL_things_5 9 rfl) (Nat.le_of_ble_eq_true rfl) (Nat.le_of_ble_eq_true rfl) (by rfl) ⟨rfl, y_l17, μ, tb, rfl, hL.up.up, hg, Nat.le_refl _⟩)
      · refine v_iload X (xdec_at tL_things_2 6 rfl) rfl ?_
        refine v_iconst (v := 5) X (xdec_at tL_things_2 7 rfl) (by decide) ?_
        refine v_ishr X (xdec_at tL_things_2 8 rfl) fun u6 => ?_
        refine v_aload_n X (xdec_at tL_things_2 9 rfl) rfl rfl ?_
        refine v_iconst (v := 0) X (xdec_at tL_things_2 10 rfl) (by decide) ?_
        refine x_iald (v := nI (nP μ)) X (300, 0) W2_d (vp_in_nI (n := 0) (N := 3) (by decide) (by decide)) rfl hf.1 (xdec_at tL_things_2 11 rfl) ?_
        refine v_wL X hE myL_some [.int u6, .int (nI (nP μ))] [] (c_some u6 (n := nP μ) (by omega) (by omega)) (xw_at tW_2 29 rfl) rfl rfl (by rfl) (Nat.le_of_ble_eq_true rfl) (xdec_at tL_things_2 12 rfl) ⟨(Nat.le_of_ble_eq_true rfl), (Nat.le_of_ble_eq_true rfl)⟩ ⟨(Nat.le_of_ble_eq_true rfl), (Nat.le_of_ble_eq_true rfl)⟩ ?_
        rintro v9 lay9 C9 ⟨rfl, rfl, u7, hu7, rfl⟩
        refine v_istore (lv' := [some (.ref (lay (0, 0))), some (.ref (lay (500, 0))), some (.ref (lay (300, 0))), some (.int x), some (.int z), some (.int (nI u0)), some (.int (nI u1)), some (.int (μ.1 23 u0)), some (.int (μ.1 24 u0)), some (.int (μ.1 19 u0)), some (.int 0), some (.int (nI u7)), none, none, none, none, none]) X (xdec_at tL_things_2 13 rfl) (by decide) rfl ?_
        have g2 := isP_n hL.I hu7
        by_cases hA : μ.1 23 u0 = 0 ∧ μ.1 24 u0 = nI u7
        · refine v_aload_n X (xdec_at tL_things_2 14 rfl) rfl rfl ?_
          refine v_aload_n X (xdec_at tL_things_2 15 rfl) rfl rfl ?_
          refine v_bipush (v := 11) X (xdec_at tL_things_2 16 rfl) (by decide) ?_
          refine v_iload X (xdec_at tL_things_2 17 rfl) rfl ?_
          refine v_iload X (xdec_at tL_things_2 18 rfl) rfl ?_
          refine v_iconst (v := 0) X (xdec_at tL_things_2 19 rfl) (by decide) ?_
          refine v_iconst (v := 0) X (xdec_at tL_things_2 20 rfl) (by decide) ?_
          refine v_wL X hE myL_both [.ref (lay (0, 0)), .ref (lay (500, 0)), .int 11, .int (nI u0), .int (nI u7), .int 0, .int 0] [] (both_of rfl (ckE_redirect_2 hl0 hL (show (M_redirect μ (nI u0) (nI u7)).2.1 38 0 = 2 from by unfold M_redirect; rw [if_pos ⟨g1.1, g2.1⟩, g1.2, if_pos hA]; exact th_38 _ 2))) (xw_at tW_6 11 rfl) rfl rfl (by rfl) (Nat.le_of_ble_eq_true rfl) (xdec_at tL_things_2 21 rfl) ⟨(Nat.le_of_ble_eq_true rfl), (Nat.le_of_ble_eq_true rfl)⟩ ⟨(Nat.le_of_ble_eq_true rfl), (Nat.le_of_ble_eq_true rfl)⟩ ?_
          rintro v9 l18 C9 ⟨rfl, y_l18, rfl⟩
          rw [← y_l18.1, ← y_l18.2.1, ← y_l18.2.2 (300, 0) (by decide) (by decide)]
          refine v_istore (lv' := [some (.ref (l18 (0, 0))), some (.ref (l18 (500, 0))), some (.ref (l18 (300, 0))), some (.int x), some (.int z), some (.int (nI u0)), some (.int (nI u1)), some (.int (μ.1 23 u0)), some (.int (μ.1 24 u0)), some (.int (μ.1 19 u0)), some (.int 0), some (.int (nI u7)), some (.int (-2000000002)), none, none, none, none]) X (xdec_at tL_things_2 22 rfl) (by decide) rfl ?_
          refine v_aload_n X (xdec_at tL_things_2 23 rfl) rfl rfl ?_
          refine v_iload X (xdec_at tL_things_2 24 rfl) rfl ?_
          refine v_iconst (v := 3) X (xdec_at tL_things_2 25 rfl) (by decide) ?_
          refine v_wN X hE myX4_ofThing [.int (nI u0), .int 3] [] (qy_ofThing (t := u0) (w := 3) hl0 hL.I hL.K hu0 (by decide)) (xw_at tW_5 30 rfl) (0, 0) cX_X rfl rfl rfl rfl (by rfl) (Nat.le_of_ble_eq_true rfl) (xdec_at tL_things_2 26 rfl) ⟨(Nat.le_of_ble_eq_true rfl), (Nat.le_of_ble_eq_true rfl)⟩ ⟨(Nat.le_of_ble_eq_true rfl), (Nat.le_of_ble_eq_true rfl)⟩ ?_
          rintro v9 lay9 C9 ⟨rfl, rfl, rfl⟩
          refine v_l2i (v := μ.1 19 u0) X (xdec_at tL_things_2 27 rfl) (Int32.toInt32_toInt64 _) ?_
          refine v_istore (lv' := [some (.ref (l18 (0, 0))), some (.ref (l18 (500, 0))), some (.ref (l18 (300, 0))), some (.int x), some (.int z), some (.int (nI u0)), some (.int (nI u1)), some (.int (μ.1 23 u0)), some (.int (μ.1 24 u0)), some (.int (μ.1 19 u0)), some (.int 0), some (.int (nI u7)), some (.int (-2000000002)), some (.int (μ.1 19 u0)), none, none, none]) X (xdec_at tL_things_2 28 rfl) (by decide) rfl ?_
          refine v_iload X (xdec_at tL_things_2 29 rfl) rfl ?_
          refine v_ldc (v := -2000000002) X (xw_at tW_12 1 rfl) (xdec_at tL_things_2 30 rfl) ?_
          refine v_icmp_ne (tgt := 216) X (xdec_at tL_things_2 31 rfl) (by decide) (fun h9 => absurd h9 (by decide)) (fun _ => ?_)
          refine v_iload X (xdec_at tL_things_2 32 rfl) rfl ?_
          refine v_if_ne (tgt := 212) X (xdec_at tL_things_2 33 rfl) (by decide) (fun h9 => absurd hA.1 h9) (fun _ => ?_)
          refine v_iload X (xdec_at tL_things_2 34 rfl) rfl ?_
          refine v_iload X (xdec_at tL_things_2 35 rfl) rfl ?_
          refine v_icmp_ne (tgt := 212) X (xdec_at tL_things_2 36 rfl) (by decide) (fun h9 => absurd hA.2 h9) (fun _ => ?_)
          refine v_iload X (xdec_at tL_things_2 37 rfl) rfl ?_
          refine v_iload X (xdec_at tL_things_2 38 rfl) rfl ?_
          refine v_icmp_ne (tgt := 212) X (xdec_at tL_things_2 39 rfl) (by decide) (fun h9 => absurd rfl h9) (fun _ => ?_)
          refine v_iconst (v := 1) X (xdec_at tL_things_3 0 rfl) (by decide) ?_
          refine v_goto (tgt := 279) X (xdec_at tL_things_3 1 rfl) (by decide) ?_
          exact v_xr (v_zret X hr (xdec_at tL_things_3 33 rfl) (Nat.le_of_ble_eq_true rfl) (Nat.le_of_ble_eq_true rfl) (by rfl) ⟨rfl, y_l18, μ, tb, rfl, hL.up.up, hg, Nat.le_refl _⟩)
        · by_cases hu : undW μ u0
          · refine v_aload_n X (xdec_at tL_things_2 14 rfl) rfl rfl ?_
            refine v_aload_n X (xdec_at tL_things_2 15 rfl) rfl rfl ?_
            refine v_bipush (v := 11) X (xdec_at tL_things_2 16 rfl) (by decide) ?_
            refine v_iload X (xdec_at tL_things_2 17 rfl) rfl ?_
            refine v_iload X (xdec_at tL_things_2 18 rfl) rfl ?_
            refine v_iconst (v := 0) X (xdec_at tL_things_2 19 rfl) (by decide) ?_
            refine v_iconst (v := 0) X (xdec_at tL_things_2 20 rfl) (by decide) ?_
            obtain ⟨eM, hJ⟩ := cm_redirect hL hu0 hu7 hA hu h27
            have hV := vp_ne (hL.I.ta h40)
            refine v_wL X hE myL_both [.ref (lay (0, 0)), .ref (lay (500, 0)), .int 11, .int (nI u0), .int (nI u7), .int 0, .int 0] [] (both_of rfl (ckS_redirect hl0 hL eM hJ.z)) (xw_at tW_6 11 rfl) rfl rfl (by rfl) (Nat.le_of_ble_eq_true rfl) (xdec_at tL_things_2 21 rfl) ⟨(Nat.le_of_ble_eq_true rfl), (Nat.le_of_ble_eq_true rfl)⟩ ⟨(Nat.le_of_ble_eq_true rfl), (Nat.le_of_ble_eq_true rfl)⟩ ?_
            rintro v9 l19 C9 ⟨rfl, y_l19, rfl⟩
            rw [← y_l19.1, ← y_l19.2.1, ← y_l19.2.2 (300, 0) (by decide) (by decide)]
            refine v_istore (lv' := [some (.ref (l19 (0, 0))), some (.ref (l19 (500, 0))), some (.ref (l19 (300, 0))), some (.int x), some (.int z), some (.int (nI u0)), some (.int (nI u1)), some (.int (μ.1 23 u0)), some (.int (μ.1 24 u0)), some (.int (μ.1 19 u0)), some (.int 0), some (.int (nI u7)), some (.int (μ.1 19 u0)), none, none, none, none]) X (xdec_at tL_things_2 22 rfl) (by decide) rfl ?_
            refine v_aload_n X (xdec_at tL_things_2 23 rfl) rfl rfl ?_
            refine v_iload X (xdec_at tL_things_2 24 rfl) rfl ?_
            refine v_iconst (v := 3) X (xdec_at tL_things_2 25 rfl) (by decide) ?_
            refine v_wN X hE myX4_ofThing [.int (nI u0), .int 3] [] (qy_ofThing (t := u0) (w := 3) hl0 hJ.I hJ.K (show u0 < nT μ from hu0) (by decide)) (xw_at tW_5 30 rfl) (0, 0) cX_X rfl rfl rfl rfl (by rfl) (Nat.le_of_ble_eq_true rfl) (xdec_at tL_things_2 26 rfl) ⟨(Nat.le_of_ble_eq_true rfl), (Nat.le_of_ble_eq_true rfl)⟩ ⟨(Nat.le_of_ble_eq_true rfl), (Nat.le_of_ble_eq_true rfl)⟩ ?_
            rintro v9 lay9 C9 ⟨rfl, rfl, rfl⟩
            refine v_l2i (v := (up2 μ.1 19 u0 (nI u7), μ.2).1 19 u0) X (xdec_at tL_things_2 27 rfl) (Int32.toInt32_toInt64 _) ?_
            refine v_istore (lv' := [some (.ref (l19 (0, 0))), some (.ref (l19 (500, 0))), some (.ref (l19 (300, 0))), some (.int x), some (.int z), some (.int (nI u0)), some (.int (nI u1)), some (.int (μ.1 23 u0)), some (.int (μ.1 24 u0)), some (.int (μ.1 19 u0)), some (.int 0), some (.int (nI u7)), some (.int (μ.1 19 u0)), some (.int ((up2 μ.1 19 u0 (nI u7), μ.2).1 19 u0)), none, none, none]) X (xdec_at tL_things_2 28 rfl) (by decide) rfl ?_
            refine v_iload X (xdec_at tL_things_2 29 rfl) rfl ?_
            refine v_ldc (v := -2000000002) X (xw_at tW_12 1 rfl) (xdec_at tL_things_2 30 rfl) ?_
            refine v_icmp_ne (tgt := 216) X (xdec_at tL_things_2 31 rfl) (by decide) (fun _ => ?_) (fun h9 => absurd h9 hV.2.1)
            refine v_iload X (xdec_at tL_things_3 4 rfl) rfl ?_
            refine v_ldc (v := -2000000003) X (xw_at tW_12 2 rfl) (xdec_at tL_things_3 5 rfl) ?_
            refine v_icmp_ne (tgt := 249) X (xdec_at tL_things_3 6 rfl) (by decide) (fun _ => ?_) (fun h9 => absurd h9 hV.2.2)
            refine v_iload X (xdec_at tL_things_3 19 rfl) rfl ?_
            refine v_iload X (xdec_at tL_things_3 20 rfl) rfl ?_
            refine v_icmp_ne (tgt := 278) X (xdec_at tL_things_3 21 rfl) (by decide) (fun h9 => absurd rfl h9) (fun _ => ?_)
            refine v_iload X (xdec_at tL_things_3 22 rfl) rfl ?_
            refine v_iload X (xdec_at tL_things_3 23 rfl) rfl ?_
            refine v_icmp_ne (tgt := 278) X (xdec_at tL_things_3 24 rfl) (by decide) (fun h9 => absurd u_at h9) (fun _ => ?_)
            refine v_iload X (xdec_at tL_things_3 25 rfl) rfl ?_
            refine v_iconst (v := 2) X (xdec_at tL_things_3 26 rfl) (by decide) ?_
            refine v_icmp_ge (tgt := 278) X (xdec_at tL_things_3 27 rfl) (by decide) (fun h9 => absurd h9 (st_lt hu).2.1) (fun _ => ?_)
            refine v_iload X (xdec_at tL_things_3 28 rfl) rfl ?_
            refine v_if_ne (tgt := 278) X (xdec_at tL_things_3 29 rfl) (by decide) (fun h9 => absurd h9 (by decide)) (fun _ => ?_)
            refine v_iconst (v := 1) X (xdec_at tL_things_3 30 rfl) (by decide) ?_
            refine v_goto (tgt := 279) X (xdec_at tL_things_3 31 rfl) (by decide) ?_
            exact v_xr (v_zret X hr (xdec_at tL_things_3 33 rfl) (Nat.le_of_ble_eq_true rfl) (Nat.le_of_ble_eq_true rfl) (by rfl) ⟨rfl, y_l19, (up2 μ.1 19 u0 (nI u7), μ.2), tb, (by rw [dv_e (μ := μ) (ν := (up2 μ.1 19 u0 (nI u7), μ.2)) rfl rfl rfl] <;> rfl), hJ.up, hg, Nat.le_refl _⟩)
          · refine v_aload_n X (xdec_at tL_things_2 14 rfl) rfl rfl ?_
            refine v_aload_n X (xdec_at tL_things_2 15 rfl) rfl rfl ?_
            refine v_bipush (v := 11) X (xdec_at tL_things_2 16 rfl) (by decide) ?_
            refine v_iload X (xdec_at tL_things_2 17 rfl) rfl ?_
            refine v_iload X (xdec_at tL_things_2 18 rfl) rfl ?_
            refine v_iconst (v := 0) X (xdec_at tL_things_2 19 rfl) (by decide) ?_
            refine v_iconst (v := 0) X (xdec_at tL_things_2 20 rfl) (by decide) ?_
            refine v_wL X hE myL_both [.ref (lay (0, 0)), .ref (lay (500, 0)), .int 11, .int (nI u0), .int (nI u7), .int 0, .int 0] [] (both_of rfl (ckE_redirect_3 hl0 hL (show (M_redirect μ (nI u0) (nI u7)).2.1 38 0 = 3 from by unfold M_redirect; rw [if_pos ⟨g1.1, g2.1⟩, g1.2, if_neg hA, if_pos (Or.inl hu)]; exact th_38 _ 3))) (xw_at tW_6 11 rfl) rfl rfl (by rfl) (Nat.le_of_ble_eq_true rfl) (xdec_at tL_things_2 21 rfl) ⟨(Nat.le_of_ble_eq_true rfl), (Nat.le_of_ble_eq_true rfl)⟩ ⟨(Nat.le_of_ble_eq_true rfl), (Nat.le_of_ble_eq_true rfl)⟩ ?_
            rintro v9 l20 C9 ⟨rfl, y_l20, rfl⟩
            rw [← y_l20.1, ← y_l20.2.1, ← y_l20.2.2 (300, 0) (by decide) (by decide)]
            refine v_istore (lv' := [some (.ref (l20 (0, 0))), some (.ref (l20 (500, 0))), some (.ref (l20 (300, 0))), some (.int x), some (.int z), some (.int (nI u0)), some (.int (nI u1)), some (.int (μ.1 23 u0)), some (.int (μ.1 24 u0)), some (.int (μ.1 19 u0)), some (.int 0), some (.int (nI u7)), some (.int (-2000000003)), none, none, none, none]) X (xdec_at tL_things_2 22 rfl) (by decide) rfl ?_
            refine v_aload_n X (xdec_at tL_things_2 23 rfl) rfl rfl ?_
            refine v_iload X (xdec_at tL_things_2 24 rfl) rfl ?_
            refine v_iconst (v := 3) X (xdec_at tL_things_2 25 rfl) (by decide) ?_
            refine v_wN X hE myX4_ofThing [.int (nI u0), .int 3] [] (qy_ofThing (t := u0) (w := 3) hl0 hL.I hL.K hu0 (by decide)) (xw_at tW_5 30 rfl) (0, 0) cX_X rfl rfl rfl rfl (by rfl) (Nat.le_of_ble_eq_true rfl) (xdec_at tL_things_2 26 rfl) ⟨(Nat.le_of_ble_eq_true rfl), (Nat.le_of_ble_eq_true rfl)⟩ ⟨(Nat.le_of_ble_eq_true rfl), (Nat.le_of_ble_eq_true rfl)⟩ ?_
            rintro v9 lay9 C9 ⟨rfl, rfl, rfl⟩
            refine v_l2i (v := μ.1 19 u0) X (xdec_at tL_things_2 27 rfl) (Int32.toInt32_toInt64 _) ?_
            refine v_istore (lv' := [some (.ref (l20 (0, 0))), some (.ref (l20 (500, 0))), some (.ref (l20 (300, 0))), some (.int x), some (.int z), some (.int (nI u0)), some (.int (nI u1)), some (.int (μ.1 23 u0)), some (.int (μ.1 24 u0)), some (.int (μ.1 19 u0)), some (.int 0), some (.int (nI u7)), some (.int (-2000000003)), some (.int (μ.1 19 u0)), none, none, none]) X (xdec_at tL_things_2 28 rfl) (by decide) rfl ?_
            refine v_iload X (xdec_at tL_things_2 29 rfl) rfl ?_
            refine v_ldc (v := -2000000002) X (xw_at tW_12 1 rfl) (xdec_at tL_things_2 30 rfl) ?_
            refine v_icmp_ne (tgt := 216) X (xdec_at tL_things_2 31 rfl) (by decide) (fun _ => ?_) (fun h9 => absurd h9 (by decide))
            refine v_iload X (xdec_at tL_things_3 4 rfl) rfl ?_
            refine v_ldc (v := -2000000003) X (xw_at tW_12 2 rfl) (xdec_at tL_things_3 5 rfl) ?_
            refine v_icmp_ne (tgt := 249) X (xdec_at tL_things_3 6 rfl) (by decide) (fun h9 => absurd h9 (by decide)) (fun _ => ?_)
            refine v_iload X (xdec_at tL_things_3 7 rfl) rfl ?_
            refine v_iconst (v := 1) X (xdec_at tL_things_3 8 rfl) (by decide) ?_
            refine v_icmp_gt (tgt := 234) X (xdec_at tL_things_3 9 rfl) (by decide) (fun _ => ?_) (fun h9 => absurd (st_gt hTP.1 hu).1 h9)
            refine v_iload X (xdec_at tL_things_3 12 rfl) rfl ?_
            refine v_iload X (xdec_at tL_things_3 13 rfl) rfl ?_
            refine v_icmp_ne (tgt := 245) X (xdec_at tL_things_3 14 rfl) (by decide) (fun h9 => absurd rfl h9) (fun _ => ?_)
            refine v_iconst (v := 1) X (xdec_at tL_things_3 15 rfl) (by decide) ?_
            refine v_goto (tgt := 279) X (xdec_at tL_things_3 16 rfl) (by decide) ?_
            exact v_xr (v_zret X hr (xdec_at tL_things_3 33 rfl) (Nat.le_of_ble_eq_true rfl) (Nat.le_of_ble_eq_true rfl) (by rfl) ⟨rfl, y_l20, μ, tb, rfl, hL.up.up, hg, Nat.le_refl _⟩)
    · refine v_lcmp X (xdec_at tL_things_1 37 rfl) ?_
      refine v_if_ne (tgt := 136) X (xdec_at tL_things_1 38 rfl) (by decide) (fun h9 => absurd (lcz (show (if μ.1 27 u0 = 0 then (0 : Int64) else 1) = 1 from if_neg h27)) h9) (fun _ => ?_)
      refine v_iconst (v := 1) X (xdec_at tL_things_1 39 rfl) (by decide) ?_
      refine v_goto (tgt := 137) X (xdec_at tL_things_2 0 rfl) (by decide) ?_
      refine v_istore (lv' := [some (.ref (lay (0, 0))), some (.ref (lay (500, 0))), some (.ref (lay (300, 0))), some (.int x), some (.int z), some (.int (nI u0)), some (.int (nI u1)), some (.int (μ.1 23 u0)), some (.int (μ.1 24 u0)), some (.int (μ.1 19 u0)), some (.int 1), none, none, none, none, none, none]) X (xdec_at tL_things_2 2 rfl) (by decide) rfl ?_
      refine v_iload X (xdec_at tL_things_2 3 rfl) rfl ?_
      refine v_iconst (v := 3) X (xdec_at tL_things_2 4 rfl) (by decide) ?_
      refine v_icmp_ge (tgt := 280) X (xdec_at tL_things_2 5 rfl) (by decide) (fun c_142 => ?_) (fun c_142 => ?_)
      · refine v_iload X (xdec_at tL_things_3 34 rfl) rfl ?_
        refine v_iconst (v := 5) X (xdec_at tL_things_3 35 rfl) (by decide) ?_
        refine v_icmp_ge (tgt := 386) X (xdec_at tL_things_3 36 rfl) (by decide) (fun c_283 => ?_) (fun c_283 => ?_)
        · refine v_aload_n X (xdec_at tL_things_5 10 rfl) rfl rfl ?_
          refine v_iload X (xdec_at tL_things_5 11 rfl) rfl ?_
          refine v_bipush (v := 6) X (xdec_at tL_things_5 12 rfl) (by decide) ?_
          refine v_wN X hE myX4_ofThing [.int (nI u0), .int 6] [] (qy_ofThing (t := u0) (w := 6) hl0 hL.I hL.K hu0 (by decide)) (xw_at tW_5 30 rfl) (0, 0) cX_X rfl rfl rfl rfl (by rfl) (Nat.le_of_ble_eq_true rfl) (xdec_at tL_things_5 13 rfl) ⟨(Nat.le_of_ble_eq_true rfl), (Nat.le_of_ble_eq_true rfl)⟩ ⟨(Nat.le_of_ble_eq_true rfl), (Nat.le_of_ble_eq_true rfl)⟩ ?_
          rintro v9 lay9 C9 ⟨rfl, rfl, rfl⟩
          refine v_l2i (v := μ.1 35 u0) X (xdec_at tL_things_5 14 rfl) (Int32.toInt32_toInt64 _) ?_
          refine v_istore (lv' := [some (.ref (lay (0, 0))), some (.ref (lay (500, 0))), some (.ref (lay (300, 0))), some (.int x), some (.int z), some (.int (nI u0)), some (.int (nI u1)), some (.int (μ.1 23 u0)), some (.int (μ.1 24 u0)), some (.int (μ.1 19 u0)), some (.int 1), some (.int (μ.1 35 u0)), none, none, none, none, none]) X (xdec_at tL_things_5 15 rfl) (by decide) rfl ?_
          refine v_iload X (xdec_at tL_things_5 16 rfl) rfl ?_
          refine v_bipush (v := 6) X (xdec_at tL_things_5 17 rfl) (by decide) ?_
          refine v_icmp_ge (tgt := 571) X (xdec_at tL_things_5 18 rfl) (by decide) (fun c_401 => ?_) (fun c_401 => ?_)
          · refine v_aload_n X (xdec_at tL_things_7 30 rfl) rfl rfl ?_
            refine v_aload_n X (xdec_at tL_things_7 31 rfl) rfl rfl ?_
            refine v_iconst (v := 2) X (xdec_at tL_things_7 32 rfl) (by decide) ?_
            refine v_wL X hE myL_sums [.ref (lay (0, 0)), .ref (lay (300, 0)), .int 2] [] (sums2_W hl0 hL.I hf rfl) (xw_at tW_13 28 rfl) rfl rfl (by rfl) (Nat.le_of_ble_eq_true rfl) (xdec_at tL_things_7 33 rfl) ⟨(Nat.le_of_ble_eq_true rfl), (Nat.le_of_ble_eq_true rfl)⟩ ⟨(Nat.le_of_ble_eq_true rfl), (Nat.le_of_ble_eq_true rfl)⟩ ?_
            rintro v9 lay9 C9 ⟨rfl, rfl, rfl⟩
            refine v_lstore (lv' := [some (.ref (lay (0, 0))), some (.ref (lay (500, 0))), some (.ref (lay (300, 0))), some (.int x), some (.int z), some (.int (nI u0)), some (.int (nI u1)), some (.int (μ.1 23 u0)), some (.int (μ.1 24 u0)), some (.int (μ.1 19 u0)), some (.int 1), some (.int (μ.1 35 u0)), some (.long (sm (μ.2 7) (nP μ))), none, none, none, none]) X (xdec_at tL_things_7 34 rfl) (by decide) rfl ?_
            refine v_aload_n X (xdec_at tL_things_7 35 rfl) rfl rfl ?_
            refine v_aload_n X (xdec_at tL_things_7 36 rfl) rfl rfl ?_
            refine v_iconst (v := 3) X (xdec_at tL_things_7 37 rfl) (by decide) ?_
            refine v_wL X hE myL_sums [.ref (lay (0, 0)), .ref (lay (300, 0)), .int 3] [] (sums3_W hl0 hL.I hf rfl) (xw_at tW_13 28 rfl) rfl rfl (by rfl) (Nat.le_of_ble_eq_true rfl) (xdec_at tL_things_7 38 rfl) ⟨(Nat.le_of_ble_eq_true rfl), (Nat.le_of_ble_eq_true rfl)⟩ ⟨(Nat.le_of_ble_eq_true rfl), (Nat.le_of_ble_eq_true rfl)⟩ ?_
            rintro v9 lay9 C9 ⟨rfl, rfl, rfl⟩
            refine v_lstore (lv' := [some (.ref (lay (0, 0))), some (.ref (lay (500, 0))), some (.ref (lay (300, 0))), some (.int x), some (.int z), some (.int (nI u0)), some (.int (nI u1)), some (.int (μ.1 23 u0)), some (.int (μ.1 24 u0)), some (.int (μ.1 19 u0)), some (.int 1), some (.int (μ.1 35 u0)), some (.long (sm (μ.2 7) (nP μ))), none, some (.long (sm (μ.2 8) (nP μ))), none, none]) X (xdec_at tL_things_7 39 rfl) (by decide) rfl ?_
            by_cases hc : ¬ μ.1 23 u0 = 3 ∨ μ.1 21 u0 = 0 ∨ ¬ μ.1 29 u0 = 0
            · refine v_aload_n X (xdec_at tL_things_8 0 rfl) rfl rfl ?_
              refine v_aload_n X (xdec_at tL_things_8 1 rfl) rfl rfl ?_
              refine v_bipush (v := 15) X (xdec_at tL_things_8 2 rfl) (by decide) ?_
              refine v_iload X (xdec_at tL_things_8 3 rfl) rfl ?_
              refine v_iconst (v := 0) X (xdec_at tL_things_8 4 rfl) (by decide) ?_
              refine v_iconst (v := 0) X (xdec_at tL_things_8 5 rfl) (by decide) ?_
              refine v_iconst (v := 0) X (xdec_at tL_things_8 6 rfl) (by decide) ?_
              refine v_wL X hE myL_both [.ref (lay (0, 0)), .ref (lay (500, 0)), .int 15, .int (nI u0), .int 0, .int 0, .int 0] [] (both_of rfl (ckE_claim_2 hl0 hL (show (M_claim μ (nI u0)).2.1 38 0 = 2 from by unfold M_claim; rw [if_pos g1.1, g1.2, if_pos hc]; exact th_38 _ 2))) (xw_at tW_6 11 rfl) rfl rfl (by rfl) (Nat.le_of_ble_eq_true rfl) (xdec_at tL_things_8 7 rfl) ⟨(Nat.le_of_ble_eq_true rfl), (Nat.le_of_ble_eq_true rfl)⟩ ⟨(Nat.le_of_ble_eq_true rfl), (Nat.le_of_ble_eq_true rfl)⟩ ?_
              rintro v9 l21 C9 ⟨rfl, y_l21, rfl⟩
              rw [← y_l21.1, ← y_l21.2.1, ← y_l21.2.2 (300, 0) (by decide) (by decide)]
              refine v_istore (lv' := [some (.ref (l21 (0, 0))), some (.ref (l21 (500, 0))), some (.ref (l21 (300, 0))), some (.int x), some (.int z), some (.int (nI u0)), some (.int (nI u1)), some (.int (μ.1 23 u0)), some (.int (μ.1 24 u0)), some (.int (μ.1 19 u0)), some (.int 1), some (.int (μ.1 35 u0)), some (.long (sm (μ.2 7) (nP μ))), none, some (.long (sm (μ.2 8) (nP μ))), none, some (.int (-2000000003))]) X (xdec_at tL_things_8 8 rfl) (by decide) rfl ?_
              refine v_iload X (xdec_at tL_things_8 9 rfl) rfl ?_
              refine v_ldc (v := -2000000003) X (xw_at tW_12 2 rfl) (xdec_at tL_things_8 10 rfl) ?_
              refine v_icmp_ne (tgt := 638) X (xdec_at tL_things_8 11 rfl) (by decide) (fun h9 => absurd h9 (by decide)) (fun _ => ?_)
              refine v_aload_n X (xdec_at tL_things_8 12 rfl) rfl rfl ?_
              refine v_aload_n X (xdec_at tL_things_8 13 rfl) rfl rfl ?_
              refine v_iconst (v := 3) X (xdec_at tL_things_8 14 rfl) (by decide) ?_
              refine v_wL X hE myL_sums [.ref (l21 (0, 0)), .ref (l21 (300, 0)), .int 3] [] (sums3_W hl0 hL.I hf rfl) (xw_at tW_13 28 rfl) rfl rfl (by rfl) (Nat.le_of_ble_eq_true rfl) (xdec_at tL_things_8 15 rfl) ⟨(Nat.le_of_ble_eq_true rfl), (Nat.le_of_ble_eq_true rfl)⟩ ⟨(Nat.le_of_ble_eq_true rfl), (Nat.le_of_ble_eq_true rfl)⟩ ?_
              rintro v9 lay9 C9 ⟨rfl, rfl, rfl⟩
              refine v_lload X (xdec_at tL_things_8 16 rfl) rfl ?_
              refine v_lcmp X (xdec_at tL_things_8 17 rfl) ?_
              refine v_if_ne (tgt := 636) X (xdec_at tL_things_8 18 rfl) (by decide) (fun h9 => absurd (lcz rfl) h9) (fun _ => ?_)
              refine v_aload_n X (xdec_at tL_things_8 19 rfl) rfl rfl ?_
              refine v_aload_n X (xdec_at tL_things_8 20 rfl) rfl rfl ?_
              refine v_iconst (v := 2) X (xdec_at tL_things_8 21 rfl) (by decide) ?_
              refine v_wL X hE myL_sums [.ref (l21 (0, 0)), .ref (l21 (300, 0)), .int 2] [] (sums2_W hl0 hL.I hf rfl) (xw_at tW_13 28 rfl) rfl rfl (by rfl) (Nat.le_of_ble_eq_true rfl) (xdec_at tL_things_8 22 rfl) ⟨(Nat.le_of_ble_eq_true rfl), (Nat.le_of_ble_eq_true rfl)⟩ ⟨(Nat.le_of_ble_eq_true rfl), (Nat.le_of_ble_eq_true rfl)⟩ ?_
              rintro v9 lay9 C9 ⟨rfl, rfl, rfl⟩
              refine v_lload X (xdec_at tL_things_8 23 rfl) rfl ?_
              refine v_lcmp X (xdec_at tL_things_8 24 rfl) ?_
              refine v_if_ne (tgt := 636) X (xdec_at tL_things_8 25 rfl) (by decide) (fun h9 => absurd (lcz rfl) h9) (fun _ => ?_)
              refine v_iconst (v := 1) X (xdec_at tL_things_8 26 rfl) (by decide) ?_
              refine v_goto (tgt := 637) X (xdec_at tL_things_8 27 rfl) (by decide) ?_
              exact v_xr (v_zret X hr (xdec_at tL_things_8 29 rfl) (Nat.le_of_ble_eq_true rfl) (Nat.le_of_ble_eq_true rfl) (by rfl) ⟨rfl, y_l21, μ, tb, rfl, hL.up.up, hg, Nat.le_refl _⟩)
            · refine v_aload_n X (xdec_at tL_things_8 0 rfl) rfl rfl ?_
              refine v_aload_n X (xdec_at tL_things_8 1 rfl) rfl rfl ?_
              refine v_bipush (v := 15) X (xdec_at tL_things_8 2 rfl) (by decide) ?_
              refine v_iload X (xdec_at tL_things_8 3 rfl) rfl ?_
              refine v_iconst (v := 0) X (xdec_at tL_things_8 4 rfl) (by decide) ?_
              refine v_iconst (v := 0) X (xdec_at tL_things_8 5 rfl) (by decide) ?_
              refine v_iconst (v := 0) X (xdec_at tL_things_8 6 rfl) (by decide) ?_
              have h3 : μ.1 23 u0 = 3 := Classical.not_not.mp (fun q9 => hc (Or.inl q9))
              have h21 : ¬ μ.1 21 u0 = 0 := fun q9 => hc (Or.inr (Or.inl q9))
              have h29 : μ.1 29 u0 = 0 := Classical.not_not.mp (fun q9 => hc (Or.inr (Or.inr q9)))
              obtain ⟨eM, hJ, e8⟩ := cm_claim hL (by omega) hu0 h3 h21 h29
              obtain ⟨v1, v2, v3, v4⟩ := claimS_view hL.I hL.K hu0
              obtain ⟨n, n1, n2, n3, n4, n5⟩ := hTP.2.2.2.2.2.1
              obtain ⟨an, han⟩ : ∃ an, an = (M_claimS μ u0).1 := ⟨_, rfl⟩
              obtain ⟨ν, hν⟩ : ∃ ν, ν = (M_claimS μ u0).2 := ⟨_, rfl⟩
              have eM9 : M_claim μ (nI u0) = (an, ν) := by rw [han, hν]; exact eM
              rw [← hν] at hJ e8 v1 v3
              rw [← han] at v2
              have eO : ∀ j, j ≠ 29 → ν.1 j = μ.1 j := fun j hj => by rw [v1]; exact up2_ne _ _ _ _ _ hj
              have nPn : nP ν = nP μ := by unfold nP; rw [eO 0 (by decide)]
              have nTn : nT ν = nT μ := by unfold nT; rw [eO 16 (by decide)]
              have hfn : dF (dv μ) ν := by unfold dF nP nG nT; rw [eO 0 (by decide), eO 10 (by decide), eO 16 (by decide)]; exact hf
              refine v_wL X hE myL_both [.ref (lay (0, 0)), .ref (lay (500, 0)), .int 15, .int (nI u0), .int 0, .int 0, .int 0] [] (both_of rfl (ckS_claim hl0 hL eM9 hJ.z)) (xw_at tW_6 11 rfl) rfl rfl (by rfl) (Nat.le_of_ble_eq_true rfl) (xdec_at tL_things_8 7 rfl) ⟨(Nat.le_of_ble_eq_true rfl), (Nat.le_of_ble_eq_true rfl)⟩ ⟨(Nat.le_of_ble_eq_true rfl), (Nat.le_of_ble_eq_true rfl)⟩ ?_
              rintro v9 l22 C9 ⟨rfl, y_l22, rfl⟩
              rw [← y_l22.1, ← y_l22.2.1, ← y_l22.2.2 (300, 0) (by decide) (by decide)]
              refine v_istore (lv' := [some (.ref (l22 (0, 0))), some (.ref (l22 (500, 0))), some (.ref (l22 (300, 0))), some (.int x), some (.int z), some (.int (nI u0)), some (.int (nI u1)), some (.int (μ.1 23 u0)), some (.int (μ.1 24 u0)), some (.int (μ.1 19 u0)), some (.int 1), some (.int (μ.1 35 u0)), some (.long (sm (μ.2 7) (nP μ))), none, some (.long (sm (μ.2 8) (nP μ))), none, some (.int an)]) X (xdec_at tL_things_8 8 rfl) (by decide) rfl ?_
              rcases v2 with v2 | v2 | v2
              · refine v_iload X (xdec_at tL_things_8 9 rfl) rfl ?_
                refine v_ldc (v := -2000000003) X (xw_at tW_12 2 rfl) (xdec_at tL_things_8 10 rfl) ?_
                refine v_icmp_ne (tgt := 638) X (xdec_at tL_things_8 11 rfl) (by decide) (fun _ => ?_) (fun h9 => absurd h9 (show ¬ _ = (-2000000003 : Int32) from by rw [v2]; decide))
                refine v_iload X (xdec_at tL_things_8 30 rfl) rfl ?_
                refine v_iconst (v := 3) X (xdec_at tL_things_8 31 rfl) (by decide) ?_
                refine v_icmp_ne (tgt := 718) X (xdec_at tL_things_8 32 rfl) (by decide) (fun h9 => absurd h3 h9) (fun _ => ?_)
                refine v_iload X (xdec_at tL_things_8 33 rfl) rfl ?_
                refine v_if_le (tgt := 718) X (xdec_at tL_things_8 34 rfl) (by decide) (fun h9 => absurd h9 (Int32.not_le.mpr (show 0 < μ.1 35 u0 from by rw [n2]; exact nI_lt (a := 0) (n5 h21).1 (by omega)))) (fun _ => ?_)
                refine v_iload X (xdec_at tL_things_8 35 rfl) rfl ?_
                refine v_if_eq (tgt := 670) X (xdec_at tL_things_8 36 rfl) (by decide) (fun _ => ?_) (fun h9 => absurd v2 h9)
                refine v_aload_n X (xdec_at tL_things_9 3 rfl) rfl rfl ?_
                refine v_aload_n X (xdec_at tL_things_9 4 rfl) rfl rfl ?_
                refine v_iconst (v := 3) X (xdec_at tL_things_9 5 rfl) (by decide) ?_
                refine v_wL X hE myL_sums [.ref (l22 (0, 0)), .ref (l22 (300, 0)), .int 3] [] (sums3_W hl0 hJ.I hfn rfl) (xw_at tW_13 28 rfl) rfl rfl (by rfl) (Nat.le_of_ble_eq_true rfl) (xdec_at tL_things_9 6 rfl) ⟨(Nat.le_of_ble_eq_true rfl), (Nat.le_of_ble_eq_true rfl)⟩ ⟨(Nat.le_of_ble_eq_true rfl), (Nat.le_of_ble_eq_true rfl)⟩ ?_
                rintro v9 lay9 C9 ⟨rfl, rfl, rfl⟩
                refine v_lload X (xdec_at tL_things_9 7 rfl) rfl ?_
                refine v_ldc2 (v := 4000) X (xw_at tW_13 33 rfl) (xdec_at tL_things_9 8 rfl) ?_
                refine v_lsub X (xdec_at tL_things_9 9 rfl) ?_
                refine v_lcmp X (xdec_at tL_things_9 10 rfl) ?_
                refine v_if_ne (tgt := 718) X (xdec_at tL_things_9 11 rfl) (by decide) (fun h9 => absurd (lcz (by rw [nPn]; exact e8)) h9) (fun _ => ?_)
                refine v_aload_n X (xdec_at tL_things_9 12 rfl) rfl rfl ?_
                refine v_aload_n X (xdec_at tL_things_9 13 rfl) rfl rfl ?_
                refine v_iconst (v := 2) X (xdec_at tL_things_9 14 rfl) (by decide) ?_
                refine v_wL X hE myL_sums [.ref (l22 (0, 0)), .ref (l22 (300, 0)), .int 2] [] (sums2_W hl0 hJ.I hfn rfl) (xw_at tW_13 28 rfl) rfl rfl (by rfl) (Nat.le_of_ble_eq_true rfl) (xdec_at tL_things_9 15 rfl) ⟨(Nat.le_of_ble_eq_true rfl), (Nat.le_of_ble_eq_true rfl)⟩ ⟨(Nat.le_of_ble_eq_true rfl), (Nat.le_of_ble_eq_true rfl)⟩ ?_
                rintro v9 lay9 C9 ⟨rfl, rfl, rfl⟩
                refine v_lload X (xdec_at tL_things_9 16 rfl) rfl ?_
                refine v_lcmp X (xdec_at tL_things_9 17 rfl) ?_
                refine v_if_ne (tgt := 718) X (xdec_at tL_things_9 18 rfl) (by decide) (fun h9 => absurd (lcz (by rw [nPn]; exact v3)) h9) (fun _ => ?_)
                refine v_aload_n X (xdec_at tL_things_9 19 rfl) rfl rfl ?_
                refine v_bipush (v := 15) X (xdec_at tL_things_9 20 rfl) (by decide) ?_
                refine v_iload X (xdec_at tL_things_9 21 rfl) rfl ?_
                refine v_iconst (v := 0) X (xdec_at tL_things_9 22 rfl) (by decide) ?_
                refine v_iconst (v := 0) X (xdec_at tL_things_9 23 rfl) (by decide) ?_
                refine v_iconst (v := 0) X (xdec_at tL_things_9 24 rfl) (by decide) ?_
                have g3 := isT_n hJ.I (p := u0) (by rw [nTn]; exact hu0)
                have e29 : ν.1 29 u0 = 1 := by rw [v1]; exact u_at
                refine v_wC X hE mw_call [.ref (l22 (0, 0)), .int 15, .int (nI u0), .int 0, .int 0, .int 0] [] (call_W rfl (ckE_claim_2 hl0 hJ (show (M_claim ν (nI u0)).2.1 38 0 = 2 from by unfold M_claim; rw [if_pos g3.1, g3.2, if_pos (Or.inr (Or.inr (by rw [e29]; decide)))]; exact th_38 _ 2))) (xw_at tW_6 13 rfl) rfl (by rfl) (Nat.le_of_ble_eq_true rfl) (xdec_at tL_things_9 25 rfl) ⟨(Nat.le_of_ble_eq_true rfl), (Nat.le_of_ble_eq_true rfl)⟩ ⟨(Nat.le_of_ble_eq_true rfl), (Nat.le_of_ble_eq_true rfl)⟩ ?_
                rintro v9 l23 C9 ⟨rfl, y_l23, rfl⟩
                rw [← y_l23.1, ← y_l23.2.1, ← y_l23.2.2 (300, 0) (by decide) (by decide)]
                refine v_ldc (v := -2000000003) X (xw_at tW_12 2 rfl) (xdec_at tL_things_9 26 rfl) ?_
                refine v_icmp_ne (tgt := 718) X (xdec_at tL_things_9 27 rfl) (by decide) (fun h9 => absurd rfl h9) (fun _ => ?_)
                refine v_iconst (v := 1) X (xdec_at tL_things_9 28 rfl) (by decide) ?_
                refine v_goto (tgt := 719) X (xdec_at tL_things_9 29 rfl) (by decide) ?_
                exact v_xr (v_zret X hr (xdec_at tL_things_9 31 rfl) (Nat.le_of_ble_eq_true rfl) (Nat.le_of_ble_eq_true rfl) (by rfl) ⟨rfl, (lyL_tr y_l22 y_l23), ν, tb, (by rw [dv_e (μ := μ) (ν := ν) (by rw [eO 0 (by decide)]) (by rw [eO 10 (by decide)]) (by rw [eO 16 (by decide)])] <;> rfl), hJ.up, (by unfold nG nP; rw [eO 10 (by decide), eO 0 (by decide)]; exact hg), Nat.le_refl _⟩)
              · refine v_iload X (xdec_at tL_things_8 9 rfl) rfl ?_
                refine v_ldc (v := -2000000003) X (xw_at tW_12 2 rfl) (xdec_at tL_things_8 10 rfl) ?_
                refine v_icmp_ne (tgt := 638) X (xdec_at tL_things_8 11 rfl) (by decide) (fun _ => ?_) (fun h9 => absurd h9 (show ¬ _ = (-2000000003 : Int32) from by rw [v2]; decide))
                refine v_iload X (xdec_at tL_things_8 30 rfl) rfl ?_
                refine v_iconst (v := 3) X (xdec_at tL_things_8 31 rfl) (by decide) ?_
                refine v_icmp_ne (tgt := 718) X (xdec_at tL_things_8 32 rfl) (by decide) (fun h9 => absurd h3 h9) (fun _ => ?_)
                refine v_iload X (xdec_at tL_things_8 33 rfl) rfl ?_
                refine v_if_le (tgt := 718) X (xdec_at tL_things_8 34 rfl) (by decide) (fun h9 => absurd h9 (Int32.not_le.mpr (show 0 < μ.1 35 u0 from by rw [n2]; exact nI_lt (a := 0) (n5 h21).1 (by omega)))) (fun _ => ?_)
                refine v_iload X (xdec_at tL_things_8 35 rfl) rfl ?_
                refine v_if_eq (tgt := 670) X (xdec_at tL_things_8 36 rfl) (by decide) (fun h9 => absurd h9 (show ¬ _ = (0 : Int32) from by rw [v2]; decide)) (fun _ => ?_)
                refine v_iload X (xdec_at tL_things_8 37 rfl) rfl ?_
                refine v_sipush (v := 2000) X (xdec_at tL_things_8 38 rfl) (by decide) ?_
                refine v_icmp_eq (tgt := 670) X (xdec_at tL_things_8 39 rfl) (by decide) (fun _ => ?_) (fun h9 => absurd v2 h9)
                refine v_aload_n X (xdec_at tL_things_9 3 rfl) rfl rfl ?_
                refine v_aload_n X (xdec_at tL_things_9 4 rfl) rfl rfl ?_
                refine v_iconst (v := 3) X (xdec_at tL_things_9 5 rfl) (by decide) ?_
                refine v_wL X hE myL_sums [.ref (l22 (0, 0)), .ref (l22 (300, 0)), .int 3] [] (sums3_W hl0 hJ.I hfn rfl) (xw_at tW_13 28 rfl) rfl rfl (by rfl) (Nat.le_of_ble_eq_true rfl) (xdec_at tL_things_9 6 rfl) ⟨(Nat.le_of_ble_eq_true rfl), (Nat.le_of_ble_eq_true rfl)⟩ ⟨(Nat.le_of_ble_eq_true rfl), (Nat.le_of_ble_eq_true rfl)⟩ ?_
                rintro v9 lay9 C9 ⟨rfl, rfl, rfl⟩
                refine v_lload X (xdec_at tL_things_9 7 rfl) rfl ?_
                refine v_ldc2 (v := 4000) X (xw_at tW_13 33 rfl) (xdec_at tL_things_9 8 rfl) ?_
                refine v_lsub X (xdec_at tL_things_9 9 rfl) ?_
                refine v_lcmp X (xdec_at tL_things_9 10 rfl) ?_
                refine v_if_ne (tgt := 718) X (xdec_at tL_things_9 11 rfl) (by decide) (fun h9 => absurd (lcz (by rw [nPn]; exact e8)) h9) (fun _ => ?_)
                refine v_aload_n X (xdec_at tL_things_9 12 rfl) rfl rfl ?_
                refine v_aload_n X (xdec_at tL_things_9 13 rfl) rfl rfl ?_
                refine v_iconst (v := 2) X (xdec_at tL_things_9 14 rfl) (by decide) ?_
                refine v_wL X hE myL_sums [.ref (l22 (0, 0)), .ref (l22 (300, 0)), .int 2] [] (sums2_W hl0 hJ.I hfn rfl) (xw_at tW_13 28 rfl) rfl rfl (by rfl) (Nat.le_of_ble_eq_true rfl) (xdec_at tL_things_9 15 rfl) ⟨(Nat.le_of_ble_eq_true rfl), (Nat.le_of_ble_eq_true rfl)⟩ ⟨(Nat.le_of_ble_eq_true rfl), (Nat.le_of_ble_eq_true rfl)⟩ ?_
                rintro v9 lay9 C9 ⟨rfl, rfl, rfl⟩
                refine v_lload X (xdec_at tL_things_9 16 rfl) rfl ?_
                refine v_lcmp X (xdec_at tL_things_9 17 rfl) ?_
                refine v_if_ne (tgt := 718) X (xdec_at tL_things_9 18 rfl) (by decide) (fun h9 => absurd (lcz (by rw [nPn]; exact v3)) h9) (fun _ => ?_)
                refine v_aload_n X (xdec_at tL_things_9 19 rfl) rfl rfl ?_
                refine v_bipush (v := 15) X (xdec_at tL_things_9 20 rfl) (by decide) ?_
                refine v_iload X (xdec_at tL_things_9 21 rfl) rfl ?_
                refine v_iconst (v := 0) X (xdec_at tL_things_9 22 rfl) (by decide) ?_
                refine v_iconst (v := 0) X (xdec_at tL_things_9 23 rfl) (by decide) ?_
                refine v_iconst (v := 0) X (xdec_at tL_things_9 24 rfl) (by decide) ?_
                have g3 := isT_n hJ.I (p := u0) (by rw [nTn]; exact hu0)
                have e29 : ν.1 29 u0 = 1 := by rw [v1]; exact u_at
                refine v_wC X hE mw_call [.ref (l22 (0, 0)), .int 15, .int (nI u0), .int 0, .int 0, .int 0] [] (call_W rfl (ckE_claim_2 hl0 hJ (show (M_claim ν (nI u0)).2.1 38 0 = 2 from by unfold M_claim; rw [if_pos g3.1, g3.2, if_pos (Or.inr (Or.inr (by rw [e29]; decide)))]; exact th_38 _ 2))) (xw_at tW_6 13 rfl) rfl (by rfl) (Nat.le_of_ble_eq_true rfl) (xdec_at tL_things_9 25 rfl) ⟨(Nat.le_of_ble_eq_true rfl), (Nat.le_of_ble_eq_true rfl)⟩ ⟨(Nat.le_of_ble_eq_true rfl), (Nat.le_of_ble_eq_true rfl)⟩ ?_
                rintro v9 l24 C9 ⟨rfl, y_l24, rfl⟩
                rw [← y_l24.1, ← y_l24.2.1, ← y_l24.2.2 (300, 0) (by decide) (by decide)]
                refine v_ldc (v := -2000000003) X (xw_at tW_12 2 rfl) (xdec_at tL_things_9 26 rfl) ?_
                refine v_icmp_ne (tgt := 718) X (xdec_at tL_things_9 27 rfl) (by decide) (fun h9 => absurd rfl h9) (fun _ => ?_)
                refine v_iconst (v := 1) X (xdec_at tL_things_9 28 rfl) (by decide) ?_
                refine v_goto (tgt := 719) X (xdec_at tL_things_9 29 rfl) (by decide) ?_
                exact v_xr (v_zret X hr (xdec_at tL_things_9 31 rfl) (Nat.le_of_ble_eq_true rfl) (Nat.le_of_ble_eq_true rfl) (by rfl) ⟨rfl, (lyL_tr y_l22 y_l24), ν, tb, (by rw [dv_e (μ := μ) (ν := ν) (by rw [eO 0 (by decide)]) (by rw [eO 10 (by decide)]) (by rw [eO 16 (by decide)])] <;> rfl), hJ.up, (by unfold nG nP; rw [eO 10 (by decide), eO 0 (by decide)]; exact hg), Nat.le_refl _⟩)
              · refine v_iload X (xdec_at tL_things_8 9 rfl) rfl ?_
                refine v_ldc (v := -2000000003) X (xw_at tW_12 2 rfl) (xdec_at tL_things_8 10 rfl) ?_
                refine v_icmp_ne (tgt := 638) X (xdec_at tL_things_8 11 rfl) (by decide) (fun _ => ?_) (fun h9 => absurd h9 (show ¬ _ = (-2000000003 : Int32) from by rw [v2]; decide))
                refine v_iload X (xdec_at tL_things_8 30 rfl) rfl ?_
                refine v_iconst (v := 3) X (xdec_at tL_things_8 31 rfl) (by decide) ?_
                refine v_icmp_ne (tgt := 718) X (xdec_at tL_things_8 32 rfl) (by decide) (fun h9 => absurd h3 h9) (fun _ => ?_)
                refine v_iload X (xdec_at tL_things_8 33 rfl) rfl ?_
                refine v_if_le (tgt := 718) X (xdec_at tL_things_8 34 rfl) (by decide) (fun h9 => absurd h9 (Int32.not_le.mpr (show 0 < μ.1 35 u0 from by rw [n2]; exact nI_lt (a := 0) (n5 h21).1 (by omega)))) (fun _ => ?_)
                refine v_iload X (xdec_at tL_things_8 35 rfl) rfl ?_
                refine v_if_eq (tgt := 670) X (xdec_at tL_things_8 36 rfl) (by decide) (fun h9 => absurd h9 (show ¬ _ = (0 : Int32) from by rw [v2]; decide)) (fun _ => ?_)
                refine v_iload X (xdec_at tL_things_8 37 rfl) rfl ?_
                refine v_sipush (v := 2000) X (xdec_at tL_things_8 38 rfl) (by decide) ?_
                refine v_icmp_eq (tgt := 670) X (xdec_at tL_things_8 39 rfl) (by decide) (fun h9 => absurd h9 (show ¬ _ = (2000 : Int32) from by rw [v2]; decide)) (fun _ => ?_)
                refine v_iload X (xdec_at tL_things_9 0 rfl) rfl ?_
                refine v_sipush (v := 4000) X (xdec_at tL_things_9 1 rfl) (by decide) ?_
                refine v_icmp_ne (tgt := 718) X (xdec_at tL_things_9 2 rfl) (by decide) (fun h9 => absurd v2 h9) (fun _ => ?_)
                refine v_aload_n X (xdec_at tL_things_9 3 rfl) rfl rfl ?_
                refine v_aload_n X (xdec_at tL_things_9 4 rfl) rfl rfl ?_
                refine v_iconst (v := 3) X (xdec_at tL_things_9 5 rfl) (by decide) ?_
                refine v_wL X hE myL_sums [.ref (l22 (0, 0)), .ref (l22 (300, 0)), .int 3] [] (sums3_W hl0 hJ.I hfn rfl) (xw_at tW_13 28 rfl) rfl rfl (by rfl) (Nat.le_of_ble_eq_true rfl) (xdec_at tL_things_9 6 rfl) ⟨(Nat.le_of_ble_eq_true rfl), (Nat.le_of_ble_eq_true rfl)⟩ ⟨(Nat.le_of_ble_eq_true rfl), (Nat.le_of_ble_eq_true rfl)⟩ ?_
                rintro v9 lay9 C9 ⟨rfl, rfl, rfl⟩
                refine v_lload X (xdec_at tL_things_9 7 rfl) rfl ?_
                refine v_ldc2 (v := 4000) X (xw_at tW_13 33 rfl) (xdec_at tL_things_9 8 rfl) ?_
                refine v_lsub X (xdec_at tL_things_9 9 rfl) ?_
                refine v_lcmp X (xdec_at tL_things_9 10 rfl) ?_
                refine v_if_ne (tgt := 718) X (xdec_at tL_things_9 11 rfl) (by decide) (fun h9 => absurd (lcz (by rw [nPn]; exact e8)) h9) (fun _ => ?_)
                refine v_aload_n X (xdec_at tL_things_9 12 rfl) rfl rfl ?_
                refine v_aload_n X (xdec_at tL_things_9 13 rfl) rfl rfl ?_
                refine v_iconst (v := 2) X (xdec_at tL_things_9 14 rfl) (by decide) ?_
                refine v_wL X hE myL_sums [.ref (l22 (0, 0)), .ref (l22 (300, 0)), .int 2] [] (sums2_W hl0 hJ.I hfn rfl) (xw_at tW_13 28 rfl) rfl rfl (by rfl) (Nat.le_of_ble_eq_true rfl) (xdec_at tL_things_9 15 rfl) ⟨(Nat.le_of_ble_eq_true rfl), (Nat.le_of_ble_eq_true rfl)⟩ ⟨(Nat.le_of_ble_eq_true rfl), (Nat.le_of_ble_eq_true rfl)⟩ ?_
                rintro v9 lay9 C9 ⟨rfl, rfl, rfl⟩
                refine v_lload X (xdec_at tL_things_9 16 rfl) rfl ?_
                refine v_lcmp X (xdec_at tL_things_9 17 rfl) ?_
                refine v_if_ne (tgt := 718) X (xdec_at tL_things_9 18 rfl) (by decide) (fun h9 => absurd (lcz (by rw [nPn]; exact v3)) h9) (fun _ => ?_)
                refine v_aload_n X (xdec_at tL_things_9 19 rfl) rfl rfl ?_
                refine v_bipush (v := 15) X (xdec_at tL_things_9 20 rfl) (by decide) ?_
                refine v_iload X (xdec_at tL_things_9 21 rfl) rfl ?_
                refine v_iconst (v := 0) X (xdec_at tL_things_9 22 rfl) (by decide) ?_
                refine v_iconst (v := 0) X (xdec_at tL_things_9 23 rfl) (by decide) ?_
                refine v_iconst (v := 0) X (xdec_at tL_things_9 24 rfl) (by decide) ?_
                have g3 := isT_n hJ.I (p := u0) (by rw [nTn]; exact hu0)
                have e29 : ν.1 29 u0 = 1 := by rw [v1]; exact u_at
                refine v_wC X hE mw_call [.ref (l22 (0, 0)), .int 15, .int (nI u0), .int 0, .int 0, .int 0] [] (call_W rfl (ckE_claim_2 hl0 hJ (show (M_claim ν (nI u0)).2.1 38 0 = 2 from by unfold M_claim; rw [if_pos g3.1, g3.2, if_pos (Or.inr (Or.inr (by rw [e29]; decide)))]; exact th_38 _ 2))) (xw_at tW_6 13 rfl) rfl (by rfl) (Nat.le_of_ble_eq_true rfl) (xdec_at tL_things_9 25 rfl) ⟨(Nat.le_of_ble_eq_true rfl), (Nat.le_of_ble_eq_true rfl)⟩ ⟨(Nat.le_of_ble_eq_true rfl), (Nat.le_of_ble_eq_true rfl)⟩ ?_
                rintro v9 l25 C9 ⟨rfl, y_l25, rfl⟩
                rw [← y_l25.1, ← y_l25.2.1, ← y_l25.2.2 (300, 0) (by decide) (by decide)]
                refine v_ldc (v := -2000000003) X (xw_at tW_12 2 rfl) (xdec_at tL_things_9 26 rfl) ?_
                refine v_icmp_ne (tgt := 718) X (xdec_at tL_things_9 27 rfl) (by decide) (fun h9 => absurd rfl h9) (fun _ => ?_)
                refine v_iconst (v := 1) X (xdec_at tL_things_9 28 rfl) (by decide) ?_
                refine v_goto (tgt := 719) X (xdec_at tL_things_9 29 rfl) (by decide) ?_
                exact v_xr (v_zret X hr (xdec_at tL_things_9 31 rfl) (Nat.le_of_ble_eq_true rfl) (Nat.le_of_ble_eq_true rfl) (by rfl) ⟨rfl, (lyL_tr y_l22 y_l25), ν, tb, (by rw [dv_e (μ := μ) (ν := ν) (by rw [eO 0 (by decide)]) (by rw [eO 10 (by decide)]) (by rw [eO 16 (by decide)])] <;> rfl), hJ.up, (by unfold nG nP; rw [eO 10 (by decide), eO 0 (by decide)]; exact hg), Nat.le_refl _⟩)
          · refine v_iload X (xdec_at tL_things_5 19 rfl) rfl ?_
            refine v_iconst (v := 5) X (xdec_at tL_things_5 20 rfl) (by decide) ?_
            refine v_ishr X (xdec_at tL_things_5 21 rfl) fun u8 => ?_
            refine v_iconst (v := 3) X (xdec_at tL_things_5 22 rfl) (by decide) ?_
            refine v_wL X hE myL_some [.int u8, .int (nI 3)] [] (c_some u8 (n := 3) (by decide) (by decide)) (xw_at tW_2 29 rfl) rfl rfl (by rfl) (Nat.le_of_ble_eq_true rfl) (xdec_at tL_things_5 23 rfl) ⟨(Nat.le_of_ble_eq_true rfl), (Nat.le_of_ble_eq_true rfl)⟩ ⟨(Nat.le_of_ble_eq_true rfl), (Nat.le_of_ble_eq_true rfl)⟩ ?_
            rintro v9 lay9 C9 ⟨rfl, rfl, u9, hu9, rfl⟩
            refine v_if_le (tgt := 428) X (xdec_at tL_things_5 24 rfl) (by decide) (fun c_412 => ?_) (fun c_412 => ?_)
            · by_cases hu : undW μ u0
              · obtain ⟨n, n1, n2, n3, n4, n5⟩ := hTP.2.2.2.2.2.1
                by_cases hn0 : n = 0
                · refine v_aload_n X (xdec_at tL_things_5 33 rfl) rfl rfl ?_
                  refine v_aload_n X (xdec_at tL_things_5 34 rfl) rfl rfl ?_
                  refine v_bipush (v := 14) X (xdec_at tL_things_5 35 rfl) (by decide) ?_
                  refine v_iload X (xdec_at tL_things_5 36 rfl) rfl ?_
                  refine v_iconst (v := 0) X (xdec_at tL_things_5 37 rfl) (by decide) ?_
                  refine v_iconst (v := 0) X (xdec_at tL_things_5 38 rfl) (by decide) ?_
                  refine v_iconst (v := 0) X (xdec_at tL_things_5 39 rfl) (by decide) ?_
                  obtain ⟨eM, hJ⟩ := cm_lose hL hu0 hu
                  have e35 : μ.1 35 u0 = 0 := by rw [n2, hn0]; rfl
                  rw [if_pos e35] at eM
                  have eO : ∀ j, j ≠ 23 ∧ j ≠ 26 → (nuO μ u0).1 j = μ.1 j := fun j hj => by
                    show up2 (up2 μ.1 23 u0 3) 26 u0 0 j = _
                    rw [up2_ne _ _ _ _ _ hj.2, up2_ne _ _ _ _ _ hj.1]
                  have eO23 : (nuO μ u0).1 23 u0 = 3 := by
                    show up2 (up2 μ.1 23 u0 3) 26 u0 0 23 u0 = 3
                    rw [up2_ne _ _ _ _ _ (by decide)]
                    exact u_at
                  have eO26 : (nuO μ u0).1 26 u0 = 0 := u_at
                  have eOT : nT (nuO μ u0) = nT μ := by unfold nT; rw [eO 16 (by decide)]
                  refine v_wL X hE myL_both [.ref (lay (0, 0)), .ref (lay (500, 0)), .int 14, .int (nI u0), .int 0, .int 0, .int 0] [] (both_of rfl (ckS_lose hl0 hL eM hJ.z)) (xw_at tW_6 11 rfl) rfl rfl (by rfl) (Nat.le_of_ble_eq_true rfl) (xdec_at tL_things_6 0 rfl) ⟨(Nat.le_of_ble_eq_true rfl), (Nat.le_of_ble_eq_true rfl)⟩ ⟨(Nat.le_of_ble_eq_true rfl), (Nat.le_of_ble_eq_true rfl)⟩ ?_
                  rintro v9 l26 C9 ⟨rfl, y_l26, rfl⟩
                  rw [← y_l26.1, ← y_l26.2.1, ← y_l26.2.2 (300, 0) (by decide) (by decide)]
                  refine v_istore (lv' := [some (.ref (l26 (0, 0))), some (.ref (l26 (500, 0))), some (.ref (l26 (300, 0))), some (.int x), some (.int z), some (.int (nI u0)), some (.int (nI u1)), some (.int (μ.1 23 u0)), some (.int (μ.1 24 u0)), some (.int (μ.1 19 u0)), some (.int 1), some (.int (μ.1 35 u0)), some (.int (-1)), none, none, none, none]) X (xdec_at tL_things_6 1 rfl) (by decide) rfl ?_
                  refine v_iload X (xdec_at tL_things_6 2 rfl) rfl ?_
                  refine v_ldc (v := -2000000001) X (xw_at tW_12 0 rfl) (xdec_at tL_things_6 3 rfl) ?_
                  refine v_icmp_ne (tgt := 469) X (xdec_at tL_things_6 4 rfl) (by decide) (fun _ => ?_) (fun h9 => absurd h9 (by decide))
                  refine v_iload X (xdec_at tL_things_6 17 rfl) rfl ?_
                  refine v_ldc (v := -2000000003) X (xw_at tW_12 2 rfl) (xdec_at tL_things_6 18 rfl) ?_
                  refine v_icmp_ne (tgt := 490) X (xdec_at tL_things_6 19 rfl) (by decide) (fun _ => ?_) (fun h9 => absurd h9 (by decide))
                  refine v_iload X (xdec_at tL_things_6 27 rfl) rfl ?_
                  refine v_iconst (v := 2) X (xdec_at tL_things_6 28 rfl) (by decide) ?_
                  refine v_icmp_ge (tgt := 569) X (xdec_at tL_things_6 29 rfl) (by decide) (fun h9 => absurd h9 (st_lt hu).2.1) (fun _ => ?_)
                  refine v_aload_n X (xdec_at tL_things_6 30 rfl) rfl rfl ?_
                  refine v_iload X (xdec_at tL_things_6 31 rfl) rfl ?_
                  refine v_iconst (v := 0) X (xdec_at tL_things_6 32 rfl) (by decide) ?_
                  refine v_wN X hE myX4_ofThing [.int (nI u0), .int 0] [] (qy_ofThing (t := u0) (w := 0) hl0 hJ.I hJ.K (show u0 < nT (nuO μ u0) from by rw [eOT]; exact hu0) (by decide)) (xw_at tW_5 30 rfl) (0, 0) cX_X rfl rfl rfl rfl (by rfl) (Nat.le_of_ble_eq_true rfl) (xdec_at tL_things_6 33 rfl) ⟨(Nat.le_of_ble_eq_true rfl), (Nat.le_of_ble_eq_true rfl)⟩ ⟨(Nat.le_of_ble_eq_true rfl), (Nat.le_of_ble_eq_true rfl)⟩ ?_
                  rintro v9 lay9 C9 ⟨rfl, rfl, rfl⟩
                  refine v_ldc2 (v := 3) X (xw_at tW_13 32 rfl) (xdec_at tL_things_6 34 rfl) ?_
                  refine v_lcmp X (xdec_at tL_things_6 35 rfl) ?_
                  refine v_if_ne (tgt := 569) X (xdec_at tL_things_6 36 rfl) (by decide) (fun h9 => absurd (lcz (show ((nuO μ u0).1 23 u0).toInt64 = 3 from by rw [eO23]; rfl)) h9) (fun _ => ?_)
                  refine v_aload_n X (xdec_at tL_things_6 37 rfl) rfl rfl ?_
                  refine v_iload X (xdec_at tL_things_6 38 rfl) rfl ?_
                  refine v_iconst (v := 1) X (xdec_at tL_things_6 39 rfl) (by decide) ?_
                  refine v_wN X hE myX4_ofThing [.int (nI u0), .int 1] [] (qy_ofThing (t := u0) (w := 1) hl0 hJ.I hJ.K (show u0 < nT (nuO μ u0) from by rw [eOT]; exact hu0) (by decide)) (xw_at tW_5 30 rfl) (0, 0) cX_X rfl rfl rfl rfl (by rfl) (Nat.le_of_ble_eq_true rfl) (xdec_at tL_things_7 0 rfl) ⟨(Nat.le_of_ble_eq_true rfl), (Nat.le_of_ble_eq_true rfl)⟩ ⟨(Nat.le_of_ble_eq_true rfl), (Nat.le_of_ble_eq_true rfl)⟩ ?_
                  rintro v9 lay9 C9 ⟨rfl, rfl, rfl⟩
                  refine v_iload X (xdec_at tL_things_7 1 rfl) rfl ?_
                  refine v_i2l X (xdec_at tL_things_7 2 rfl) rfl ?_
                  refine v_lcmp X (xdec_at tL_things_7 3 rfl) ?_
                  refine v_if_ne (tgt := 569) X (xdec_at tL_things_7 4 rfl) (by decide) (fun h9 => absurd (lcz (show ((nuO μ u0).1 24 u0).toInt64 = _ from by rw [eO 24 (by decide)])) h9) (fun _ => ?_)
                  refine v_aload_n X (xdec_at tL_things_7 5 rfl) rfl rfl ?_
                  refine v_iload X (xdec_at tL_things_7 6 rfl) rfl ?_
                  refine v_iconst (v := 2) X (xdec_at tL_things_7 7 rfl) (by decide) ?_
                  refine v_wN X hE myX4_ofThing [.int (nI u0), .int 2] [] (qy_ofThing (t := u0) (w := 2) hl0 hJ.I hJ.K (show u0 < nT (nuO μ u0) from by rw [eOT]; exact hu0) (by decide)) (xw_at tW_5 30 rfl) (0, 0) cX_X rfl rfl rfl rfl (by rfl) (Nat.le_of_ble_eq_true rfl) (xdec_at tL_things_7 8 rfl) ⟨(Nat.le_of_ble_eq_true rfl), (Nat.le_of_ble_eq_true rfl)⟩ ⟨(Nat.le_of_ble_eq_true rfl), (Nat.le_of_ble_eq_true rfl)⟩ ?_
                  rintro v9 lay9 C9 ⟨rfl, rfl, rfl⟩
                  refine v_lconst (v := 0) X (xdec_at tL_things_7 9 rfl) (by decide) ?_
                  refine v_lcmp X (xdec_at tL_things_7 10 rfl) ?_
                  refine v_if_ne (tgt := 569) X (xdec_at tL_things_7 11 rfl) (by decide) (fun h9 => absurd (lcz (show ((nuO μ u0).1 26 u0).toInt64 = 0 from by rw [eO26]; rfl)) h9) (fun _ => ?_)
                  refine v_iload X (xdec_at tL_things_7 12 rfl) rfl ?_
                  refine v_if_ne (tgt := 550) X (xdec_at tL_things_7 13 rfl) (by decide) (fun h9 => absurd e35 h9) (fun _ => ?_)
                  refine v_iload X (xdec_at tL_things_7 14 rfl) rfl ?_
                  refine v_iconst (v := (-1)) X (xdec_at tL_things_7 15 rfl) (by decide) ?_
                  refine v_icmp_ne (tgt := 569) X (xdec_at tL_things_7 16 rfl) (by decide) (fun h9 => absurd h9 (by decide)) (fun _ => ?_)
                  refine v_goto (tgt := 565) X (xdec_at tL_things_7 17 rfl) (by decide) ?_
                  refine v_iconst (v := 1) X (xdec_at tL_things_7 26 rfl) (by decide) ?_
                  refine v_goto (tgt := 570) X (xdec_at tL_things_7 27 rfl) (by decide) ?_
                  exact v_xr (v_zret X hr (xdec_at tL_things_7 29 rfl) (Nat.le_of_ble_eq_true rfl) (Nat.le_of_ble_eq_true rfl) (by rfl) ⟨rfl, y_l26, (nuO μ u0), tb, (by rw [dv_e (μ := μ) (ν := (nuO μ u0)) (by rw [eO 0 (by decide)]) (by rw [eO 10 (by decide)]) (by rw [eO 16 (by decide)])] <;> rfl), hJ.up, (by unfold nG nP; rw [eO 10 (by decide), eO 0 (by decide)]; exact hg), Nat.le_refl _⟩)
                · refine v_aload_n X (xdec_at tL_things_5 33 rfl) rfl rfl ?_
                  refine v_aload_n X (xdec_at tL_things_5 34 rfl) rfl rfl ?_
                  refine v_bipush (v := 14) X (xdec_at tL_things_5 35 rfl) (by decide) ?_
                  refine v_iload X (xdec_at tL_things_5 36 rfl) rfl ?_
                  refine v_iconst (v := 0) X (xdec_at tL_things_5 37 rfl) (by decide) ?_
                  refine v_iconst (v := 0) X (xdec_at tL_things_5 38 rfl) (by decide) ?_
                  refine v_iconst (v := 0) X (xdec_at tL_things_5 39 rfl) (by decide) ?_
                  obtain ⟨eM, hJ⟩ := cm_lose hL hu0 hu
                  have e35 : ¬ μ.1 35 u0 = 0 := by rw [n2]; exact fun q9 => hn0 (nI_inj (b := 0) (by omega) (by decide) q9)
                  have h21 : ¬ μ.1 21 u0 = 0 := fun q9 => hn0 (n4 q9)
                  rw [if_neg e35, lose_hand hL hu0 n2 n1 hn0] at eM
                  have hV := vp_ne (n5 h21).2.2
                  have eO : ∀ j, j ≠ 23 ∧ j ≠ 26 → (nuO μ u0).1 j = μ.1 j := fun j hj => by
                    show up2 (up2 μ.1 23 u0 3) 26 u0 0 j = _
                    rw [up2_ne _ _ _ _ _ hj.2, up2_ne _ _ _ _ _ hj.1]
                  have eO23 : (nuO μ u0).1 23 u0 = 3 := by
                    show up2 (up2 μ.1 23 u0 3) 26 u0 0 23 u0 = 3
                    rw [up2_ne _ _ _ _ _ (by decide)]
                    exact u_at
                  have eO26 : (nuO μ u0).1 26 u0 = 0 := u_at
                  have eOT : nT (nuO μ u0) = nT μ := by unfold nT; rw [eO 16 (by decide)]
                  refine v_wL X hE myL_both [.ref (lay (0, 0)), .ref (lay (500, 0)), .int 14, .int (nI u0), .int 0, .int 0, .int 0] [] (both_of rfl (ckS_lose hl0 hL eM hJ.z)) (xw_at tW_6 11 rfl) rfl rfl (by rfl) (Nat.le_of_ble_eq_true rfl) (xdec_at tL_things_6 0 rfl) ⟨(Nat.le_of_ble_eq_true rfl), (Nat.le_of_ble_eq_true rfl)⟩ ⟨(Nat.le_of_ble_eq_true rfl), (Nat.le_of_ble_eq_true rfl)⟩ ?_
                  rintro v9 l27 C9 ⟨rfl, y_l27, rfl⟩
                  rw [← y_l27.1, ← y_l27.2.1, ← y_l27.2.2 (300, 0) (by decide) (by decide)]
                  refine v_istore (lv' := [some (.ref (l27 (0, 0))), some (.ref (l27 (500, 0))), some (.ref (l27 (300, 0))), some (.int x), some (.int z), some (.int (nI u0)), some (.int (nI u1)), some (.int (μ.1 23 u0)), some (.int (μ.1 24 u0)), some (.int (μ.1 19 u0)), some (.int 1), some (.int (μ.1 35 u0)), some (.int (tb.2.1 u0 (n - 1))), none, none, none, none]) X (xdec_at tL_things_6 1 rfl) (by decide) rfl ?_
                  refine v_iload X (xdec_at tL_things_6 2 rfl) rfl ?_
                  refine v_ldc (v := -2000000001) X (xw_at tW_12 0 rfl) (xdec_at tL_things_6 3 rfl) ?_
                  refine v_icmp_ne (tgt := 469) X (xdec_at tL_things_6 4 rfl) (by decide) (fun _ => ?_) (fun h9 => absurd h9 hV.1)
                  refine v_iload X (xdec_at tL_things_6 17 rfl) rfl ?_
                  refine v_ldc (v := -2000000003) X (xw_at tW_12 2 rfl) (xdec_at tL_things_6 18 rfl) ?_
                  refine v_icmp_ne (tgt := 490) X (xdec_at tL_things_6 19 rfl) (by decide) (fun _ => ?_) (fun h9 => absurd h9 hV.2.2)
                  refine v_iload X (xdec_at tL_things_6 27 rfl) rfl ?_
                  refine v_iconst (v := 2) X (xdec_at tL_things_6 28 rfl) (by decide) ?_
                  refine v_icmp_ge (tgt := 569) X (xdec_at tL_things_6 29 rfl) (by decide) (fun h9 => absurd h9 (st_lt hu).2.1) (fun _ => ?_)
                  refine v_aload_n X (xdec_at tL_things_6 30 rfl) rfl rfl ?_
                  refine v_iload X (xdec_at tL_things_6 31 rfl) rfl ?_
                  refine v_iconst (v := 0) X (xdec_at tL_things_6 32 rfl) (by decide) ?_
                  refine v_wN X hE myX4_ofThing [.int (nI u0), .int 0] [] (qy_ofThing (t := u0) (w := 0) hl0 hJ.I hJ.K (show u0 < nT (nuO μ u0) from by rw [eOT]; exact hu0) (by decide)) (xw_at tW_5 30 rfl) (0, 0) cX_X rfl rfl rfl rfl (by rfl) (Nat.le_of_ble_eq_true rfl) (xdec_at tL_things_6 33 rfl) ⟨(Nat.le_of_ble_eq_true rfl), (Nat.le_of_ble_eq_true rfl)⟩ ⟨(Nat.le_of_ble_eq_true rfl), (Nat.le_of_ble_eq_true rfl)⟩ ?_
                  rintro v9 lay9 C9 ⟨rfl, rfl, rfl⟩
                  refine v_ldc2 (v := 3) X (xw_at tW_13 32 rfl) (xdec_at tL_things_6 34 rfl) ?_
                  refine v_lcmp X (xdec_at tL_things_6 35 rfl) ?_
                  refine v_if_ne (tgt := 569) X (xdec_at tL_things_6 36 rfl) (by decide) (fun h9 => absurd (lcz (show ((nuO μ u0).1 23 u0).toInt64 = 3 from by rw [eO23]; rfl)) h9) (fun _ => ?_)
                  refine v_aload_n X (xdec_at tL_things_6 37 rfl) rfl rfl ?_
                  refine v_iload X (xdec_at tL_things_6 38 rfl) rfl ?_
                  refine v_iconst (v := 1) X (xdec_at tL_things_6 39 rfl) (by decide) ?_
                  refine v_wN X hE myX4_ofThing [.int (nI u0), .int 1] [] (qy_ofThing (t := u0) (w := 1) hl0 hJ.I hJ.K (show u0 < nT (nuO μ u0) from by rw [eOT]; exact hu0) (by decide)) (xw_at tW_5 30 rfl) (0, 0) cX_X rfl rfl rfl rfl (by rfl) (Nat.le_of_ble_eq_true rfl) (xdec_at tL_things_7 0 rfl) ⟨(Nat.le_of_ble_eq_true rfl), (Nat.le_of_ble_eq_true rfl)⟩ ⟨(Nat.le_of_ble_eq_true rfl), (Nat.le_of_ble_eq_true rfl)⟩ ?_
                  rintro v9 lay9 C9 ⟨rfl, rfl, rfl⟩
                  refine v_iload X (xdec_at tL_things_7 1 rfl) rfl ?_
                  refine v_i2l X (xdec_at tL_things_7 2 rfl) rfl ?_
                  refine v_lcmp X (xdec_at tL_things_7 3 rfl) ?_
                  refine v_if_ne (tgt := 569) X (xdec_at tL_things_7 4 rfl) (by decide) (fun h9 => absurd (lcz (show ((nuO μ u0).1 24 u0).toInt64 = _ from by rw [eO 24 (by decide)])) h9) (fun _ => ?_)
                  refine v_aload_n X (xdec_at tL_things_7 5 rfl) rfl rfl ?_
                  refine v_iload X (xdec_at tL_things_7 6 rfl) rfl ?_
                  refine v_iconst (v := 2) X (xdec_at tL_things_7 7 rfl) (by decide) ?_
                  refine v_wN X hE myX4_ofThing [.int (nI u0), .int 2] [] (qy_ofThing (t := u0) (w := 2) hl0 hJ.I hJ.K (show u0 < nT (nuO μ u0) from by rw [eOT]; exact hu0) (by decide)) (xw_at tW_5 30 rfl) (0, 0) cX_X rfl rfl rfl rfl (by rfl) (Nat.le_of_ble_eq_true rfl) (xdec_at tL_things_7 8 rfl) ⟨(Nat.le_of_ble_eq_true rfl), (Nat.le_of_ble_eq_true rfl)⟩ ⟨(Nat.le_of_ble_eq_true rfl), (Nat.le_of_ble_eq_true rfl)⟩ ?_
                  rintro v9 lay9 C9 ⟨rfl, rfl, rfl⟩
                  refine v_lconst (v := 0) X (xdec_at tL_things_7 9 rfl) (by decide) ?_
                  refine v_lcmp X (xdec_at tL_things_7 10 rfl) ?_
                  refine v_if_ne (tgt := 569) X (xdec_at tL_things_7 11 rfl) (by decide) (fun h9 => absurd (lcz (show ((nuO μ u0).1 26 u0).toInt64 = 0 from by rw [eO26]; rfl)) h9) (fun _ => ?_)
                  refine v_iload X (xdec_at tL_things_7 12 rfl) rfl ?_
                  refine v_if_ne (tgt := 550) X (xdec_at tL_things_7 13 rfl) (by decide) (fun _ => ?_) (fun h9 => absurd h9 e35)
                  refine v_iload X (xdec_at tL_things_7 18 rfl) rfl ?_
                  refine v_aload_n X (xdec_at tL_things_7 19 rfl) rfl rfl ?_
                  refine v_iload X (xdec_at tL_things_7 20 rfl) rfl ?_
                  refine v_iload X (xdec_at tL_things_7 21 rfl) rfl ?_
                  refine v_iconst (v := 1) X (xdec_at tL_things_7 22 rfl) (by decide) ?_
                  refine v_isub X (xdec_at tL_things_7 23 rfl) ?_
                  refine v_st (st' := [.int (nI (n - 1)), .int (nI u0), .ref (l27 (0, 0)), .int (tb.2.1 u0 (n - 1))]) (by rw [n2, show (1 : Int32) = nI 1 from rfl, pk_sub (b := 1) (by omega)] <;> rfl) ?_
                  refine v_wN X hE myX4_hand [.int (nI u0), .int (nI (n - 1))] [.int (tb.2.1 u0 (n - 1))] (qy_hand (t := u0) (n := n - 1) hl0 hJ.I hJ.H.choose_spec (show u0 < nT (nuO μ u0) from by rw [eOT]; exact hu0) (show (nuO μ u0).1 35 u0 = nI n from by rw [eO 35 (by decide)]; exact n2) (by omega) (by omega)) (xw_at tW_11 36 rfl) (0, 0) cX_X rfl rfl rfl rfl (by rfl) (Nat.le_of_ble_eq_true rfl) (xdec_at tL_things_7 24 rfl) ⟨(Nat.le_of_ble_eq_true rfl), (Nat.le_of_ble_eq_true rfl)⟩ ⟨(Nat.le_of_ble_eq_true rfl), (Nat.le_of_ble_eq_true rfl)⟩ ?_
                  rintro v9 lay9 C9 ⟨rfl, rfl, rfl⟩
                  refine v_icmp_ne (tgt := 569) X (xdec_at tL_things_7 25 rfl) (by decide) (fun h9 => absurd rfl h9) (fun _ => ?_)
                  refine v_iconst (v := 1) X (xdec_at tL_things_7 26 rfl) (by decide) ?_
                  refine v_goto (tgt := 570) X (xdec_at tL_things_7 27 rfl) (by decide) ?_
                  exact v_xr (v_zret X hr (xdec_at tL_things_7 29 rfl) (Nat.le_of_ble_eq_true rfl) (Nat.le_of_ble_eq_true rfl) (by rfl) ⟨rfl, y_l27, (nuO μ u0), tb, (by rw [dv_e (μ := μ) (ν := (nuO μ u0)) (by rw [eO 0 (by decide)]) (by rw [eO 10 (by decide)]) (by rw [eO 16 (by decide)])] <;> rfl), hJ.up, (by unfold nG nP; rw [eO 10 (by decide), eO 0 (by decide)]; exact hg), Nat.le_refl _⟩)
              · refine v_aload_n X (xdec_at tL_things_5 33 rfl) rfl rfl ?_
                refine v_aload_n X (xdec_at tL_things_5 34 rfl) rfl rfl ?_
                refine v_bipush (v := 14) X (xdec_at tL_things_5 35 rfl) (by decide) ?_
                refine v_iload X (xdec_at tL_things_5 36 rfl) rfl ?_
                refine v_iconst (v := 0) X (xdec_at tL_things_5 37 rfl) (by decide) ?_
                refine v_iconst (v := 0) X (xdec_at tL_things_5 38 rfl) (by decide) ?_
                refine v_iconst (v := 0) X (xdec_at tL_things_5 39 rfl) (by decide) ?_
                refine v_wL X hE myL_both [.ref (lay (0, 0)), .ref (lay (500, 0)), .int 14, .int (nI u0), .int 0, .int 0, .int 0] [] (both_of rfl (ckE_lose_2 hl0 hL (show (M_lose μ (nI u0)).2.1 38 0 = 2 from by unfold M_lose; rw [if_pos g1.1, g1.2, if_neg hu]; exact th_38 _ 2))) (xw_at tW_6 11 rfl) rfl rfl (by rfl) (Nat.le_of_ble_eq_true rfl) (xdec_at tL_things_6 0 rfl) ⟨(Nat.le_of_ble_eq_true rfl), (Nat.le_of_ble_eq_true rfl)⟩ ⟨(Nat.le_of_ble_eq_true rfl), (Nat.le_of_ble_eq_true rfl)⟩ ?_
                rintro v9 l28 C9 ⟨rfl, y_l28, rfl⟩
                rw [← y_l28.1, ← y_l28.2.1, ← y_l28.2.2 (300, 0) (by decide) (by decide)]
                refine v_istore (lv' := [some (.ref (l28 (0, 0))), some (.ref (l28 (500, 0))), some (.ref (l28 (300, 0))), some (.int x), some (.int z), some (.int (nI u0)), some (.int (nI u1)), some (.int (μ.1 23 u0)), some (.int (μ.1 24 u0)), some (.int (μ.1 19 u0)), some (.int 1), some (.int (μ.1 35 u0)), some (.int (-2000000003)), none, none, none, none]) X (xdec_at tL_things_6 1 rfl) (by decide) rfl ?_
                refine v_iload X (xdec_at tL_things_6 2 rfl) rfl ?_
                refine v_ldc (v := -2000000001) X (xw_at tW_12 0 rfl) (xdec_at tL_things_6 3 rfl) ?_
                refine v_icmp_ne (tgt := 469) X (xdec_at tL_things_6 4 rfl) (by decide) (fun _ => ?_) (fun h9 => absurd h9 (by decide))
                refine v_iload X (xdec_at tL_things_6 17 rfl) rfl ?_
                refine v_ldc (v := -2000000003) X (xw_at tW_12 2 rfl) (xdec_at tL_things_6 18 rfl) ?_
                refine v_icmp_ne (tgt := 490) X (xdec_at tL_things_6 19 rfl) (by decide) (fun h9 => absurd h9 (by decide)) (fun _ => ?_)
                refine v_iload X (xdec_at tL_things_6 20 rfl) rfl ?_
                refine v_iconst (v := 1) X (xdec_at tL_things_6 21 rfl) (by decide) ?_
                refine v_icmp_le (tgt := 486) X (xdec_at tL_things_6 22 rfl) (by decide) (fun h9 => absurd h9 (Int32.not_le.mpr (st_gt hTP.1 hu).1)) (fun _ => ?_)
                refine v_iconst (v := 1) X (xdec_at tL_things_6 23 rfl) (by decide) ?_
                refine v_goto (tgt := 570) X (xdec_at tL_things_6 24 rfl) (by decide) ?_
                exact v_xr (v_zret X hr (xdec_at tL_things_7 29 rfl) (Nat.le_of_ble_eq_true rfl) (Nat.le_of_ble_eq_true rfl) (by rfl) ⟨rfl, y_l28, μ, tb, rfl, hL.up.up, hg, Nat.le_refl _⟩)
            · refine v_aload_n X (xdec_at tL_things_5 25 rfl) rfl rfl ?_
              refine v_bipush (v := 14) X (xdec_at tL_things_5 26 rfl) (by decide) ?_
              refine v_iconst (v := (-1)) X (xdec_at tL_things_5 27 rfl) (by decide) ?_
              refine v_iconst (v := 0) X (xdec_at tL_things_5 28 rfl) (by decide) ?_
              refine v_iconst (v := 0) X (xdec_at tL_things_5 29 rfl) (by decide) ?_
              refine v_iconst (v := 0) X (xdec_at tL_things_5 30 rfl) (by decide) ?_
              refine v_wC X hE mw_call [.ref (lay (0, 0)), .int 14, .int (-1), .int 0, .int 0, .int 0] [] (call_W rfl (ckE_lose_1 hl0 hL (show (M_lose μ (-1)).2.1 38 0 = 1 from by unfold M_lose; rw [if_neg (notT_m hL.I)]; exact th_38 μ 1))) (xw_at tW_6 13 rfl) rfl (by rfl) (Nat.le_of_ble_eq_true rfl) (xdec_at tL_things_5 31 rfl) ⟨(Nat.le_of_ble_eq_true rfl), (Nat.le_of_ble_eq_true rfl)⟩ ⟨(Nat.le_of_ble_eq_true rfl), (Nat.le_of_ble_eq_true rfl)⟩ ?_
              rintro v9 l29 C9 ⟨rfl, y_l29, rfl⟩
              rw [← y_l29.1, ← y_l29.2.1, ← y_l29.2.2 (300, 0) (by decide) (by decide)]
              refine v_goto (tgt := 440) X (xdec_at tL_things_5 32 rfl) (by decide) ?_
              refine v_istore (lv' := [some (.ref (l29 (0, 0))), some (.ref (l29 (500, 0))), some (.ref (l29 (300, 0))), some (.int x), some (.int z), some (.int (nI u0)), some (.int (nI u1)), some (.int (μ.1 23 u0)), some (.int (μ.1 24 u0)), some (.int (μ.1 19 u0)), some (.int 1), some (.int (μ.1 35 u0)), some (.int (-2000000001)), none, none, none, none]) X (xdec_at tL_things_6 1 rfl) (by decide) rfl ?_
              refine v_iload X (xdec_at tL_things_6 2 rfl) rfl ?_
              refine v_ldc (v := -2000000001) X (xw_at tW_12 0 rfl) (xdec_at tL_things_6 3 rfl) ?_
              refine v_icmp_ne (tgt := 469) X (xdec_at tL_things_6 4 rfl) (by decide) (fun h9 => absurd h9 (by decide)) (fun _ => ?_)
              refine v_aload_n X (xdec_at tL_things_6 5 rfl) rfl rfl ?_
              refine v_iload X (xdec_at tL_things_6 6 rfl) rfl ?_
              refine v_iconst (v := 0) X (xdec_at tL_things_6 7 rfl) (by decide) ?_
              refine v_wN X hE myX4_ofThing [.int (nI u0), .int 0] [] (qy_ofThing (t := u0) (w := 0) hl0 hL.I hL.K hu0 (by decide)) (xw_at tW_5 30 rfl) (0, 0) cX_X rfl rfl rfl rfl (by rfl) (Nat.le_of_ble_eq_true rfl) (xdec_at tL_things_6 8 rfl) ⟨(Nat.le_of_ble_eq_true rfl), (Nat.le_of_ble_eq_true rfl)⟩ ⟨(Nat.le_of_ble_eq_true rfl), (Nat.le_of_ble_eq_true rfl)⟩ ?_
              rintro v9 lay9 C9 ⟨rfl, rfl, rfl⟩
              refine v_iload X (xdec_at tL_things_6 9 rfl) rfl ?_
              refine v_i2l X (xdec_at tL_things_6 10 rfl) rfl ?_
              refine v_lcmp X (xdec_at tL_things_6 11 rfl) ?_
              refine v_if_ne (tgt := 467) X (xdec_at tL_things_6 12 rfl) (by decide) (fun h9 => absurd (lcz rfl) h9) (fun _ => ?_)
              refine v_iconst (v := 1) X (xdec_at tL_things_6 13 rfl) (by decide) ?_
              refine v_goto (tgt := 468) X (xdec_at tL_things_6 14 rfl) (by decide) ?_
              exact v_xr (v_zret X hr (xdec_at tL_things_6 16 rfl) (Nat.le_of_ble_eq_true rfl) (Nat.le_of_ble_eq_true rfl) (by rfl) ⟨rfl, y_l29, μ, tb, rfl, hL.up.up, hg, Nat.le_refl _⟩)
        · refine v_iload X (xdec_at tL_things_3 37 rfl) rfl ?_
          refine v_iconst (v := 5) X (xdec_at tL_things_3 38 rfl) (by decide) ?_
          refine v_ishr X (xdec_at tL_things_3 39 rfl) fun u10 => ?_
          refine v_iconst (v := 3) X (xdec_at tL_things_4 0 rfl) (by decide) ?_
          refine v_wL X hE myL_some [.int u10, .int (nI 3)] [] (c_some u10 (n := 3) (by decide) (by decide)) (xw_at tW_2 29 rfl) rfl rfl (by rfl) (Nat.le_of_ble_eq_true rfl) (xdec_at tL_things_4 1 rfl) ⟨(Nat.le_of_ble_eq_true rfl), (Nat.le_of_ble_eq_true rfl)⟩ ⟨(Nat.le_of_ble_eq_true rfl), (Nat.le_of_ble_eq_true rfl)⟩ ?_
          rintro v9 lay9 C9 ⟨rfl, rfl, u11, hu11, rfl⟩
          refine v_if_le (tgt := 301) X (xdec_at tL_things_4 2 rfl) (by decide) (fun c_294 => ?_) (fun c_294 => ?_)
          · refine v_iconst (v := 0) X (xdec_at tL_things_4 5 rfl) (by decide) ?_
            refine v_istore (lv' := [some (.ref (lay (0, 0))), some (.ref (lay (500, 0))), some (.ref (lay (300, 0))), some (.int x), some (.int z), some (.int (nI u0)), some (.int (nI u1)), some (.int (μ.1 23 u0)), some (.int (μ.1 24 u0)), some (.int (μ.1 19 u0)), some (.int 1), some (.int 0), none, none, none, none, none]) X (xdec_at tL_things_4 6 rfl) (by decide) rfl ?_
            by_cases hu : undW μ u0
            · refine v_aload_n X (xdec_at tL_things_4 7 rfl) rfl rfl ?_
              refine v_aload_n X (xdec_at tL_things_4 8 rfl) rfl rfl ?_
              refine v_bipush (v := 12) X (xdec_at tL_things_4 9 rfl) (by decide) ?_
              refine v_iload X (xdec_at tL_things_4 10 rfl) rfl ?_
              refine v_iload X (xdec_at tL_things_4 11 rfl) rfl ?_
              refine v_iconst (v := 0) X (xdec_at tL_things_4 12 rfl) (by decide) ?_
              refine v_iconst (v := 0) X (xdec_at tL_things_4 13 rfl) (by decide) ?_
              refine v_wL X hE myL_both [.ref (lay (0, 0)), .ref (lay (500, 0)), .int 12, .int (nI u0), .int 0, .int 0, .int 0] [] (both_of rfl (ckE_refuse_2 hl0 hL (show (M_refuse μ (nI u0) (bo 0)).2.1 38 0 = 2 from by unfold M_refuse; rw [if_pos g1.1, g1.2, if_pos (Or.inr h27)]; exact th_38 _ 2))) (xw_at tW_6 11 rfl) rfl rfl (by rfl) (Nat.le_of_ble_eq_true rfl) (xdec_at tL_things_4 14 rfl) ⟨(Nat.le_of_ble_eq_true rfl), (Nat.le_of_ble_eq_true rfl)⟩ ⟨(Nat.le_of_ble_eq_true rfl), (Nat.le_of_ble_eq_true rfl)⟩ ?_
              rintro v9 l30 C9 ⟨rfl, y_l30, rfl⟩
              rw [← y_l30.1, ← y_l30.2.1, ← y_l30.2.2 (300, 0) (by decide) (by decide)]
              refine v_istore (lv' := [some (.ref (l30 (0, 0))), some (.ref (l30 (500, 0))), some (.ref (l30 (300, 0))), some (.int x), some (.int z), some (.int (nI u0)), some (.int (nI u1)), some (.int (μ.1 23 u0)), some (.int (μ.1 24 u0)), some (.int (μ.1 19 u0)), some (.int 1), some (.int 0), some (.int (-2000000003)), none, none, none, none]) X (xdec_at tL_things_4 15 rfl) (by decide) rfl ?_
              refine v_iload X (xdec_at tL_things_4 16 rfl) rfl ?_
              refine v_ldc (v := -2000000003) X (xw_at tW_12 2 rfl) (xdec_at tL_things_4 17 rfl) ?_
              refine v_icmp_ne (tgt := 345) X (xdec_at tL_things_4 18 rfl) (by decide) (fun h9 => absurd h9 (by decide)) (fun _ => ?_)
              refine v_iload X (xdec_at tL_things_4 19 rfl) rfl ?_
              refine v_iconst (v := 1) X (xdec_at tL_things_4 20 rfl) (by decide) ?_
              refine v_icmp_gt (tgt := 337) X (xdec_at tL_things_4 21 rfl) (by decide) (fun h9 => absurd h9 (st_lt hu).1) (fun _ => ?_)
              refine v_iload X (xdec_at tL_things_4 22 rfl) rfl ?_
              refine v_if_eq (tgt := 341) X (xdec_at tL_things_4 23 rfl) (by decide) (fun h9 => absurd h9 (by decide)) (fun _ => ?_)
              refine v_iconst (v := 1) X (xdec_at tL_things_4 24 rfl) (by decide) ?_
              refine v_goto (tgt := 385) X (xdec_at tL_things_4 25 rfl) (by decide) ?_
              exact v_xr (v_zret X hr (xdec_at tL_things_5 9 rfl) (Nat.le_of_ble_eq_true rfl) (Nat.le_of_ble_eq_true rfl) (by rfl) ⟨rfl, y_l30, μ, tb, rfl, hL.up.up, hg, Nat.le_refl _⟩)
            · refine v_aload_n X (xdec_at tL_things_4 7 rfl) rfl rfl ?_
              refine v_aload_n X (xdec_at tL_things_4 8 rfl) rfl rfl ?_
              refine v_bipush (v := 12) X (xdec_at tL_things_4 9 rfl) (by decide) ?_
              refine v_iload X (xdec_at tL_things_4 10 rfl) rfl ?_
              refine v_iload X (xdec_at tL_things_4 11 rfl) rfl ?_
              refine v_iconst (v := 0) X (xdec_at tL_things_4 12 rfl) (by decide) ?_
              refine v_iconst (v := 0) X (xdec_at tL_things_4 13 rfl) (by decide) ?_
              refine v_wL X hE myL_both [.ref (lay (0, 0)), .ref (lay (500, 0)), .int 12, .int (nI u0), .int 0, .int 0, .int 0] [] (both_of rfl (ckE_refuse_2 hl0 hL (show (M_refuse μ (nI u0) (bo 0)).2.1 38 0 = 2 from by unfold M_refuse; rw [if_pos g1.1, g1.2, if_pos (Or.inl hu)]; exact th_38 _ 2))) (xw_at tW_6 11 rfl) rfl rfl (by rfl) (Nat.le_of_ble_eq_true rfl) (xdec_at tL_things_4 14 rfl) ⟨(Nat.le_of_ble_eq_true rfl), (Nat.le_of_ble_eq_true rfl)⟩ ⟨(Nat.le_of_ble_eq_true rfl), (Nat.le_of_ble_eq_true rfl)⟩ ?_
              rintro v9 l31 C9 ⟨rfl, y_l31, rfl⟩
              rw [← y_l31.1, ← y_l31.2.1, ← y_l31.2.2 (300, 0) (by decide) (by decide)]
              refine v_istore (lv' := [some (.ref (l31 (0, 0))), some (.ref (l31 (500, 0))), some (.ref (l31 (300, 0))), some (.int x), some (.int z), some (.int (nI u0)), some (.int (nI u1)), some (.int (μ.1 23 u0)), some (.int (μ.1 24 u0)), some (.int (μ.1 19 u0)), some (.int 1), some (.int 0), some (.int (-2000000003)), none, none, none, none]) X (xdec_at tL_things_4 15 rfl) (by decide) rfl ?_
              refine v_iload X (xdec_at tL_things_4 16 rfl) rfl ?_
              refine v_ldc (v := -2000000003) X (xw_at tW_12 2 rfl) (xdec_at tL_things_4 17 rfl) ?_
              refine v_icmp_ne (tgt := 345) X (xdec_at tL_things_4 18 rfl) (by decide) (fun h9 => absurd h9 (by decide)) (fun _ => ?_)
              refine v_iload X (xdec_at tL_things_4 19 rfl) rfl ?_
              refine v_iconst (v := 1) X (xdec_at tL_things_4 20 rfl) (by decide) ?_
              refine v_icmp_gt (tgt := 337) X (xdec_at tL_things_4 21 rfl) (by decide) (fun _ => ?_) (fun h9 => absurd (st_gt hTP.1 hu).1 h9)
              refine v_iconst (v := 1) X (xdec_at tL_things_4 24 rfl) (by decide) ?_
              refine v_goto (tgt := 385) X (xdec_at tL_things_4 25 rfl) (by decide) ?_
              exact v_xr (v_zret X hr (xdec_at tL_things_5 9 rfl) (Nat.le_of_ble_eq_true rfl) (Nat.le_of_ble_eq_true rfl) (by rfl) ⟨rfl, y_l31, μ, tb, rfl, hL.up.up, hg, Nat.le_refl _⟩)
          · refine v_iconst (v := 1) X (xdec_at tL_things_4 3 rfl) (by decide) ?_
            refine v_goto (tgt := 302) X (xdec_at tL_things_4 4 rfl) (by decide) ?_
            refine v_istore (lv' := [some (.ref (lay (0, 0))), some (.ref (lay (500, 0))), some (.ref (lay (300, 0))), some (.int x), some (.int z), some (.int (nI u0)), some (.int (nI u1)), some (.int (μ.1 23 u0)), some (.int (μ.1 24 u0)), some (.int (μ.1 19 u0)), some (.int 1), some (.int 1), none, none, none, none, none]) X (xdec_at tL_things_4 6 rfl) (by decide) rfl ?_
            by_cases hu : undW μ u0
            · refine v_aload_n X (xdec_at tL_things_4 7 rfl) rfl rfl ?_
              refine v_aload_n X (xdec_at tL_things_4 8 rfl) rfl rfl ?_
              refine v_bipush (v := 12) X (xdec_at tL_things_4 9 rfl) (by decide) ?_
              refine v_iload X (xdec_at tL_things_4 10 rfl) rfl ?_
              refine v_iload X (xdec_at tL_things_4 11 rfl) rfl ?_
              refine v_iconst (v := 0) X (xdec_at tL_things_4 12 rfl) (by decide) ?_
              refine v_iconst (v := 0) X (xdec_at tL_things_4 13 rfl) (by decide) ?_
              refine v_wL X hE myL_both [.ref (lay (0, 0)), .ref (lay (500, 0)), .int 12, .int (nI u0), .int 1, .int 0, .int 0] [] (both_of rfl (ckE_refuse_2 hl0 hL (show (M_refuse μ (nI u0) (bo 1)).2.1 38 0 = 2 from by unfold M_refuse; rw [if_pos g1.1, g1.2, if_pos (Or.inr h27)]; exact th_38 _ 2))) (xw_at tW_6 11 rfl) rfl rfl (by rfl) (Nat.le_of_ble_eq_true rfl) (xdec_at tL_things_4 14 rfl) ⟨(Nat.le_of_ble_eq_true rfl), (Nat.le_of_ble_eq_true rfl)⟩ ⟨(Nat.le_of_ble_eq_true rfl), (Nat.le_of_ble_eq_true rfl)⟩ ?_
              rintro v9 l32 C9 ⟨rfl, y_l32, rfl⟩
              rw [← y_l32.1, ← y_l32.2.1, ← y_l32.2.2 (300, 0) (by decide) (by decide)]
              refine v_istore (lv' := [some (.ref (l32 (0, 0))), some (.ref (l32 (500, 0))), some (.ref (l32 (300, 0))), some (.int x), some (.int z), some (.int (nI u0)), some (.int (nI u1)), some (.int (μ.1 23 u0)), some (.int (μ.1 24 u0)), some (.int (μ.1 19 u0)), some (.int 1), some (.int 1), some (.int (-2000000003)), none, none, none, none]) X (xdec_at tL_things_4 15 rfl) (by decide) rfl ?_
              refine v_iload X (xdec_at tL_things_4 16 rfl) rfl ?_
              refine v_ldc (v := -2000000003) X (xw_at tW_12 2 rfl) (xdec_at tL_things_4 17 rfl) ?_
              refine v_icmp_ne (tgt := 345) X (xdec_at tL_things_4 18 rfl) (by decide) (fun h9 => absurd h9 (by decide)) (fun _ => ?_)
              refine v_iload X (xdec_at tL_things_4 19 rfl) rfl ?_
              refine v_iconst (v := 1) X (xdec_at tL_things_4 20 rfl) (by decide) ?_
              refine v_icmp_gt (tgt := 337) X (xdec_at tL_things_4 21 rfl) (by decide) (fun h9 => absurd h9 (st_lt hu).1) (fun _ => ?_)
              refine v_iload X (xdec_at tL_things_4 22 rfl) rfl ?_
              refine v_if_eq (tgt := 341) X (xdec_at tL_things_4 23 rfl) (by decide) (fun h9 => absurd h9 (by decide)) (fun _ => ?_)
              refine v_iconst (v := 1) X (xdec_at tL_things_4 24 rfl) (by decide) ?_
              refine v_goto (tgt := 385) X (xdec_at tL_things_4 25 rfl) (by decide) ?_
              exact v_xr (v_zret X hr (xdec_at tL_things_5 9 rfl) (Nat.le_of_ble_eq_true rfl) (Nat.le_of_ble_eq_true rfl) (by rfl) ⟨rfl, y_l32, μ, tb, rfl, hL.up.up, hg, Nat.le_refl _⟩)
            · refine v_aload_n X (xdec_at tL_things_4 7 rfl) rfl rfl ?_
              refine v_aload_n X (xdec_at tL_things_4 8 rfl) rfl rfl ?_
              refine v_bipush (v := 12) X (xdec_at tL_things_4 9 rfl) (by decide) ?_
              refine v_iload X (xdec_at tL_things_4 10 rfl) rfl ?_
              refine v_iload X (xdec_at tL_things_4 11 rfl) rfl ?_
              refine v_iconst (v := 0) X (xdec_at tL_things_4 12 rfl) (by decide) ?_
              refine v_iconst (v := 0) X (xdec_at tL_things_4 13 rfl) (by decide) ?_
              refine v_wL X hE myL_both [.ref (lay (0, 0)), .ref (lay (500, 0)), .int 12, .int (nI u0), .int 1, .int 0, .int 0] [] (both_of rfl (ckE_refuse_2 hl0 hL (show (M_refuse μ (nI u0) (bo 1)).2.1 38 0 = 2 from by unfold M_refuse; rw [if_pos g1.1, g1.2, if_pos (Or.inl hu)]; exact th_38 _ 2))) (xw_at tW_6 11 rfl) rfl rfl (by rfl) (Nat.le_of_ble_eq_true rfl) (xdec_at tL_things_4 14 rfl) ⟨(Nat.le_of_ble_eq_true rfl), (Nat.le_of_ble_eq_true rfl)⟩ ⟨(Nat.le_of_ble_eq_true rfl), (Nat.le_of_ble_eq_true rfl)⟩ ?_
              rintro v9 l33 C9 ⟨rfl, y_l33, rfl⟩
              rw [← y_l33.1, ← y_l33.2.1, ← y_l33.2.2 (300, 0) (by decide) (by decide)]
              refine v_istore (lv' := [some (.ref (l33 (0, 0))), some (.ref (l33 (500, 0))), some (.ref (l33 (300, 0))), some (.int x), some (.int z), some (.int (nI u0)), some (.int (nI u1)), some (.int (μ.1 23 u0)), some (.int (μ.1 24 u0)), some (.int (μ.1 19 u0)), some (.int 1), some (.int 1), some (.int (-2000000003)), none, none, none, none]) X (xdec_at tL_things_4 15 rfl) (by decide) rfl ?_
              refine v_iload X (xdec_at tL_things_4 16 rfl) rfl ?_
              refine v_ldc (v := -2000000003) X (xw_at tW_12 2 rfl) (xdec_at tL_things_4 17 rfl) ?_
              refine v_icmp_ne (tgt := 345) X (xdec_at tL_things_4 18 rfl) (by decide) (fun h9 => absurd h9 (by decide)) (fun _ => ?_)
              refine v_iload X (xdec_at tL_things_4 19 rfl) rfl ?_
              refine v_iconst (v := 1) X (xdec_at tL_things_4 20 rfl) (by decide) ?_
              refine v_icmp_gt (tgt := 337) X (xdec_at tL_things_4 21 rfl) (by decide) (fun _ => ?_) (fun h9 => absurd (st_gt hTP.1 hu).1 h9)
              refine v_iconst (v := 1) X (xdec_at tL_things_4 24 rfl) (by decide) ?_
              refine v_goto (tgt := 385) X (xdec_at tL_things_4 25 rfl) (by decide) ?_
              exact v_xr (v_zret X hr (xdec_at tL_things_5 9 rfl) (Nat.le_of_ble_eq_true rfl) (Nat.le_of_ble_eq_true rfl) (by rfl) ⟨rfl, y_l33, μ, tb, rfl, hL.up.up, hg, Nat.le_refl _⟩)
      · refine v_iload X (xdec_at tL_things_2 6 rfl) rfl ?_
        refine v_iconst (v := 5) X (xdec_at tL_things_2 7 rfl) (by decide) ?_
        refine v_ishr X (xdec_at tL_things_2 8 rfl) fun u12 => ?_
        refine v_aload_n X (xdec_at tL_things_2 9 rfl) rfl rfl ?_
        refine v_iconst (v := 0) X (xdec_at tL_things_2 10 rfl) (by decide) ?_
        refine x_iald (v := nI (nP μ)) X (300, 0) W2_d (vp_in_nI (n := 0) (N := 3) (by decide) (by decide)) rfl hf.1 (xdec_at tL_things_2 11 rfl) ?_
        refine v_wL X hE myL_some [.int u12, .int (nI (nP μ))] [] (c_some u12 (n := nP μ) (by omega) (by omega)) (xw_at tW_2 29 rfl) rfl rfl (by rfl) (Nat.le_of_ble_eq_true rfl) (xdec_at tL_things_2 12 rfl) ⟨(Nat.le_of_ble_eq_true rfl), (Nat.le_of_ble_eq_true rfl)⟩ ⟨(Nat.le_of_ble_eq_true rfl), (Nat.le_of_ble_eq_true rfl)⟩ ?_
        rintro v9 lay9 C9 ⟨rfl, rfl, u13, hu13, rfl⟩
        refine v_istore (lv' := [some (.ref (lay (0, 0))), some (.ref (lay (500, 0))), some (.ref (lay (300, 0))), some (.int x), some (.int z), some (.int (nI u0)), some (.int (nI u1)), some (.int (μ.1 23 u0)), some (.int (μ.1 24 u0)), some (.int (μ.1 19 u0)), some (.int 1), some (.int (nI u13)), none, none, none, none, none]) X (xdec_at tL_things_2 13 rfl) (by decide) rfl ?_
        have g2 := isP_n hL.I hu13
        by_cases hA : μ.1 23 u0 = 0 ∧ μ.1 24 u0 = nI u13
        · refine v_aload_n X (xdec_at tL_things_2 14 rfl) rfl rfl ?_
          refine v_aload_n X (xdec_at tL_things_2 15 rfl) rfl rfl ?_
          refine v_bipush (v := 11) X (xdec_at tL_things_2 16 rfl) (by decide) ?_
          refine v_iload X (xdec_at tL_things_2 17 rfl) rfl ?_
          refine v_iload X (xdec_at tL_things_2 18 rfl) rfl ?_
          refine v_iconst (v := 0) X (xdec_at tL_things_2 19 rfl) (by decide) ?_
          refine v_iconst (v := 0) X (xdec_at tL_things_2 20 rfl) (by decide) ?_
          refine v_wL X hE myL_both [.ref (lay (0, 0)), .ref (lay (500, 0)), .int 11, .int (nI u0), .int (nI u13), .int 0, .int 0] [] (both_of rfl (ckE_redirect_2 hl0 hL (show (M_redirect μ (nI u0) (nI u13)).2.1 38 0 = 2 from by unfold M_redirect; rw [if_pos ⟨g1.1, g2.1⟩, g1.2, if_pos hA]; exact th_38 _ 2))) (xw_at tW_6 11 rfl) rfl rfl (by rfl) (Nat.le_of_ble_eq_true rfl) (xdec_at tL_things_2 21 rfl) ⟨(Nat.le_of_ble_eq_true rfl), (Nat.le_of_ble_eq_true rfl)⟩ ⟨(Nat.le_of_ble_eq_true rfl), (Nat.le_of_ble_eq_true rfl)⟩ ?_
          rintro v9 l34 C9 ⟨rfl, y_l34, rfl⟩
          rw [← y_l34.1, ← y_l34.2.1, ← y_l34.2.2 (300, 0) (by decide) (by decide)]
          refine v_istore (lv' := [some (.ref (l34 (0, 0))), some (.ref (l34 (500, 0))), some (.ref (l34 (300, 0))), some (.int x), some (.int z), some (.int (nI u0)), some (.int (nI u1)), some (.int (μ.1 23 u0)), some (.int (μ.1 24 u0)), some (.int (μ.1 19 u0)), some (.int 1), some (.int (nI u13)), some (.int (-2000000002)), none, none, none, none]) X (xdec_at tL_things_2 22 rfl) (by decide) rfl ?_
          refine v_aload_n X (xdec_at tL_things_2 23 rfl) rfl rfl ?_
          refine v_iload X (xdec_at tL_things_2 24 rfl) rfl ?_
          refine v_iconst (v := 3) X (xdec_at tL_things_2 25 rfl) (by decide) ?_
          refine v_wN X hE myX4_ofThing [.int (nI u0), .int 3] [] (qy_ofThing (t := u0) (w := 3) hl0 hL.I hL.K hu0 (by decide)) (xw_at tW_5 30 rfl) (0, 0) cX_X rfl rfl rfl rfl (by rfl) (Nat.le_of_ble_eq_true rfl) (xdec_at tL_things_2 26 rfl) ⟨(Nat.le_of_ble_eq_true rfl), (Nat.le_of_ble_eq_true rfl)⟩ ⟨(Nat.le_of_ble_eq_true rfl), (Nat.le_of_ble_eq_true rfl)⟩ ?_
          rintro v9 lay9 C9 ⟨rfl, rfl, rfl⟩
          refine v_l2i (v := μ.1 19 u0) X (xdec_at tL_things_2 27 rfl) (Int32.toInt32_toInt64 _) ?_
          refine v_istore (lv' := [some (.ref (l34 (0, 0))), some (.ref (l34 (500, 0))), some (.ref (l34 (300, 0))), some (.int x), some (.int z), some (.int (nI u0)), some (.int (nI u1)), some (.int (μ.1 23 u0)), some (.int (μ.1 24 u0)), some (.int (μ.1 19 u0)), some (.int 1), some (.int (nI u13)), some (.int (-2000000002)), some (.int (μ.1 19 u0)), none, none, none]) X (xdec_at tL_things_2 28 rfl) (by decide) rfl ?_
          refine v_iload X (xdec_at tL_things_2 29 rfl) rfl ?_
          refine v_ldc (v := -2000000002) X (xw_at tW_12 1 rfl) (xdec_at tL_things_2 30 rfl) ?_
          refine v_icmp_ne (tgt := 216) X (xdec_at tL_things_2 31 rfl) (by decide) (fun h9 => absurd h9 (by decide)) (fun _ => ?_)
          refine v_iload X (xdec_at tL_things_2 32 rfl) rfl ?_
          refine v_if_ne (tgt := 212) X (xdec_at tL_things_2 33 rfl) (by decide) (fun h9 => absurd hA.1 h9) (fun _ => ?_)
          refine v_iload X (xdec_at tL_things_2 34 rfl) rfl ?_
          refine v_iload X (xdec_at tL_things_2 35 rfl) rfl ?_
          refine v_icmp_ne (tgt := 212) X (xdec_at tL_things_2 36 rfl) (by decide) (fun h9 => absurd hA.2 h9) (fun _ => ?_)
          refine v_iload X (xdec_at tL_things_2 37 rfl) rfl ?_
          refine v_iload X (xdec_at tL_things_2 38 rfl) rfl ?_
          refine v_icmp_ne (tgt := 212) X (xdec_at tL_things_2 39 rfl) (by decide) (fun h9 => absurd rfl h9) (fun _ => ?_)
          refine v_iconst (v := 1) X (xdec_at tL_things_3 0 rfl) (by decide) ?_
          refine v_goto (tgt := 279) X (xdec_at tL_things_3 1 rfl) (by decide) ?_
          exact v_xr (v_zret X hr (xdec_at tL_things_3 33 rfl) (Nat.le_of_ble_eq_true rfl) (Nat.le_of_ble_eq_true rfl) (by rfl) ⟨rfl, y_l34, μ, tb, rfl, hL.up.up, hg, Nat.le_refl _⟩)
        · by_cases hu : undW μ u0
          · refine v_aload_n X (xdec_at tL_things_2 14 rfl) rfl rfl ?_
            refine v_aload_n X (xdec_at tL_things_2 15 rfl) rfl rfl ?_
            refine v_bipush (v := 11) X (xdec_at tL_things_2 16 rfl) (by decide) ?_
            refine v_iload X (xdec_at tL_things_2 17 rfl) rfl ?_
            refine v_iload X (xdec_at tL_things_2 18 rfl) rfl ?_
            refine v_iconst (v := 0) X (xdec_at tL_things_2 19 rfl) (by decide) ?_
            refine v_iconst (v := 0) X (xdec_at tL_things_2 20 rfl) (by decide) ?_
            refine v_wL X hE myL_both [.ref (lay (0, 0)), .ref (lay (500, 0)), .int 11, .int (nI u0), .int (nI u13), .int 0, .int 0] [] (both_of rfl (ckE_redirect_3 hl0 hL (show (M_redirect μ (nI u0) (nI u13)).2.1 38 0 = 3 from by unfold M_redirect; rw [if_pos ⟨g1.1, g2.1⟩, g1.2, if_neg hA, if_pos (Or.inr h27)]; exact th_38 _ 3))) (xw_at tW_6 11 rfl) rfl rfl (by rfl) (Nat.le_of_ble_eq_true rfl) (xdec_at tL_things_2 21 rfl) ⟨(Nat.le_of_ble_eq_true rfl), (Nat.le_of_ble_eq_true rfl)⟩ ⟨(Nat.le_of_ble_eq_true rfl), (Nat.le_of_ble_eq_true rfl)⟩ ?_
            rintro v9 l35 C9 ⟨rfl, y_l35, rfl⟩
            rw [← y_l35.1, ← y_l35.2.1, ← y_l35.2.2 (300, 0) (by decide) (by decide)]
            refine v_istore (lv' := [some (.ref (l35 (0, 0))), some (.ref (l35 (500, 0))), some (.ref (l35 (300, 0))), some (.int x), some (.int z), some (.int (nI u0)), some (.int (nI u1)), some (.int (μ.1 23 u0)), some (.int (μ.1 24 u0)), some (.int (μ.1 19 u0)), some (.int 1), some (.int (nI u13)), some (.int (-2000000003)), none, none, none, none]) X (xdec_at tL_things_2 22 rfl) (by decide) rfl ?_
            refine v_aload_n X (xdec_at tL_things_2 23 rfl) rfl rfl ?_
            refine v_iload X (xdec_at tL_things_2 24 rfl) rfl ?_
            refine v_iconst (v := 3) X (xdec_at tL_things_2 25 rfl) (by decide) ?_
            refine v_wN X hE myX4_ofThing [.int (nI u0), .int 3] [] (qy_ofThing (t := u0) (w := 3) hl0 hL.I hL.K hu0 (by decide)) (xw_at tW_5 30 rfl) (0, 0) cX_X rfl rfl rfl rfl (by rfl) (Nat.le_of_ble_eq_true rfl) (xdec_at tL_things_2 26 rfl) ⟨(Nat.le_of_ble_eq_true rfl), (Nat.le_of_ble_eq_true rfl)⟩ ⟨(Nat.le_of_ble_eq_true rfl), (Nat.le_of_ble_eq_true rfl)⟩ ?_
            rintro v9 lay9 C9 ⟨rfl, rfl, rfl⟩
            refine v_l2i (v := μ.1 19 u0) X (xdec_at tL_things_2 27 rfl) (Int32.toInt32_toInt64 _) ?_
            refine v_istore (lv' := [some (.ref (l35 (0, 0))), some (.ref (l35 (500, 0))), some (.ref (l35 (300, 0))), some (.int x), some (.int z), some (.int (nI u0)), some (.int (nI u1)), some (.int (μ.1 23 u0)), some (.int (μ.1 24 u0)), some (.int (μ.1 19 u0)), some (.int 1), some (.int (nI u13)), some (.int (-2000000003)), some (.int (μ.1 19 u0)), none, none, none]) X (xdec_at tL_things_2 28 rfl) (by decide) rfl ?_
            refine v_iload X (xdec_at tL_things_2 29 rfl) rfl ?_
            refine v_ldc (v := -2000000002) X (xw_at tW_12 1 rfl) (xdec_at tL_things_2 30 rfl) ?_
            refine v_icmp_ne (tgt := 216) X (xdec_at tL_things_2 31 rfl) (by decide) (fun _ => ?_) (fun h9 => absurd h9 (by decide))
            refine v_iload X (xdec_at tL_things_3 4 rfl) rfl ?_
            refine v_ldc (v := -2000000003) X (xw_at tW_12 2 rfl) (xdec_at tL_things_3 5 rfl) ?_
            refine v_icmp_ne (tgt := 249) X (xdec_at tL_things_3 6 rfl) (by decide) (fun h9 => absurd h9 (by decide)) (fun _ => ?_)
            refine v_iload X (xdec_at tL_things_3 7 rfl) rfl ?_
            refine v_iconst (v := 1) X (xdec_at tL_things_3 8 rfl) (by decide) ?_
            refine v_icmp_gt (tgt := 234) X (xdec_at tL_things_3 9 rfl) (by decide) (fun h9 => absurd h9 (st_lt hu).1) (fun _ => ?_)
            refine v_iload X (xdec_at tL_things_3 10 rfl) rfl ?_
            refine v_if_eq (tgt := 245) X (xdec_at tL_things_3 11 rfl) (by decide) (fun h9 => absurd h9 (by decide)) (fun _ => ?_)
            refine v_iload X (xdec_at tL_things_3 12 rfl) rfl ?_
            refine v_iload X (xdec_at tL_things_3 13 rfl) rfl ?_
            refine v_icmp_ne (tgt := 245) X (xdec_at tL_things_3 14 rfl) (by decide) (fun h9 => absurd rfl h9) (fun _ => ?_)
            refine v_iconst (v := 1) X (xdec_at tL_things_3 15 rfl) (by decide) ?_
            refine v_goto (tgt := 279) X (xdec_at tL_things_3 16 rfl) (by decide) ?_
            exact v_xr (v_zret X hr (xdec_at tL_things_3 33 rfl) (Nat.le_of_ble_eq_true rfl) (Nat.le_of_ble_eq_true rfl) (by rfl) ⟨rfl, y_l35, μ, tb, rfl, hL.up.up, hg, Nat.le_refl _⟩)
          · refine v_aload_n X (xdec_at tL_things_2 14 rfl) rfl rfl ?_
            refine v_aload_n X (xdec_at tL_things_2 15 rfl) rfl rfl ?_
            refine v_bipush (v := 11) X (xdec_at tL_things_2 16 rfl) (by decide) ?_
            refine v_iload X (xdec_at tL_things_2 17 rfl) rfl ?_
            refine v_iload X (xdec_at tL_things_2 18 rfl) rfl ?_
            refine v_iconst (v := 0) X (xdec_at tL_things_2 19 rfl) (by decide) ?_
            refine v_iconst (v := 0) X (xdec_at tL_things_2 20 rfl) (by decide) ?_
            refine v_wL X hE myL_both [.ref (lay (0, 0)), .ref (lay (500, 0)), .int 11, .int (nI u0), .int (nI u13), .int 0, .int 0] [] (both_of rfl (ckE_redirect_3 hl0 hL (show (M_redirect μ (nI u0) (nI u13)).2.1 38 0 = 3 from by unfold M_redirect; rw [if_pos ⟨g1.1, g2.1⟩, g1.2, if_neg hA, if_pos (Or.inl hu)]; exact th_38 _ 3))) (xw_at tW_6 11 rfl) rfl rfl (by rfl) (Nat.le_of_ble_eq_true rfl) (xdec_at tL_things_2 21 rfl) ⟨(Nat.le_of_ble_eq_true rfl), (Nat.le_of_ble_eq_true rfl)⟩ ⟨(Nat.le_of_ble_eq_true rfl), (Nat.le_of_ble_eq_true rfl)⟩ ?_
            rintro v9 l36 C9 ⟨rfl, y_l36, rfl⟩
            rw [← y_l36.1, ← y_l36.2.1, ← y_l36.2.2 (300, 0) (by decide) (by decide)]
            refine v_istore (lv' := [some (.ref (l36 (0, 0))), some (.ref (l36 (500, 0))), some (.ref (l36 (300, 0))), some (.int x), some (.int z), some (.int (nI u0)), some (.int (nI u1)), some (.int (μ.1 23 u0)), some (.int (μ.1 24 u0)), some (.int (μ.1 19 u0)), some (.int 1), some (.int (nI u13)), some (.int (-2000000003)), none, none, none, none]) X (xdec_at tL_things_2 22 rfl) (by decide) rfl ?_
            refine v_aload_n X (xdec_at tL_things_2 23 rfl) rfl rfl ?_
            refine v_iload X (xdec_at tL_things_2 24 rfl) rfl ?_
            refine v_iconst (v := 3) X (xdec_at tL_things_2 25 rfl) (by decide) ?_
            refine v_wN X hE myX4_ofThing [.int (nI u0), .int 3] [] (qy_ofThing (t := u0) (w := 3) hl0 hL.I hL.K hu0 (by decide)) (xw_at tW_5 30 rfl) (0, 0) cX_X rfl rfl rfl rfl (by rfl) (Nat.le_of_ble_eq_true rfl) (xdec_at tL_things_2 26 rfl) ⟨(Nat.le_of_ble_eq_true rfl), (Nat.le_of_ble_eq_true rfl)⟩ ⟨(Nat.le_of_ble_eq_true rfl), (Nat.le_of_ble_eq_true rfl)⟩ ?_
            rintro v9 lay9 C9 ⟨rfl, rfl, rfl⟩
            refine v_l2i (v := μ.1 19 u0) X (xdec_at tL_things_2 27 rfl) (Int32.toInt32_toInt64 _) ?_
            refine v_istore (lv' := [some (.ref (l36 (0, 0))), some (.ref (l36 (500, 0))), some (.ref (l36 (300, 0))), some (.int x), some (.int z), some (.int (nI u0)), some (.int (nI u1)), some (.int (μ.1 23 u0)), some (.int (μ.1 24 u0)), some (.int (μ.1 19 u0)), some (.int 1), some (.int (nI u13)), some (.int (-2000000003)), some (.int (μ.1 19 u0)), none, none, none]) X (xdec_at tL_things_2 28 rfl) (by decide) rfl ?_
            refine v_iload X (xdec_at tL_things_2 29 rfl) rfl ?_
            refine v_ldc (v := -2000000002) X (xw_at tW_12 1 rfl) (xdec_at tL_things_2 30 rfl) ?_
            refine v_icmp_ne (tgt := 216) X (xdec_at tL_things_2 31 rfl) (by decide) (fun _ => ?_) (fun h9 => absurd h9 (by decide))
            refine v_iload X (xdec_at tL_things_3 4 rfl) rfl ?_
            refine v_ldc (v := -2000000003) X (xw_at tW_12 2 rfl) (xdec_at tL_things_3 5 rfl) ?_
            refine v_icmp_ne (tgt := 249) X (xdec_at tL_things_3 6 rfl) (by decide) (fun h9 => absurd h9 (by decide)) (fun _ => ?_)
            refine v_iload X (xdec_at tL_things_3 7 rfl) rfl ?_
            refine v_iconst (v := 1) X (xdec_at tL_things_3 8 rfl) (by decide) ?_
            refine v_icmp_gt (tgt := 234) X (xdec_at tL_things_3 9 rfl) (by decide) (fun _ => ?_) (fun h9 => absurd (st_gt hTP.1 hu).1 h9)
            refine v_iload X (xdec_at tL_things_3 12 rfl) rfl ?_
            refine v_iload X (xdec_at tL_things_3 13 rfl) rfl ?_
            refine v_icmp_ne (tgt := 245) X (xdec_at tL_things_3 14 rfl) (by decide) (fun h9 => absurd rfl h9) (fun _ => ?_)
            refine v_iconst (v := 1) X (xdec_at tL_things_3 15 rfl) (by decide) ?_
            refine v_goto (tgt := 279) X (xdec_at tL_things_3 16 rfl) (by decide) ?_
            exact v_xr (v_zret X hr (xdec_at tL_things_3 33 rfl) (Nat.le_of_ble_eq_true rfl) (Nat.le_of_ble_eq_true rfl) (by rfl) ⟨rfl, y_l36, μ, tb, rfl, hL.up.up, hg, Nat.le_refl _⟩)
  · have hT0 : nT μ = 0 := nI_inj (b := 0) (by omega) (by decide) c_3
    refine v_aload_n X (xdec_at tL_things_0 4 rfl) rfl rfl ?_
    refine v_bipush (v := 11) X (xdec_at tL_things_0 5 rfl) (by decide) ?_
    refine v_iconst (v := 0) X (xdec_at tL_things_0 6 rfl) (by decide) ?_
    refine v_iconst (v := 0) X (xdec_at tL_things_0 7 rfl) (by decide) ?_
    refine v_iconst (v := 0) X (xdec_at tL_things_0 8 rfl) (by decide) ?_
    refine v_iconst (v := 0) X (xdec_at tL_things_0 9 rfl) (by decide) ?_
    refine v_wC X hE mw_call [.ref (lay (0, 0)), .int 11, .int 0, .int 0, .int 0, .int 0] [] (call_W rfl (ckE_redirect_1 hl0 hL (show (M_redirect μ 0 0).2.1 38 0 = 1 from by unfold M_redirect; rw [if_neg (fun q9 => notT_0 hL.I hT0 _ q9.1)]; exact th_38 μ 1))) (xw_at tW_6 13 rfl) rfl (by rfl) (Nat.le_of_ble_eq_true rfl) (xdec_at tL_things_0 10 rfl) ⟨(Nat.le_of_ble_eq_true rfl), (Nat.le_of_ble_eq_true rfl)⟩ ⟨(Nat.le_of_ble_eq_true rfl), (Nat.le_of_ble_eq_true rfl)⟩ ?_
    rintro v9 l37 C9 ⟨rfl, y_l37, rfl⟩
    rw [← y_l37.1, ← y_l37.2.1, ← y_l37.2.2 (300, 0) (by decide) (by decide)]
    refine v_ldc (v := -2000000001) X (xw_at tW_12 0 rfl) (xdec_at tL_things_0 11 rfl) ?_
    refine v_icmp_ne (tgt := 70) X (xdec_at tL_things_0 12 rfl) (by decide) (fun h9 => absurd rfl h9) (fun _ => ?_)
    refine v_aload_n X (xdec_at tL_things_0 13 rfl) rfl rfl ?_
    refine v_bipush (v := 12) X (xdec_at tL_things_0 14 rfl) (by decide) ?_
    refine v_iconst (v := 0) X (xdec_at tL_things_0 15 rfl) (by decide) ?_
    refine v_iconst (v := 0) X (xdec_at tL_things_0 16 rfl) (by decide) ?_
    refine v_iconst (v := 0) X (xdec_at tL_things_0 17 rfl) (by decide) ?_
    refine v_iconst (v := 0) X (xdec_at tL_things_0 18 rfl) (by decide) ?_
    refine v_wC X hE mw_call [.ref (l37 (0, 0)), .int 12, .int 0, .int 0, .int 0, .int 0] [] (call_W rfl (ckE_refuse_1 hl0 hL (show (M_refuse μ 0 (bo 0)).2.1 38 0 = 1 from by unfold M_refuse; rw [if_neg (notT_0 hL.I hT0 _)]; exact th_38 μ 1))) (xw_at tW_6 13 rfl) rfl (by rfl) (Nat.le_of_ble_eq_true rfl) (xdec_at tL_things_0 19 rfl) ⟨(Nat.le_of_ble_eq_true rfl), (Nat.le_of_ble_eq_true rfl)⟩ ⟨(Nat.le_of_ble_eq_true rfl), (Nat.le_of_ble_eq_true rfl)⟩ ?_
    rintro v9 l38 C9 ⟨rfl, y_l38, rfl⟩
    rw [← y_l38.1, ← y_l38.2.1, ← y_l38.2.2 (300, 0) (by decide) (by decide)]
    refine v_ldc (v := -2000000001) X (xw_at tW_12 0 rfl) (xdec_at tL_things_0 20 rfl) ?_
    refine v_icmp_ne (tgt := 70) X (xdec_at tL_things_0 21 rfl) (by decide) (fun h9 => absurd rfl h9) (fun _ => ?_)
    refine v_aload_n X (xdec_at tL_things_0 22 rfl) rfl rfl ?_
    refine v_bipush (v := 14) X (xdec_at tL_things_0 23 rfl) (by decide) ?_
    refine v_iconst (v := 0) X (xdec_at tL_things_0 24 rfl) (by decide) ?_
    refine v_iconst (v := 0) X (xdec_at tL_things_0 25 rfl) (by decide) ?_
    refine v_iconst (v := 0) X (xdec_at tL_things_0 26 rfl) (by decide) ?_
    refine v_iconst (v := 0) X (xdec_at tL_things_0 27 rfl) (by decide) ?_
    refine v_wC X hE mw_call [.ref (l38 (0, 0)), .int 14, .int 0, .int 0, .int 0, .int 0] [] (call_W rfl (ckE_lose_1 hl0 hL (show (M_lose μ 0).2.1 38 0 = 1 from by unfold M_lose; rw [if_neg (notT_0 hL.I hT0 _)]; exact th_38 μ 1))) (xw_at tW_6 13 rfl) rfl (by rfl) (Nat.le_of_ble_eq_true rfl) (xdec_at tL_things_0 28 rfl) ⟨(Nat.le_of_ble_eq_true rfl), (Nat.le_of_ble_eq_true rfl)⟩ ⟨(Nat.le_of_ble_eq_true rfl), (Nat.le_of_ble_eq_true rfl)⟩ ?_
    rintro v9 l39 C9 ⟨rfl, y_l39, rfl⟩
    rw [← y_l39.1, ← y_l39.2.1, ← y_l39.2.2 (300, 0) (by decide) (by decide)]
    refine v_ldc (v := -2000000001) X (xw_at tW_12 0 rfl) (xdec_at tL_things_0 29 rfl) ?_
    refine v_icmp_ne (tgt := 70) X (xdec_at tL_things_0 30 rfl) (by decide) (fun h9 => absurd rfl h9) (fun _ => ?_)
    refine v_aload_n X (xdec_at tL_things_0 31 rfl) rfl rfl ?_
    refine v_bipush (v := 15) X (xdec_at tL_things_0 32 rfl) (by decide) ?_
    refine v_iconst (v := 0) X (xdec_at tL_things_0 33 rfl) (by decide) ?_
    refine v_iconst (v := 0) X (xdec_at tL_things_0 34 rfl) (by decide) ?_
    refine v_iconst (v := 0) X (xdec_at tL_things_0 35 rfl) (by decide) ?_
    refine v_iconst (v := 0) X (xdec_at tL_things_0 36 rfl) (by decide) ?_
    refine v_wC X hE mw_call [.ref (l39 (0, 0)), .int 15, .int 0, .int 0, .int 0, .int 0] [] (call_W rfl (ckE_claim_1 hl0 hL (show (M_claim μ 0).2.1 38 0 = 1 from by unfold M_claim; rw [if_neg (notT_0 hL.I hT0 _)]; exact th_38 μ 1))) (xw_at tW_6 13 rfl) rfl (by rfl) (Nat.le_of_ble_eq_true rfl) (xdec_at tL_things_0 37 rfl) ⟨(Nat.le_of_ble_eq_true rfl), (Nat.le_of_ble_eq_true rfl)⟩ ⟨(Nat.le_of_ble_eq_true rfl), (Nat.le_of_ble_eq_true rfl)⟩ ?_
    rintro v9 l40 C9 ⟨rfl, y_l40, rfl⟩
    rw [← y_l40.1, ← y_l40.2.1, ← y_l40.2.2 (300, 0) (by decide) (by decide)]
    refine v_ldc (v := -2000000001) X (xw_at tW_12 0 rfl) (xdec_at tL_things_0 38 rfl) ?_
    refine v_icmp_ne (tgt := 70) X (xdec_at tL_things_0 39 rfl) (by decide) (fun h9 => absurd rfl h9) (fun _ => ?_)
    refine v_iconst (v := 1) X (xdec_at tL_things_1 0 rfl) (by decide) ?_
    refine v_goto (tgt := 71) X (xdec_at tL_things_1 1 rfl) (by decide) ?_
    exact v_xr (v_zret X hr (xdec_at tL_things_1 3 rfl) (Nat.le_of_ble_eq_true rfl) (Nat.le_of_ble_eq_true rfl) (by rfl) ⟨rfl, (lyL_tr (lyL_tr (lyL_tr y_l37 y_l38) y_l39) y_l40), μ, tb, rfl, hL.up.up, hg, Nat.le_refl _⟩)
