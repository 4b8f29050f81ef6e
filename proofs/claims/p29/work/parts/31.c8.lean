set_option maxRecDepth 100000 in
set_option maxHeartbeats 4000000 in
theorem kyX2_leastOfWays (l : Launch) (Z : xZ) (B0 : Nat) (lay : xK → Nat) (μ : Mu) (tb : Tb) (r : xK → Option xE) (b : Nat) (hb : b < 8) : ∀ (k : Nat), k ≤ 8 → ∀ (a : Nat), a < 8 → ∀ (seen : Int32), YM l yX2_leastOfWays cX2_leastOfWays 9 (some FieldType.int) (k + 2) (60 * k + 60) 0 0 Z B0 [.ref (lay (5, 0)), .int (nI a), .int (nI b), .int seen, .int (nI (8 - k))] lay (cX Z lay μ tb r) (fun v lay' C' => lay = lay' ∧ v = some (.int (K_w (tb.1 0) b k a seen)) ∧ C' = cX Z lay μ tb r) := by
  intro k
  induction k with
  | zero =>
    intro hk a ha seen
    refine YM_of myX2_leastOfWays.2 RX2 rfl [some (.ref (lay (5, 0))), some (.int (nI a)), some (.int (nI b)), some (.int seen), some (.int (nI (8 - 0))), none, none, none, none] rfl (Nat.le_of_ble_eq_true rfl) ?_
    intro P1 P2 P3 P4 P5 P6 P7 P8 X hr hnm
    refine v_iload_n X (xdec_at tX2_leastOfWays_0 0 rfl) rfl rfl ?_
    refine v_iload_n X (xdec_at tX2_leastOfWays_0 1 rfl) rfl rfl ?_
    refine v_icmp_ne (tgt := 7) X (xdec_at tX2_leastOfWays_0 2 rfl) (by decide) (fun c_2 => ?_) (fun c_2 => ?_)
    · have hab : ¬ a = b := fun z => c_2 (by rw [z])
      refine v_ldc (v := 1000000) X (xw_at tW_1 13 rfl) (xdec_at tX2_leastOfWays_0 5 rfl) ?_
      refine v_istore (lv' := [some (.ref (lay (5, 0))), some (.int (nI a)), some (.int (nI b)), some (.int seen), some (.int (nI (8 - 0))), some (.int 1000000), none, none, none]) X (xdec_at tX2_leastOfWays_0 6 rfl) (by decide) rfl ?_
      refine v_iload X (xdec_at tX2_leastOfWays_0 7 rfl) rfl ?_
      refine v_bipush (v := 8) X (xdec_at tX2_leastOfWays_0 8 rfl) (by decide) ?_
      refine v_icmp_lt (tgt := 21) X (xdec_at tX2_leastOfWays_0 9 rfl) (by decide) (fun c_15 => ?_) (fun c_15 => ?_)
      · exact absurd c_15 (by decide)
      · refine v_iload X (xdec_at tX2_leastOfWays_0 10 rfl) rfl ?_
        have e9 : K_w (tb.1 0) b 0 a seen = 1000000 := by simp [K_w, hab]
        exact v_iret X hr (xdec_at tX2_leastOfWays_0 11 rfl) (Nat.le_of_ble_eq_true rfl) (Nat.le_of_ble_eq_true rfl) ⟨rfl, by rw [e9], rfl⟩
    · have hab : a = b := nI_inj (by omega) (by omega) (c_2)
      refine v_iconst (v := 0) X (xdec_at tX2_leastOfWays_0 3 rfl) (by decide) ?_
      have e9 : K_w (tb.1 0) b 0 a seen = 0 := by simp [K_w, (eq_true hab)]
      exact v_iret X hr (xdec_at tX2_leastOfWays_0 4 rfl) (Nat.le_of_ble_eq_true rfl) (Nat.le_of_ble_eq_true rfl) ⟨rfl, by rw [e9], rfl⟩
  | succ k ih =>
    intro hk a ha seen
    refine YM_of myX2_leastOfWays.2 RX2 rfl [some (.ref (lay (5, 0))), some (.int (nI a)), some (.int (nI b)), some (.int seen), some (.int (nI (8 - (k + 1)))), none, none, none, none] rfl (Nat.le_of_ble_eq_true rfl) ?_
    intro P1 P2 P3 P4 P5 P6 P7 P8 X hr hnm
    refine v_iload_n X (xdec_at tX2_leastOfWays_0 0 rfl) rfl rfl ?_
    refine v_iload_n X (xdec_at tX2_leastOfWays_0 1 rfl) rfl rfl ?_
    refine v_icmp_ne (tgt := 7) X (xdec_at tX2_leastOfWays_0 2 rfl) (by decide) (fun c_2 => ?_) (fun c_2 => ?_)
    · have hab : ¬ a = b := fun z => c_2 (by rw [z])
      refine v_ldc (v := 1000000) X (xw_at tW_1 13 rfl) (xdec_at tX2_leastOfWays_0 5 rfl) ?_
      refine v_istore (lv' := [some (.ref (lay (5, 0))), some (.int (nI a)), some (.int (nI b)), some (.int seen), some (.int (nI (8 - (k + 1)))), some (.int 1000000), none, none, none]) X (xdec_at tX2_leastOfWays_0 6 rfl) (by decide) rfl ?_
      refine v_iload X (xdec_at tX2_leastOfWays_0 7 rfl) rfl ?_
      refine v_bipush (v := 8) X (xdec_at tX2_leastOfWays_0 8 rfl) (by decide) ?_
      refine v_icmp_lt (tgt := 21) X (xdec_at tX2_leastOfWays_0 9 rfl) (by decide) (fun c_15 => ?_) (fun c_15 => ?_)
      · refine v_iconst (v := 0) X (xdec_at tX2_leastOfWays_0 12 rfl) (by decide) ?_
        refine v_istore (lv' := [some (.ref (lay (5, 0))), some (.int (nI a)), some (.int (nI b)), some (.int seen), some (.int (nI (8 - (k + 1)))), some (.int 1000000), some (.int 0), none, none]) X (xdec_at tX2_leastOfWays_0 13 rfl) (by decide) rfl ?_
        refine v_for 8 (fun j9 => (cX Z lay μ tb r)) (fun j9 => [some (.ref (lay (5, 0))), some (.int (nI a)), some (.int (nI b)), some (.int seen), some (.int (nI (8 - (k + 1)))), some (.int (K_wl (tb.1 0) a seen (fun n s => K_w (tb.1 0) b k n s) j9)), some (.int (nI j9)), none, none]) 24 [] (fun i1 hi1 ih1 => ?_) ?_
        · obtain ⟨q, hq⟩ : ∃ q, q = (K_wl (tb.1 0) a seen (fun n s => K_w (tb.1 0) b k n s) i1) := ⟨_, rfl⟩
          refine v_le (lv' := [some (.ref (lay (5, 0))), some (.int (nI a)), some (.int (nI b)), some (.int seen), some (.int (nI (8 - (k + 1)))), some (.int q), some (.int (nI i1)), none, none]) (by simp [xle, hq]) ?_
          refine v_iload X (xdec_at tX2_leastOfWays_0 14 rfl) rfl ?_
          refine v_bipush (v := 8) X (xdec_at tX2_leastOfWays_0 15 rfl) (by decide) ?_
          refine v_icmp_ge (tgt := 94) X (xdec_at tX2_leastOfWays_0 16 rfl) (by decide) (fun c_28 => ?_) (fun c_28 => ?_)
          · exact absurd c_28 (nI_ge (b := 8) hi1 (by decide))
          · refine v_aload_n X (xdec_at tX2_leastOfWays_0 17 rfl) rfl rfl ?_
            refine v_iload_n X (xdec_at tX2_leastOfWays_0 18 rfl) rfl rfl ?_
            refine v_iload X (xdec_at tX2_leastOfWays_0 19 rfl) rfl ?_
            refine v_callS X myX2_cell [.int (nI a), .int (nI i1)] [.ref (lay (5, 0))] (kyX2_cell l Z B0 lay (cX Z lay μ tb r) (nI a) (nI i1)) (xw_at tW_1 20 rfl) rfl rfl (by rfl) (Nat.le_of_ble_eq_true rfl) (xdec_at tX2_leastOfWays_0 20 rfl) ⟨by show 0 + 1 ≤ k + 1 + 2; omega, by show 8 + (2 + 11) + 0 ≤ 60 * (k + 1) + 60; omega⟩ ⟨(Nat.le_of_ble_eq_true rfl), (Nat.le_of_ble_eq_true rfl)⟩ ?_
            rintro v9 lay9 C9 ⟨rfl, rfl, rfl⟩
            rw [cell_nI a i1]
            refine x_iald (v := (tb.1 0 (8 * a + i1))) X (5, 0) (cX_t0 (tb := tb)) (vp_in_nI (by omega) (by decide)) rfl (congrArg (tb.1 0) (ix_nI (by omega))) (xdec_at tX2_leastOfWays_0 21 rfl) ?_
            refine v_istore (lv' := [some (.ref (lay (5, 0))), some (.int (nI a)), some (.int (nI b)), some (.int seen), some (.int (nI (8 - (k + 1)))), some (.int q), some (.int (nI i1)), some (.int (tb.1 0 (8 * a + i1))), none]) X (xdec_at tX2_leastOfWays_0 22 rfl) (by decide) rfl ?_
            refine v_iload X (xdec_at tX2_leastOfWays_0 23 rfl) rfl ?_
            refine v_ldc (v := 1000000) X (xw_at tW_1 13 rfl) (xdec_at tX2_leastOfWays_0 24 rfl) ?_
            refine v_icmp_ge (tgt := 88) X (xdec_at tX2_leastOfWays_0 25 rfl) (by decide) (fun c_45 => ?_) (fun c_45 => ?_)
            · refine v_iinc (v := (nI (i1 + 1))) (lv' := [some (.ref (lay (5, 0))), some (.int (nI a)), some (.int (nI b)), some (.int seen), some (.int (nI (8 - (k + 1)))), some (.int q), some (.int (nI (i1 + 1))), some (.int (tb.1 0 (8 * a + i1))), none]) X (xdec_at tX2_leastOfWays_1 11 rfl) rfl (nI_1 _) (by decide) rfl ?_
              refine v_goto (tgt := 24) X (xdec_at tX2_leastOfWays_1 12 rfl) (by decide) ?_
              refine v_le (lv' := [some (.ref (lay (5, 0))), some (.int (nI a)), some (.int (nI b)), some (.int seen), some (.int (nI (8 - (k + 1)))), some (.int (K_wl (tb.1 0) a seen (fun n s => K_w (tb.1 0) b k n s) (i1 + 1))), some (.int (nI (i1 + 1))), none, none]) (by simp [xle, K_wl, ← hq, c_45]) ?_
              exact v_c (C' := (cX Z lay μ tb r)) (by rfl) ih1
            · refine v_iload_n X (xdec_at tX2_leastOfWays_0 26 rfl) rfl rfl ?_
              refine v_iconst (v := 1) X (xdec_at tX2_leastOfWays_0 27 rfl) (by decide) ?_
              refine v_iload X (xdec_at tX2_leastOfWays_0 28 rfl) rfl ?_
              refine v_ishl X (xdec_at tX2_leastOfWays_0 29 rfl) ?_
              refine v_iand X (xdec_at tX2_leastOfWays_0 30 rfl) ?_
              refine v_if_ne (tgt := 88) X (xdec_at tX2_leastOfWays_0 31 rfl) (by decide) (fun c_54 => ?_) (fun c_54 => ?_)
              · refine v_iinc (v := (nI (i1 + 1))) (lv' := [some (.ref (lay (5, 0))), some (.int (nI a)), some (.int (nI b)), some (.int seen), some (.int (nI (8 - (k + 1)))), some (.int q), some (.int (nI (i1 + 1))), some (.int (tb.1 0 (8 * a + i1))), none]) X (xdec_at tX2_leastOfWays_1 11 rfl) rfl (nI_1 _) (by decide) rfl ?_
                refine v_goto (tgt := 24) X (xdec_at tX2_leastOfWays_1 12 rfl) (by decide) ?_
                refine v_le (lv' := [some (.ref (lay (5, 0))), some (.int (nI a)), some (.int (nI b)), some (.int seen), some (.int (nI (8 - (k + 1)))), some (.int (K_wl (tb.1 0) a seen (fun n s => K_w (tb.1 0) b k n s) (i1 + 1))), some (.int (nI (i1 + 1))), none, none]) (by simp [xle, K_wl, ← hq, c_45, c_54]) ?_
                exact v_c (C' := (cX Z lay μ tb r)) (by rfl) ih1
              · refine v_aload_n X (xdec_at tX2_leastOfWays_0 32 rfl) rfl rfl ?_
                refine v_iload X (xdec_at tX2_leastOfWays_0 33 rfl) rfl ?_
                refine v_iload_n X (xdec_at tX2_leastOfWays_0 34 rfl) rfl rfl ?_
                refine v_iload_n X (xdec_at tX2_leastOfWays_0 35 rfl) rfl rfl ?_
                refine v_iconst (v := 1) X (xdec_at tX2_leastOfWays_0 36 rfl) (by decide) ?_
                refine v_iload X (xdec_at tX2_leastOfWays_0 37 rfl) rfl ?_
                refine v_ishl X (xdec_at tX2_leastOfWays_0 38 rfl) ?_
                refine v_ior X (xdec_at tX2_leastOfWays_0 39 rfl) ?_
                refine v_iload X (xdec_at tX2_leastOfWays_1 0 rfl) rfl ?_
                refine v_iconst (v := 1) X (xdec_at tX2_leastOfWays_1 1 rfl) (by decide) ?_
                refine v_iadd X (xdec_at tX2_leastOfWays_1 2 rfl) ?_
                refine v_st (st' := [.int (nI (8 - k)), .int (seen ||| (1 <<< ((nI i1) &&& 31))), .int (nI b), .int (nI i1), .ref (lay (5, 0))]) (by rw [nI_1, show 8 - (k + 1) + 1 = 8 - k by omega]) ?_
                refine v_callS X myX2_leastOfWays [.ref (lay (5, 0)), .int (nI i1), .int (nI b), .int (seen ||| (1 <<< ((nI i1) &&& 31))), .int (nI (8 - k))] [] (ih (by omega) i1 hi1 (seen ||| (1 <<< ((nI i1) &&& 31)))) (xw_at tW_9 25 rfl) rfl rfl (by rfl) (Nat.le_of_ble_eq_true rfl) (xdec_at tX2_leastOfWays_1 3 rfl) ⟨by show k + 2 + 1 ≤ k + 1 + 2; omega, by show 8 + (9 + 11) + (60 * k + 60) ≤ 60 * (k + 1) + 60; omega⟩ ⟨(Nat.le_of_ble_eq_true rfl), (Nat.le_of_ble_eq_true rfl)⟩ ?_
                rintro v9 lay9 C9 ⟨rfl, rfl, rfl⟩
                refine v_istore (lv' := [some (.ref (lay (5, 0))), some (.int (nI a)), some (.int (nI b)), some (.int seen), some (.int (nI (8 - (k + 1)))), some (.int q), some (.int (nI i1)), some (.int (tb.1 0 (8 * a + i1))), some (.int (K_w (tb.1 0) b k i1 (seen ||| (1 <<< ((nI i1) &&& 31)))))]) X (xdec_at tX2_leastOfWays_1 4 rfl) (by decide) rfl ?_
                refine v_iload X (xdec_at tX2_leastOfWays_1 5 rfl) rfl ?_
                refine v_iload X (xdec_at tX2_leastOfWays_1 6 rfl) rfl ?_
                refine v_iload X (xdec_at tX2_leastOfWays_1 7 rfl) rfl ?_
                refine v_iadd X (xdec_at tX2_leastOfWays_1 8 rfl) ?_
                refine v_min X (xw_at tW_1 23 rfl) ⟨by show 1 ≤ k + 1 + 2; omega, by show 0 + 13 ≤ 60 * (k + 1) + 60; omega⟩ ⟨(Nat.le_of_ble_eq_true rfl), (Nat.le_of_ble_eq_true rfl)⟩ (xdec_at tX2_leastOfWays_1 9 rfl) ?_
                refine v_istore (lv' := [some (.ref (lay (5, 0))), some (.int (nI a)), some (.int (nI b)), some (.int seen), some (.int (nI (8 - (k + 1)))), some (.int (K_min q ((tb.1 0 (8 * a + i1)) + (K_w (tb.1 0) b k i1 (seen ||| (1 <<< ((nI i1) &&& 31))))))), some (.int (nI i1)), some (.int (tb.1 0 (8 * a + i1))), some (.int (K_w (tb.1 0) b k i1 (seen ||| (1 <<< ((nI i1) &&& 31)))))]) X (xdec_at tX2_leastOfWays_1 10 rfl) (by decide) rfl ?_
                refine v_iinc (v := (nI (i1 + 1))) (lv' := [some (.ref (lay (5, 0))), some (.int (nI a)), some (.int (nI b)), some (.int seen), some (.int (nI (8 - (k + 1)))), some (.int (K_min q ((tb.1 0 (8 * a + i1)) + (K_w (tb.1 0) b k i1 (seen ||| (1 <<< ((nI i1) &&& 31))))))), some (.int (nI (i1 + 1))), some (.int (tb.1 0 (8 * a + i1))), some (.int (K_w (tb.1 0) b k i1 (seen ||| (1 <<< ((nI i1) &&& 31)))))]) X (xdec_at tX2_leastOfWays_1 11 rfl) rfl (nI_1 _) (by decide) rfl ?_
                refine v_goto (tgt := 24) X (xdec_at tX2_leastOfWays_1 12 rfl) (by decide) ?_
                refine v_le (lv' := [some (.ref (lay (5, 0))), some (.int (nI a)), some (.int (nI b)), some (.int seen), some (.int (nI (8 - (k + 1)))), some (.int (K_wl (tb.1 0) a seen (fun n s => K_w (tb.1 0) b k n s) (i1 + 1))), some (.int (nI (i1 + 1))), none, none]) (by simp [xle, K_wl, ← hq, c_45, (eq_true c_54)]) ?_
                exact v_c (C' := (cX Z lay μ tb r)) (by rfl) ih1
        · obtain ⟨q, hq⟩ : ∃ q, q = (K_wl (tb.1 0) a seen (fun n s => K_w (tb.1 0) b k n s) 8) := ⟨_, rfl⟩
          refine v_le (lv' := [some (.ref (lay (5, 0))), some (.int (nI a)), some (.int (nI b)), some (.int seen), some (.int (nI (8 - (k + 1)))), some (.int q), some (.int (nI 8)), none, none]) (by simp [xle, hq]) ?_
          refine v_iload X (xdec_at tX2_leastOfWays_0 14 rfl) rfl ?_
          refine v_bipush (v := 8) X (xdec_at tX2_leastOfWays_0 15 rfl) (by decide) ?_
          refine v_icmp_ge (tgt := 94) X (xdec_at tX2_leastOfWays_0 16 rfl) (by decide) (fun c_28 => ?_) (fun c_28 => ?_)
          · refine v_iload X (xdec_at tX2_leastOfWays_1 13 rfl) rfl ?_
            have e9 : K_w (tb.1 0) b (k + 1) a seen = q := by rw [K_w, if_neg hab, hq]
            exact v_iret X hr (xdec_at tX2_leastOfWays_1 14 rfl) (Nat.le_of_ble_eq_true rfl) (Nat.le_of_ble_eq_true rfl) ⟨rfl, by rw [e9], rfl⟩
          · exact absurd (show (8 : Int32) ≤ nI 8 by decide) c_28
      · exact absurd (show nI (8 - (k + 1)) < 8 by rw [n8]; exact (nI_ltI (by omega) (by omega)).mpr (by omega)) c_15
    · have hab : a = b := nI_inj (by omega) (by omega) (c_2)
      refine v_iconst (v := 0) X (xdec_at tX2_leastOfWays_0 3 rfl) (by decide) ?_
      have e9 : K_w (tb.1 0) b (k + 1) a seen = 0 := by simp [K_w, (eq_true hab)]
      exact v_iret X hr (xdec_at tX2_leastOfWays_0 4 rfl) (Nat.le_of_ble_eq_true rfl) (Nat.le_of_ble_eq_true rfl) ⟨rfl, by rw [e9], rfl⟩
set_option maxRecDepth 100000 in
set_option maxHeartbeats 4000000 in
theorem kyX2_leastDaysOfAllWays (l : Launch) (Z : xZ) (B0 : Nat) (lay : xK → Nat) (μ : Mu) (tb : Tb) (r : xK → Option xE) (i j : Nat) (hi : i < nP μ) (hj : j < nP μ) (hi8 : i < 8) (hj8 : j < 8) : YM l yX2_leastDaysOfAllWays cX2_leastDaysOfAllWays 3 ((some FieldType.int)) 11 568 0 0 Z B0 [.ref (lay (3, 0)), .ref (lay (10, i)), .ref (lay (10, j))] lay (cX Z lay μ tb r) (fun v lay' C' => lay = lay' ∧ v = some (.int (K_far (K_w (tb.1 0) j 8 i (1 <<< (nI i &&& 31))))) ∧ C' = cX Z lay μ tb r) := by
  refine YM_of myX2_leastDaysOfAllWays.2.2 RX2 rfl [some (.ref (lay (3, 0))), some (.ref (lay (10, i))), some (.ref (lay (10, j)))] rfl (Nat.le_of_ble_eq_true rfl) ?_
  intro P1 P2 P3 P4 P5 P6 P7 P8 X hr hnm
  refine v_aload_n X (xdec_at tX2_leastDaysOfAllWays_0 0 rfl) rfl rfl ?_
  refine x_get (v := .ref (lay (5, 0))) X hinX2 (3, 0) cX_R rfl 1 (by decide) (xw_at tW_2 3 rfl) rfl rfl rfl (xdec_at tX2_leastDaysOfAllWays_0 1 rfl) ?_
  refine v_aload_n X (xdec_at tX2_leastDaysOfAllWays_0 2 rfl) rfl rfl ?_
  refine x_get (v := .int (nI i)) X hinX1 (10, i) (cX_P (μ := μ) hi) rfl 0 (by decide) (xw_at tW_7 4 rfl) rfl rfl rfl (xdec_at tX2_leastDaysOfAllWays_0 3 rfl) ?_
  refine v_aload_n X (xdec_at tX2_leastDaysOfAllWays_0 4 rfl) rfl rfl ?_
  refine x_get (v := .int (nI j)) X hinX1 (10, j) (cX_P (μ := μ) hj) rfl 0 (by decide) (xw_at tW_7 4 rfl) rfl rfl rfl (xdec_at tX2_leastDaysOfAllWays_0 5 rfl) ?_
  refine v_iconst (v := 1) X (xdec_at tX2_leastDaysOfAllWays_0 6 rfl) (by decide) ?_
  refine v_aload_n X (xdec_at tX2_leastDaysOfAllWays_0 7 rfl) rfl rfl ?_
  refine x_get (v := .int (nI i)) X hinX1 (10, i) (cX_P (μ := μ) hi) rfl 0 (by decide) (xw_at tW_7 4 rfl) rfl rfl rfl (xdec_at tX2_leastDaysOfAllWays_0 8 rfl) ?_
  refine v_ishl X (xdec_at tX2_leastDaysOfAllWays_0 9 rfl) ?_
  refine v_iconst (v := 0) X (xdec_at tX2_leastDaysOfAllWays_0 10 rfl) (by decide) ?_
  refine v_st (st' := [.int (nI (8 - 8)), .int (1 <<< ((nI i) &&& 31)), .int (nI j), .int (nI i), .ref (lay (5, 0))]) (by rfl) ?_
  refine v_callS X myX2_leastOfWays [.ref (lay (5, 0)), .int (nI i), .int (nI j), .int (1 <<< ((nI i) &&& 31)), .int (nI (8 - 8))] [] (kyX2_leastOfWays l Z B0 lay μ tb r j hj8 8 (by decide) i hi8 (1 <<< ((nI i) &&& 31))) (xw_at tW_9 25 rfl) rfl rfl (by rfl) (Nat.le_of_ble_eq_true rfl) (xdec_at tX2_leastDaysOfAllWays_0 11 rfl) ⟨(Nat.le_of_ble_eq_true rfl), (Nat.le_of_ble_eq_true rfl)⟩ ⟨(Nat.le_of_ble_eq_true rfl), (Nat.le_of_ble_eq_true rfl)⟩ ?_
  rintro v9 lay9 C9 ⟨rfl, rfl, rfl⟩
  refine v_callS X myX2_noneIfFar [.int (K_w (tb.1 0) j 8 i (1 <<< ((nI i) &&& 31)))] [] (kyX2_noneIfFar l Z B0 lay (cX Z lay μ tb r) (K_w (tb.1 0) j 8 i (1 <<< ((nI i) &&& 31)))) (xw_at tW_4 22 rfl) rfl rfl (by rfl) (Nat.le_of_ble_eq_true rfl) (xdec_at tX2_leastDaysOfAllWays_0 12 rfl) ⟨(Nat.le_of_ble_eq_true rfl), (Nat.le_of_ble_eq_true rfl)⟩ ⟨(Nat.le_of_ble_eq_true rfl), (Nat.le_of_ble_eq_true rfl)⟩ ?_
  rintro v9 lay9 C9 ⟨rfl, rfl, rfl⟩
  exact v_iret X hr (xdec_at tX2_leastDaysOfAllWays_0 13 rfl) (Nat.le_of_ble_eq_true rfl) (Nat.le_of_ble_eq_true rfl) ⟨rfl, rfl, rfl⟩
set_option maxRecDepth 100000 in
set_option maxHeartbeats 4000000 in
theorem kyX4_days (l : Launch) (hl0 : l.stackTraces = false) (Z : xZ) (B0 : Nat) (lay : xK → Nat) (μ : Mu) (tb : Tb) (r : xK → Option xE)  (hI : RI μ) (a b : Int32) (hTS : TS μ tb.1) : YX l yX4_days cX4_days 3 ((some FieldType.int)) 7 111 2 12 Z B0 [.ref (lay (0, 0)), .int a, .int b] lay (cX Z lay μ tb r) (fun v lay' C' => lay = lay' ∧ v = some (.int (M_told μ a b).1) ∧ (M_told μ a b).2.1 38 0 = 0 ∧ C' = cX Z lay (M_told μ a b).2 tb r) (fun E => (E = eO ∧ (M_told μ a b).2.1 38 0 = 1)) := by
  refine YX_of myX4_days.2.2 RX4 rfl [some (.ref (lay (0, 0))), some (.int a), some (.int b)] rfl (Nat.le_of_ble_eq_true rfl) ?_
  intro P1 P2 P3 P4 P5 P6 P7 P8 X hr hE
  refine v_aload_n X (xdec_at tX4_days_0 0 rfl) rfl rfl ?_
  refine x_get (v := .ref (lay (3, 0))) X hinX4 (0, 0) cX_X rfl 2 (by decide) (xw_at tW_2 15 rfl) rfl rfl rfl (xdec_at tX4_days_0 1 rfl) ?_
  refine v_aload_n X (xdec_at tX4_days_0 2 rfl) rfl rfl ?_
  refine v_iload_n X (xdec_at tX4_days_0 3 rfl) rfl rfl ?_
  refine v_xV X hE myX4_postOf [.int a] [.ref (lay (3, 0))] (kyX4_postOf l hl0 Z B0 lay μ tb r hI a) (xw_at tW_2 39 rfl) (0, 0) cX_X rfl rfl rfl rfl (by rfl) (Nat.le_of_ble_eq_true rfl) (xdec_at tX4_days_0 4 rfl) ⟨(Nat.le_of_ble_eq_true rfl), (Nat.le_of_ble_eq_true rfl)⟩ ⟨(Nat.le_of_ble_eq_true rfl), (Nat.le_of_ble_eq_true rfl)⟩ ⟨(Nat.le_of_ble_eq_true rfl), (Nat.le_of_ble_eq_true rfl)⟩ (fun E h9 => (⟨h9.1, by simp [M_told, up2_at, h9.2]⟩)) ?_
  rintro v9 lay9 C9 ⟨rfl, rfl, rfl, q_6⟩
  refine v_aload_n X (xdec_at tX4_days_0 5 rfl) rfl rfl ?_
  refine v_iload_n X (xdec_at tX4_days_0 6 rfl) rfl rfl ?_
  refine v_xV X hE myX4_postOf [.int b] [.ref (lay (10, ix a)), .ref (lay (3, 0))] (kyX4_postOf l hl0 Z B0 lay μ tb r hI b) (xw_at tW_2 39 rfl) (0, 0) cX_X rfl rfl rfl rfl (by rfl) (Nat.le_of_ble_eq_true rfl) (xdec_at tX4_days_0 7 rfl) ⟨(Nat.le_of_ble_eq_true rfl), (Nat.le_of_ble_eq_true rfl)⟩ ⟨(Nat.le_of_ble_eq_true rfl), (Nat.le_of_ble_eq_true rfl)⟩ ⟨(Nat.le_of_ble_eq_true rfl), (Nat.le_of_ble_eq_true rfl)⟩ (fun E h9 => (⟨h9.1, by simp [M_told, (eq_true q_6), up2_at, h9.2]⟩)) ?_
  rintro v9 lay9 C9 ⟨rfl, rfl, rfl, q_11⟩
  refine v_callV X myX2_leastDays [.ref (lay (10, ix a)), .ref (lay (10, ix b))] [] (kyX2_leastDays l Z B0 lay μ tb r (ix a) (ix b) (isP_lt hI q_6).1 (isP_lt hI q_11).1 (in_ix (hI.P q_6)) (in_ix (hI.P q_11))) (xw_at tW_4 18 rfl) (3, 0) cX_R rfl rfl rfl rfl (by rfl) (Nat.le_of_ble_eq_true rfl) (xdec_at tX4_days_0 8 rfl) ⟨(Nat.le_of_ble_eq_true rfl), (Nat.le_of_ble_eq_true rfl)⟩ ⟨(Nat.le_of_ble_eq_true rfl), (Nat.le_of_ble_eq_true rfl)⟩ ?_
  rintro v9 lay9 C9 ⟨rfl, rfl, rfl⟩
  rw [(hTS a b q_6 q_11).1]
  exact v_x (v_iret X hr (xdec_at tX4_days_0 9 rfl) (Nat.le_of_ble_eq_true rfl) (Nat.le_of_ble_eq_true rfl) ⟨rfl, rfl, (told_m (Z := Z) (lay := lay) (tb := tb) (r := r) q_6 q_11).1, (told_m q_6 q_11).2⟩)
set_option maxRecDepth 100000 in
set_option maxHeartbeats 4000000 in
theorem kyX4_daysAnew (l : Launch) (hl0 : l.stackTraces = false) (Z : xZ) (B0 : Nat) (lay : xK → Nat) (μ : Mu) (tb : Tb) (r : xK → Option xE)  (hI : RI μ) (a b : Int32) (hTS : TS μ tb.1) : YX l yX4_daysAnew cX4_daysAnew 3 ((some FieldType.int)) 12 590 2 12 Z B0 [.ref (lay (0, 0)), .int a, .int b] lay (cX Z lay μ tb r) (fun v lay' C' => lay = lay' ∧ v = some (.int (M_told μ a b).1) ∧ (M_told μ a b).2.1 38 0 = 0 ∧ C' = cX Z lay (M_told μ a b).2 tb r) (fun E => (E = eO ∧ (M_told μ a b).2.1 38 0 = 1)) := by
  refine YX_of myX4_daysAnew.2.2 RX4 rfl [some (.ref (lay (0, 0))), some (.int a), some (.int b)] rfl (Nat.le_of_ble_eq_true rfl) ?_
  intro P1 P2 P3 P4 P5 P6 P7 P8 X hr hE
  refine v_aload_n X (xdec_at tX4_daysAnew_0 0 rfl) rfl rfl ?_
  refine x_get (v := .ref (lay (3, 0))) X hinX4 (0, 0) cX_X rfl 2 (by decide) (xw_at tW_2 15 rfl) rfl rfl rfl (xdec_at tX4_daysAnew_0 1 rfl) ?_
  refine v_aload_n X (xdec_at tX4_daysAnew_0 2 rfl) rfl rfl ?_
  refine v_iload_n X (xdec_at tX4_daysAnew_0 3 rfl) rfl rfl ?_
  refine v_xV X hE myX4_postOf [.int a] [.ref (lay (3, 0))] (kyX4_postOf l hl0 Z B0 lay μ tb r hI a) (xw_at tW_2 39 rfl) (0, 0) cX_X rfl rfl rfl rfl (by rfl) (Nat.le_of_ble_eq_true rfl) (xdec_at tX4_daysAnew_0 4 rfl) ⟨(Nat.le_of_ble_eq_true rfl), (Nat.le_of_ble_eq_true rfl)⟩ ⟨(Nat.le_of_ble_eq_true rfl), (Nat.le_of_ble_eq_true rfl)⟩ ⟨(Nat.le_of_ble_eq_true rfl), (Nat.le_of_ble_eq_true rfl)⟩ (fun E h9 => (⟨h9.1, by simp [M_told, up2_at, h9.2]⟩)) ?_
  rintro v9 lay9 C9 ⟨rfl, rfl, rfl, q_6⟩
  refine v_aload_n X (xdec_at tX4_daysAnew_0 5 rfl) rfl rfl ?_
  refine v_iload_n X (xdec_at tX4_daysAnew_0 6 rfl) rfl rfl ?_
  refine v_xV X hE myX4_postOf [.int b] [.ref (lay (10, ix a)), .ref (lay (3, 0))] (kyX4_postOf l hl0 Z B0 lay μ tb r hI b) (xw_at tW_2 39 rfl) (0, 0) cX_X rfl rfl rfl rfl (by rfl) (Nat.le_of_ble_eq_true rfl) (xdec_at tX4_daysAnew_0 7 rfl) ⟨(Nat.le_of_ble_eq_true rfl), (Nat.le_of_ble_eq_true rfl)⟩ ⟨(Nat.le_of_ble_eq_true rfl), (Nat.le_of_ble_eq_true rfl)⟩ ⟨(Nat.le_of_ble_eq_true rfl), (Nat.le_of_ble_eq_true rfl)⟩ (fun E h9 => (⟨h9.1, by simp [M_told, (eq_true q_6), up2_at, h9.2]⟩)) ?_
  rintro v9 lay9 C9 ⟨rfl, rfl, rfl, q_11⟩
  refine v_callV X myX2_leastDaysOfAllWays [.ref (lay (10, ix a)), .ref (lay (10, ix b))] [] (kyX2_leastDaysOfAllWays l Z B0 lay μ tb r (ix a) (ix b) (isP_lt hI q_6).1 (isP_lt hI q_11).1 (in_ix (hI.P q_6)) (in_ix (hI.P q_11))) (xw_at tW_9 21 rfl) (3, 0) cX_R rfl rfl rfl rfl (by rfl) (Nat.le_of_ble_eq_true rfl) (xdec_at tX4_daysAnew_0 8 rfl) ⟨(Nat.le_of_ble_eq_true rfl), (Nat.le_of_ble_eq_true rfl)⟩ ⟨(Nat.le_of_ble_eq_true rfl), (Nat.le_of_ble_eq_true rfl)⟩ ?_
  rintro v9 lay9 C9 ⟨rfl, rfl, rfl⟩
  rw [(hTS a b q_6 q_11).2.2]
  exact v_x (v_iret X hr (xdec_at tX4_daysAnew_0 9 rfl) (Nat.le_of_ble_eq_true rfl) (Nat.le_of_ble_eq_true rfl) ⟨rfl, rfl, (told_m (Z := Z) (lay := lay) (tb := tb) (r := r) q_6 q_11).1, (told_m q_6 q_11).2⟩)
set_option maxRecDepth 100000 in
set_option maxHeartbeats 4000000 in
theorem kyX4_next (l : Launch) (hl0 : l.stackTraces = false) (Z : xZ) (B0 : Nat) (lay : xK → Nat) (μ : Mu) (tb : Tb) (r : xK → Option xE)  (hI : RI μ) (a b : Int32) (hTS : TS μ tb.1) : YX l yX4_next cX4_next 3 ((some FieldType.int)) 7 111 2 12 Z B0 [.ref (lay (0, 0)), .int a, .int b] lay (cX Z lay μ tb r) (fun v lay' C' => lay = lay' ∧ v = some (.int (M_next μ a b).1) ∧ (M_next μ a b).2.1 38 0 = 0 ∧ C' = cX Z lay (M_next μ a b).2 tb r) (fun E => (E = eO ∧ (M_next μ a b).2.1 38 0 = 1)) := by
  refine YX_of myX4_next.2.2 RX4 rfl [some (.ref (lay (0, 0))), some (.int a), some (.int b)] rfl (Nat.le_of_ble_eq_true rfl) ?_
  intro P1 P2 P3 P4 P5 P6 P7 P8 X hr hE
  refine v_aload_n X (xdec_at tX4_next_0 0 rfl) rfl rfl ?_
  refine x_get (v := .ref (lay (3, 0))) X hinX4 (0, 0) cX_X rfl 2 (by decide) (xw_at tW_2 15 rfl) rfl rfl rfl (xdec_at tX4_next_0 1 rfl) ?_
  refine v_aload_n X (xdec_at tX4_next_0 2 rfl) rfl rfl ?_
  refine v_iload_n X (xdec_at tX4_next_0 3 rfl) rfl rfl ?_
  refine v_xV X hE myX4_postOf [.int a] [.ref (lay (3, 0))] (kyX4_postOf l hl0 Z B0 lay μ tb r hI a) (xw_at tW_2 39 rfl) (0, 0) cX_X rfl rfl rfl rfl (by rfl) (Nat.le_of_ble_eq_true rfl) (xdec_at tX4_next_0 4 rfl) ⟨(Nat.le_of_ble_eq_true rfl), (Nat.le_of_ble_eq_true rfl)⟩ ⟨(Nat.le_of_ble_eq_true rfl), (Nat.le_of_ble_eq_true rfl)⟩ ⟨(Nat.le_of_ble_eq_true rfl), (Nat.le_of_ble_eq_true rfl)⟩ (fun E h9 => (⟨h9.1, by simp [M_next, up2_at, h9.2]⟩)) ?_
  rintro v9 lay9 C9 ⟨rfl, rfl, rfl, q_6⟩
  refine v_aload_n X (xdec_at tX4_next_0 5 rfl) rfl rfl ?_
  refine v_iload_n X (xdec_at tX4_next_0 6 rfl) rfl rfl ?_
  refine v_xV X hE myX4_postOf [.int b] [.ref (lay (10, ix a)), .ref (lay (3, 0))] (kyX4_postOf l hl0 Z B0 lay μ tb r hI b) (xw_at tW_2 39 rfl) (0, 0) cX_X rfl rfl rfl rfl (by rfl) (Nat.le_of_ble_eq_true rfl) (xdec_at tX4_next_0 7 rfl) ⟨(Nat.le_of_ble_eq_true rfl), (Nat.le_of_ble_eq_true rfl)⟩ ⟨(Nat.le_of_ble_eq_true rfl), (Nat.le_of_ble_eq_true rfl)⟩ ⟨(Nat.le_of_ble_eq_true rfl), (Nat.le_of_ble_eq_true rfl)⟩ (fun E h9 => (⟨h9.1, by simp [M_next, (eq_true q_6), up2_at, h9.2]⟩)) ?_
  rintro v9 lay9 C9 ⟨rfl, rfl, rfl, q_11⟩
  refine v_callV X myX2_onwardLeg [.ref (lay (10, ix a)), .ref (lay (10, ix b))] [] (kyX2_onwardLeg l Z B0 lay μ tb r (ix a) (ix b) (isP_lt hI q_6).1 (isP_lt hI q_11).1 (in_ix (hI.P q_6)) (in_ix (hI.P q_11))) (xw_at tW_4 29 rfl) (3, 0) cX_R rfl rfl rfl rfl (by rfl) (Nat.le_of_ble_eq_true rfl) (xdec_at tX4_next_0 8 rfl) ⟨(Nat.le_of_ble_eq_true rfl), (Nat.le_of_ble_eq_true rfl)⟩ ⟨(Nat.le_of_ble_eq_true rfl), (Nat.le_of_ble_eq_true rfl)⟩ ?_
  rintro v9 lay9 C9 ⟨rfl, rfl, rfl⟩
  rw [(hTS a b q_6 q_11).2.1]
  exact v_x (v_iret X hr (xdec_at tX4_next_0 9 rfl) (Nat.le_of_ble_eq_true rfl) (Nat.le_of_ble_eq_true rfl) ⟨rfl, by rw [next_1 q_6 q_11], (next_m (Z := Z) (lay := lay) (tb := tb) (r := r) q_6 q_11).1, (next_m q_6 q_11).2⟩)
set_option maxRecDepth 100000 in
set_option maxHeartbeats 4000000 in
theorem kyX2_setClosed (l : Launch) (Z : xZ) (B0 : Nat) (lay : xK → Nat) (μ : Mu) (tb : Tb) (r : xK → Option xE) (hI : RI μ) (hL : KL μ) (g : Nat) (hg : g < nG μ) (c : Int32) (hc : c = 0 ∨ c = 1) : YM l yX2_setClosed cX2_setClosed 4 ((some FieldType.boolean)) 4 105 0 0 Z B0 [.ref (lay (3, 0)), .ref (lay (20, g)), .int c] lay (cX Z lay μ tb r) (fun v lay' C' => lay = lay' ∧ v = some (.int (μ.1 14 g)) ∧ C' = cX Z lay (up2 μ.1 14 g c, μ.2) (if μ.1 14 g = c then tb.1 else K_reckon (up2 μ.1 14 g c, μ.2) tb.1, tb.2) r) := by
  refine YM_of myX2_setClosed.2.2 RX2 rfl [some (.ref (lay (3, 0))), some (.ref (lay (20, g))), some (.int c), none] rfl (Nat.le_of_ble_eq_true rfl) ?_
  intro P1 P2 P3 P4 P5 P6 P7 P8 X hr hnm
  refine v_aload_n X (xdec_at tX2_setClosed_0 0 rfl) rfl rfl ?_
  refine x_get (v := .int (μ.1 14 g)) X hinX0 (20, g) (cX_G (μ := μ) hg) rfl 3 (by decide) (xw_at tW_9 0 rfl) rfl rfl rfl (xdec_at tX2_setClosed_0 1 rfl) ?_
  refine v_istore_n (lv' := [some (.ref (lay (3, 0))), some (.ref (lay (20, g))), some (.int c), some (.int (μ.1 14 g))]) X (xdec_at tX2_setClosed_0 2 rfl) rfl (by decide) rfl ?_
  refine v_aload_n X (xdec_at tX2_setClosed_0 3 rfl) rfl rfl ?_
  refine v_iload_n X (xdec_at tX2_setClosed_0 4 rfl) rfl rfl ?_
  refine x_put (C' := (cX Z lay ((up2 μ.1 14 g c), μ.2) tb r)) X hinX0 tyX0 tyX0_ok nmX0 (20, g) (cX_G (μ := μ) hg) rfl 3 (by decide) (xw_at tW_9 0 rfl) rfl rfl (nb01 hc) (by rcases hc with h9 | h9 <;> rw [h9] <;> rfl) rfl (cw_G3 (μ := μ) (h := hg)) (xdec_at tX2_setClosed_0 5 rfl) ?_
  refine v_iload_n X (xdec_at tX2_setClosed_0 6 rfl) rfl rfl ?_
  refine v_iload_n X (xdec_at tX2_setClosed_0 7 rfl) rfl rfl ?_
  refine v_icmp_eq (tgt := 19) X (xdec_at tX2_setClosed_0 8 rfl) (by decide) (fun c_12 => ?_) (fun c_12 => ?_)
  · refine v_iload_n X (xdec_at tX2_setClosed_0 11 rfl) rfl rfl ?_
    exact v_zret X hr (xdec_at tX2_setClosed_0 12 rfl) (Nat.le_of_ble_eq_true rfl) (Nat.le_of_ble_eq_true rfl) (hI.B (by decide)) ⟨rfl, rfl, by rw [if_pos c_12]⟩
  · refine v_aload_n X (xdec_at tX2_setClosed_0 9 rfl) rfl rfl ?_
    refine v_callV X myX2_reckon [] [] (kyX2_reckon l Z B0 lay ((up2 μ.1 14 g c), μ.2) tb r (RI_up (A := μ.1) (J := μ.2) hI (okb (j := 14) (by simp) hc)) hL) (xw_at tW_1 7 rfl) (3, 0) cX_R rfl rfl rfl rfl (by rfl) (Nat.le_of_ble_eq_true rfl) (xdec_at tX2_setClosed_0 10 rfl) ⟨(Nat.le_of_ble_eq_true rfl), (Nat.le_of_ble_eq_true rfl)⟩ ⟨(Nat.le_of_ble_eq_true rfl), (Nat.le_of_ble_eq_true rfl)⟩ ?_
    rintro v9 lay9 C9 ⟨rfl, rfl, rfl⟩
    refine v_iload_n X (xdec_at tX2_setClosed_0 11 rfl) rfl rfl ?_
    exact v_zret X hr (xdec_at tX2_setClosed_0 12 rfl) (Nat.le_of_ble_eq_true rfl) (Nat.le_of_ble_eq_true rfl) (hI.B (by decide)) ⟨rfl, rfl, by rw [if_neg c_12]⟩
set_option maxRecDepth 100000 in
set_option maxHeartbeats 4000000 in
theorem kyX4_close (l : Launch) (hl0 : l.stackTraces = false) (Z : xZ) (B0 : Nat) (lay : xK → Nat) (μ : Mu) (tb : Tb) (r : xK → Option xE)  (hI : RI μ) (g c : Int32) (hL : KL μ) (hc : c = 0 ∨ c = 1) : YX l yX4_close cX4_close 4 ((some FieldType.boolean)) 6 128 1 6 Z B0 [.ref (lay (0, 0)), .int g, .int c] lay (cX Z lay μ tb r) (fun v lay' C' => lay = lay' ∧ v = some (.int (M_close μ g c).1) ∧ (M_close μ g c).2.1 38 0 = 0 ∧ C' = cX Z lay (M_close μ g c).2 (if μ.1 14 (ix g) = c then tb.1 else K_reckon (up2 μ.1 14 (ix g) c, μ.2) tb.1, tb.2) r) (fun E => (E = eO ∧ (M_close μ g c).2.1 38 0 = 1)) := by
  refine YX_of myX4_close.2.2 RX4 rfl [some (.ref (lay (0, 0))), some (.int g), some (.int c), none] rfl (Nat.le_of_ble_eq_true rfl) ?_
  intro P1 P2 P3 P4 P5 P6 P7 P8 X hr hE
  refine v_aload_n X (xdec_at tX4_close_0 0 rfl) rfl rfl ?_
  refine x_get (v := .ref (lay (3, 0))) X hinX4 (0, 0) cX_X rfl 2 (by decide) (xw_at tW_2 15 rfl) rfl rfl rfl (xdec_at tX4_close_0 1 rfl) ?_
  refine v_iload_n X (xdec_at tX4_close_0 2 rfl) rfl rfl ?_
  refine v_callV X myX2_legOf [.int g] [] (kyX2_legOf l Z B0 lay μ tb r hI g) (xw_at tW_9 9 rfl) (3, 0) cX_R rfl rfl rfl rfl (by rfl) (Nat.le_of_ble_eq_true rfl) (xdec_at tX4_close_0 3 rfl) ⟨(Nat.le_of_ble_eq_true rfl), (Nat.le_of_ble_eq_true rfl)⟩ ⟨(Nat.le_of_ble_eq_true rfl), (Nat.le_of_ble_eq_true rfl)⟩ ?_
  rintro v9 lay9 C9 ⟨rfl, ⟨hg, rfl⟩ | ⟨hg, rfl⟩, rfl⟩
  · have hgn := (in_leg hI hg.1 hg.2).1
    have hgm : inR g 0 (μ.1 10 0 - 1) := leg_in hI hg.1 hg.2
    refine v_astore_n (lv' := [some (.ref (lay (0, 0))), some (.int g), some (.int c), some (.ref (lay (20, ix g)))]) X (xdec_at tX4_close_0 4 rfl) rfl (by decide) rfl ?_
    refine v_aload_n X (xdec_at tX4_close_0 5 rfl) rfl rfl ?_
    refine v_ifnonnullR (tgt := 23) X (xdec_at tX4_close_0 6 rfl) (by decide) ?_
    refine v_aload_n X (xdec_at tX4_close_0 12 rfl) rfl rfl ?_
    refine x_get (v := .ref (lay (3, 0))) X hinX4 (0, 0) cX_X rfl 2 (by decide) (xw_at tW_2 15 rfl) rfl rfl rfl (xdec_at tX4_close_0 13 rfl) ?_
    refine v_aload_n X (xdec_at tX4_close_0 14 rfl) rfl rfl ?_
    refine v_iload_n X (xdec_at tX4_close_0 15 rfl) rfl rfl ?_
    refine v_callV X myX2_setClosed [.ref (lay (20, ix g)), .int c] [] (kyX2_setClosed l Z B0 lay μ tb r hI hL (ix g) hgn c hc) (xw_at tW_9 13 rfl) (3, 0) cX_R rfl rfl rfl rfl (by rfl) (Nat.le_of_ble_eq_true rfl) (xdec_at tX4_close_0 16 rfl) ⟨(Nat.le_of_ble_eq_true rfl), (Nat.le_of_ble_eq_true rfl)⟩ ⟨(Nat.le_of_ble_eq_true rfl), (Nat.le_of_ble_eq_true rfl)⟩ ?_
    rintro v9 lay9 C9 ⟨rfl, rfl, rfl⟩
    have e9 : M_close μ g c = (μ.1 14 (ix g), (up2 (up2 μ.1 38 0 0) 14 (ix g) c, μ.2)) := by rw [M_close, if_pos hgm]
    exact v_x (v_zret X hr (xdec_at tX4_close_0 17 rfl) (Nat.le_of_ble_eq_true rfl) (Nat.le_of_ble_eq_true rfl) (hI.B (by decide)) ⟨rfl, by rw [e9], by rw [e9]; rfl, by rw [e9]; exact cX_eq (μ := (up2 (up2 μ.1 38 0 0) 14 (ix g) c, μ.2)) (μ' := (up2 μ.1 14 (ix g) c, μ.2)) (fun j hj => up2_com (fun j hj => (th_com (μ := μ) (k := 0) j hj).symm) j hj) rfl⟩)
  · have hgm : ¬ inR g 0 (μ.1 10 0 - 1) := fun z => hg (leg_out hI z)
    refine v_astore_nN (lv' := [some (.ref (lay (0, 0))), some (.int g), some (.int c), some (.null)]) X (xdec_at tX4_close_0 4 rfl) rfl (by decide) rfl ?_
    refine v_aload_nN X (xdec_at tX4_close_0 5 rfl) rfl rfl ?_
    refine v_ifnonnullN X (xdec_at tX4_close_0 6 rfl) ?_
    exact v_throw X hE hl0 (text := "no such leg") xinO xkO xiO (List.mem_of_getElem? (i := 5) rfl) xfO (xdec_at tX4_close_0 7 rfl) (xdec_at tX4_close_0 8 rfl) (xdec_at tX4_close_0 9 rfl) (xdec_at tX4_close_0 10 rfl) (xdec_at tX4_close_0 11 rfl) ⟨(Nat.le_of_ble_eq_true rfl), (Nat.le_of_ble_eq_true rfl), (Nat.le_of_ble_eq_true rfl), (Nat.le_of_ble_eq_true rfl)⟩ ⟨(Nat.le_of_ble_eq_true rfl), (Nat.le_of_ble_eq_true rfl)⟩ ((⟨rfl, by simp [M_close, up2_at, hgm]⟩))
