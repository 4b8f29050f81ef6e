set_option maxRecDepth 100000 in
set_option maxHeartbeats 4000000 in
theorem kyX4_moveThoseThatTravel (l : Launch) (Z : xZ) (B0 : Nat) (lay : xK → Nat) (μ : Mu) (tb : Tb) (r : xK → Option xE) (M : Nat) (hG : GI μ tb M) (hM : M ≤ 3600) (hr2 : r (200, 0) = none) (ce sl : Nat) (hce : Pp (KT_g1 (nT μ) (nT μ) (0, μ) tb) ≤ ce + Pp tb ∧ 2 * Pp (KT_g1 (nT μ) (nT μ) (0, μ) tb) ≤ sl + 2 * Pp tb) : YM l yX4_moveThoseThatTravel cX4_moveThoseThatTravel 4 (some FieldType.int) 5 150 ce sl Z B0 [.ref (lay (0, 0))] lay (cX Z lay μ tb r) (fun v lay' C' => lyk lay lay' ∧ v = some (.int (M_g1 (nT μ) (nT μ) (0, μ)).1) ∧ C' = cX Z lay' (M_g1 (nT μ) (nT μ) (0, μ)).2 (KT_g1 (nT μ) (nT μ) (0, μ) tb) r) := by
  have hI := hG.1
  have h40 := nT40 hI
  obtain ⟨layo, hlo⟩ : ∃ z, z = lay := ⟨_, rfl⟩
  obtain ⟨T, hTT⟩ : ∃ z, z = nT μ := ⟨_, rfl⟩
  refine YM_of myX4_moveThoseThatTravel.2.2 RX4 rfl [some (.ref (lay (0, 0))), none, none, none] rfl (Nat.le_of_ble_eq_true rfl) ?_
  intro P1 P2 P3 P4 P5 P6 P7 P8 X hr hnm
  refine v_iconst (v := 0) X (xdec_at tX4_moveThoseThatTravel_0 0 rfl) (by decide) ?_
  refine v_istore_n (lv' := [some (.ref (lay (0, 0))), some (.int 0), none, none]) X (xdec_at tX4_moveThoseThatTravel_0 1 rfl) rfl (by decide) rfl ?_
  refine v_iconst (v := 0) X (xdec_at tX4_moveThoseThatTravel_0 2 rfl) (by decide) ?_
  refine v_istore_n (lv' := [some (.ref (lay (0, 0))), some (.int 0), some (.int 0), none]) X (xdec_at tX4_moveThoseThatTravel_0 3 rfl) rfl (by decide) rfl ?_
  refine v_room (cells' := Pp tb - Pp tb) (slots' := 2 * Pp tb - 2 * Pp tb) (by omega) (by omega) ?_
  refine v_lp T (fun z => lyk layo z) (fun j z => cX Z z (M_g1 (nT μ) j (0, μ)).2 (KT_g1 (nT μ) j (0, μ) tb) r) (fun j => Pp (KT_g1 (nT μ) j (0, μ) tb) - Pp tb) (fun j => 2 * Pp (KT_g1 (nT μ) j (0, μ) tb) - 2 * Pp tb) (fun j z => [some (.ref (z (0, 0))), some (.int (M_g1 (nT μ) j (0, μ)).1), some (.int (nI j)), none]) 4 [] (fun i1 hi1 lay hly ih1 => ?_) (fun lay hly => ?_) lay (by rw [hlo]; exact fun _ _ => rfl)
  · obtain ⟨d, ν, hq⟩ : ∃ d ν, (M_g1 (nT μ) i1 (0, μ)) = (d, ν) := ⟨_, _, rfl⟩
    obtain ⟨tc, htc⟩ : ∃ z, (KT_g1 (nT μ) i1 (0, μ) tb) = z := ⟨_, rfl⟩
    have hGi := GI_g1 (q := (0, μ)) hG hM (nT μ) i1 (by show i1 ≤ nT μ; omega)
    have hTn := g1_T (nT μ) (0, μ) i1
    have hPl := Pp_g1le (tn := nT μ) (q := (0, μ)) (tb := tb) (n := 0) (m := i1) (Nat.zero_le _) (by omega)
    have hPn := Pp_g1le (tn := nT μ) (q := (0, μ)) (tb := tb) (n := i1) (m := i1 + 1) (by omega) (by omega)
    have hPm := Pp_g1le (tn := nT μ) (q := (0, μ)) (tb := tb) (n := i1 + 1) (m := nT μ) (by omega) (by omega)
    have hnx := M_g1_S (nT μ) i1 (0, μ)
    have hnt := KT_g1_S (nT μ) i1 (0, μ) tb
    rw [hq] at hGi hTn hnx hnt
    rw [htc] at hGi hPl hPn hnt
    dsimp only at hGi hTn hnx hnt hPl
    change Pp tb ≤ _ at hPl
    obtain ⟨hI1, hK1, ⟨cl, hH1⟩, hS1, hB1⟩ := hGi
    have ht : i1 < nT ν := by rw [hTn]; omega
    have ht40 : i1 < 40 := by omega
    have e16 : ν.1 16 0 = nI T := by obtain ⟨T9, hT9, eT9⟩ := hI1.2.2.1; rw [eT9]; congr 1; rw [← nT_of hT9 eT9, hTn, hTT]
    refine v_c (C' := cX Z lay ν tc r) (by rw [hq, htc]) ?_
    refine v_le (lv' := [some (.ref (lay (0, 0))), some (.int d), some (.int (nI i1)), none]) (by rw [hq]; simp [xle]) ?_
    refine v_room (cells' := Pp tc - Pp tb) (slots' := 2 * Pp tc - 2 * Pp tb) (by rw [htc]) (by rw [htc]) ?_
    refine v_iload_n X (xdec_at tX4_moveThoseThatTravel_0 4 rfl) rfl rfl ?_
    refine v_aload_n X (xdec_at tX4_moveThoseThatTravel_0 5 rfl) rfl rfl ?_
    refine x_get (v := .int (ν.1 16 0)) X hinX4 (0, 0) cX_X rfl 4 (by decide) (xw_at tW_2 17 rfl) rfl rfl rfl (xdec_at tX4_moveThoseThatTravel_0 6 rfl) ?_
    refine v_icmp_ge (tgt := 72) X (xdec_at tX4_moveThoseThatTravel_0 7 rfl) (by decide) (fun c_9 => ?_) (fun c_9 => ?_)
    · exact absurd (show ν.1 16 0 ≤ nI i1 from c_9) (by rw [e16]; exact nI_ge hi1 (by omega))
    · refine v_aload_n X (xdec_at tX4_moveThoseThatTravel_0 8 rfl) rfl rfl ?_
      refine x_get (v := .ref (lay (2, 0))) X hinX4 (0, 0) cX_X rfl 1 (by decide) (xw_at tW_2 14 rfl) rfl rfl rfl (xdec_at tX4_moveThoseThatTravel_0 9 rfl) ?_
      refine v_iload_n X (xdec_at tX4_moveThoseThatTravel_0 10 rfl) rfl rfl ?_
      refine x_aald4 (v := .ref (lay (30, i1))) X (2, 0) cX_ts (vp_in_nI (n := i1) (N := 40) (by omega) (by decide)) rfl (aq_rf (f := fun i => lay (30, i)) (ix_nI (by omega)) ht) (xdec_at tX4_moveThoseThatTravel_0 11 rfl) ?_
      refine v_astore_n (lv' := [some (.ref (lay (0, 0))), some (.int d), some (.int (nI i1)), some (.ref (lay (30, i1)))]) X (xdec_at tX4_moveThoseThatTravel_0 12 rfl) rfl (by decide) rfl ?_
      refine v_aload_n X (xdec_at tX4_moveThoseThatTravel_0 13 rfl) rfl rfl ?_
      refine x_get (v := .int (ν.1 23 i1)) X hinX3 (30, i1) (cX_T (μ := ν) ht) rfl 8 (by decide) (xw_at tW_12 38 rfl) rfl rfl rfl (xdec_at tX4_moveThoseThatTravel_0 14 rfl) ?_
      refine v_iconst (v := 1) X (xdec_at tX4_moveThoseThatTravel_0 15 rfl) (by decide) ?_
      refine v_icmp_ne (tgt := 66) X (xdec_at tX4_moveThoseThatTravel_0 16 rfl) (by decide) (fun c_24 => ?_) (fun c_24 => ?_)
      · refine v_le (lv' := [some (.ref (lay (0, 0))), some (.int d), some (.int (nI i1)), none]) (by simp [xle]) ?_
        refine v_iinc (v := (nI (i1 + 1))) (lv' := [some (.ref (lay (0, 0))), some (.int d), some (.int (nI (i1 + 1))), none]) X (xdec_at tX4_moveThoseThatTravel_0 38 rfl) rfl (nI_1 _) (by decide) rfl ?_
        refine v_goto (tgt := 4) X (xdec_at tX4_moveThoseThatTravel_0 39 rfl) (by decide) ?_
        rw [if_neg c_24] at hnx hnt
        rw [Int32.add_zero] at hnx
        rw [hnt] at hPn hPm
        have ih9 := ih1 lay hly
        rw [hnx, hnt] at ih9
        exact v_room (by omega) (by omega) ih9
      · refine v_aload_n X (xdec_at tX4_moveThoseThatTravel_0 17 rfl) rfl rfl ?_
        have hPt : Pp tc ≤ Pp (KT_trav ν tc i1) := Pp_trav ht40
        have hPe : Pp (KT_g1 (nT μ) (i1 + 1) (0, μ) tb) = Pp (KT_trav ν tc i1) := by rw [hnt, if_pos c_24]
        have hlen := hH1.len ht
        obtain ⟨n, e35, hn1, hn2, hn3, hn4, hn5, hn6⟩ := hlen
        have hn7 : n ≤ 1800 := by rw [← hn6]; exact hB1.h hM ht
        refine v_callV X myX3_arrivesToday [] [] (kyX3_arrivesToday l Z B0 lay ν tc r hI1 i1 ht ht40 (hK1.at ht) n e35 hn1 (by omega) hn3 hn4 hr2 (hB1.S hI1 hM) (Pp (KT_trav ν tc i1) - Pp tc) (2 * (Pp (KT_trav ν tc i1) - Pp tc)) (fun h26 z1 z2 => ?_)) (xw_at tW_10 10 rfl) (30, i1) (cX_T (μ := ν) ht) rfl rfl rfl rfl (by rfl) (Nat.le_of_ble_eq_true rfl) (xdec_at tX4_moveThoseThatTravel_0 18 rfl) ⟨(Nat.le_of_ble_eq_true rfl), (Nat.le_of_ble_eq_true rfl)⟩ ⟨by show Pp tc - Pp tb + (Pp (KT_trav ν tc i1) - Pp tc) ≤ ce; omega, by show 2 * Pp tc - 2 * Pp tb + 2 * (Pp (KT_trav ν tc i1) - Pp tc) ≤ sl; omega⟩ ?_
        · have z3 := hn4 z1
          rw [Pp_trav_lt h26 ht40 z1 (by omega)]; omega
        rintro v9 lay9 C9 ⟨hly9, ⟨rfl, h26, rfl⟩ | ⟨rfl, h26, rfl⟩⟩
        · rw [← ly30 hly9 i1, ← hly9 (0, 0) (by decide)]
          refine v_if_eq (tgt := 66) X (xdec_at tX4_moveThoseThatTravel_0 19 rfl) (by decide) (fun _ => ?_) (fun h9 => absurd h9 (by decide))
          refine v_le (lv' := [some (.ref (lay9 (0, 0))), some (.int d), some (.int (nI i1)), none]) (by simp [xle]) ?_
          refine v_iinc (v := (nI (i1 + 1))) (lv' := [some (.ref (lay9 (0, 0))), some (.int d), some (.int (nI (i1 + 1))), none]) X (xdec_at tX4_moveThoseThatTravel_0 38 rfl) rfl (nI_1 _) (by decide) rfl ?_
          refine v_goto (tgt := 4) X (xdec_at tX4_moveThoseThatTravel_0 39 rfl) (by decide) ?_
          rw [if_pos c_24, trav_0 h26] at hnx
          rw [if_pos c_24, KT_trav_0 h26] at hnt
          dsimp only at hnx
          rw [Int32.add_zero] at hnx
          rw [hnt] at hPn hPm
          have hPx : Pp (KT_trav ν tc i1) = Pp tc := by rw [KT_trav_0 h26]
          have ih9 := ih1 lay9 (lyk_trans hly hly9)
          rw [hnx, hnt] at ih9
          exact v_room (by omega) (by omega) ih9
        · rw [← ly30 hly9 i1, ← hly9 (0, 0) (by decide)]
          obtain ⟨ν2, hν2⟩ : ∃ z, z = M_signs (Ar ν i1) i1 (ν.1 24 i1) := ⟨_, rfl⟩
          obtain ⟨tc2, htc2⟩ : ∃ z, z = KT_sign ν tc i1 (ν.1 24 i1) := ⟨_, rfl⟩
          rw [← hν2, ← htc2]
          have k2 : ∀ j, j ≠ 26 ∧ j ≠ 23 ∧ j ≠ 25 → j ≠ 30 ∧ j ≠ 31 ∧ j ≠ 32 ∧ j ≠ 33 ∧ j ≠ 34 ∧ j ≠ 35 → ν2.1 j = ν.1 j := fun j z1 z2 => by rw [hν2, sg_ne _ _ _ z2, Ar_ne z1]
          have hI2 : RI ν2 := by rw [hν2]; exact RI_signs (Ar_RI hI1 i1) _ _
          have ht2 : i1 < nT ν2 := by unfold nT; rw [k2 16 (by decide) (by decide)]; exact ht
          have hP2 : nP ν2 = nP ν := by unfold nP; rw [k2 0 (by decide) (by decide)]
          have h18 : ix (ν2.1 18 i1) < nP ν2 := by rw [hP2, k2 18 (by decide) (by decide)]; exact hK1.or ht
          have h19 : ix (ν2.1 19 i1) < nP ν2 := by rw [hP2, k2 19 (by decide) (by decide)]; exact hK1.ta ht
          have h24 : ix (ν2.1 24 i1) < nP ν2 := by rw [hP2, k2 24 (by decide) (by decide)]; exact hK1.at ht
          have h23n : ¬ ν2.1 23 i1 = 2 := by rw [hν2, sg_ne _ _ _ (by decide)]; simp [up2]
          refine v_inj fun hinj => ?_
          refine v_if_eq (tgt := 66) X (xdec_at tX4_moveThoseThatTravel_0 19 rfl) (by decide) (fun h9 => absurd h9 (by decide)) (fun _ => ?_)
          refine v_aload_n X (xdec_at tX4_moveThoseThatTravel_0 20 rfl) rfl rfl ?_
          refine x_get (v := .ref (lay9 (10, ix (ν2.1 24 i1)))) X hinX3 (30, i1) (cX_T (μ := ν2) ht2) rfl 6 (by decide) (xw_at tW_12 34 rfl) rfl rfl rfl (xdec_at tX4_moveThoseThatTravel_0 21 rfl) ?_
          refine v_aload_n X (xdec_at tX4_moveThoseThatTravel_0 22 rfl) rfl rfl ?_
          refine x_get (v := .ref (lay9 (10, ix (ν2.1 19 i1)))) X hinX3 (30, i1) (cX_T (μ := ν2) ht2) rfl 5 (by decide) (xw_at tW_12 32 rfl) rfl rfl rfl (xdec_at tX4_moveThoseThatTravel_0 23 rfl) ?_
          refine v_acmpR_ne (tgt := 66) X (xdec_at tX4_moveThoseThatTravel_0 24 rfl) (by decide) (fun c_42 => ?_) (fun c_42 => ?_)
          · have h42 : ¬ ν2.1 24 i1 = ν2.1 19 i1 := fun z => c_42 (by rw [z])
            refine v_le (lv' := [some (.ref (lay9 (0, 0))), some (.int d), some (.int (nI i1)), none]) (by simp [xle]) ?_
            refine v_iinc (v := (nI (i1 + 1))) (lv' := [some (.ref (lay9 (0, 0))), some (.int d), some (.int (nI (i1 + 1))), none]) X (xdec_at tX4_moveThoseThatTravel_0 38 rfl) rfl (nI_1 _) (by decide) rfl ?_
            refine v_goto (tgt := 4) X (xdec_at tX4_moveThoseThatTravel_0 39 rfl) (by decide) ?_
            rw [if_pos c_24, KT_trav_2 h26, ← htc2] at hnt
            rw [if_pos c_24, trav_1 h26 hν2, if_neg h42] at hnx
            dsimp only at hnx
            rw [Int32.add_zero] at hnx
            rw [hnt] at hPn hPm
            have hPx : Pp (KT_trav ν tc i1) = Pp tc2 := by rw [KT_trav_2 h26, ← htc2]
            have ih9 := ih1 lay9 (lyk_trans hly hly9)
            rw [hnx, hnt] at ih9
            exact v_room (by omega) (by omega) ih9
          · have h42 : ν2.1 24 i1 = ν2.1 19 i1 := ix_inj (hI2.at ht40) (hI2.ta ht40) (by decide) (P_inj hinj h24 h19 (c_42))
            refine v_aload_n X (xdec_at tX4_moveThoseThatTravel_0 25 rfl) rfl rfl ?_
            refine v_aload_n X (xdec_at tX4_moveThoseThatTravel_0 26 rfl) rfl rfl ?_
            refine v_callV X myX4_endAtTarget [.ref (lay9 (30, i1))] [] (kyX4_endAtTarget l Z B0 lay9 ν2 tc2 r hI2 i1 ht2 ht40 h18 h19 h24) (xw_at tW_10 29 rfl) (0, 0) cX_X rfl rfl rfl rfl (by rfl) (Nat.le_of_ble_eq_true rfl) (xdec_at tX4_moveThoseThatTravel_0 27 rfl) ⟨(Nat.le_of_ble_eq_true rfl), (Nat.le_of_ble_eq_true rfl)⟩ ⟨by show _ + 0 ≤ ce; omega, by show _ + 0 ≤ sl; omega⟩ ?_
            rintro v9 layq C9 ⟨rfl, rfl, rfl⟩
            have ht3 : i1 < nT (M_comes ν2 i1).2 := by unfold nT; rw [kep_comes ν2 i1 (j := 16) rfl]; exact ht2
            refine v_iload_n X (xdec_at tX4_moveThoseThatTravel_0 28 rfl) rfl rfl ?_
            refine v_aload_n X (xdec_at tX4_moveThoseThatTravel_0 29 rfl) rfl rfl ?_
            refine x_get (v := .int ((M_comes ν2 i1).2.1 23 i1)) X hinX3 (30, i1) (cX_T (μ := (M_comes ν2 i1).2) ht3) rfl 8 (by decide) (xw_at tW_12 38 rfl) rfl rfl rfl (xdec_at tX4_moveThoseThatTravel_0 30 rfl) ?_
            refine v_iconst (v := 2) X (xdec_at tX4_moveThoseThatTravel_0 31 rfl) (by decide) ?_
            refine v_icmp_ne (tgt := 63) X (xdec_at tX4_moveThoseThatTravel_0 32 rfl) (by decide) (fun c_56 => ?_) (fun c_56 => ?_)
            · refine v_iconst (v := 0) X (xdec_at tX4_moveThoseThatTravel_0 35 rfl) (by decide) ?_
              refine v_iadd X (xdec_at tX4_moveThoseThatTravel_0 36 rfl) ?_
              refine v_istore_n (lv' := [some (.ref (lay9 (0, 0))), some (.int (d + 0)), some (.int (nI i1)), some (.ref (lay9 (30, i1)))]) X (xdec_at tX4_moveThoseThatTravel_0 37 rfl) rfl (by decide) rfl ?_
              refine v_le (lv' := [some (.ref (lay9 (0, 0))), some (.int (d + 0)), some (.int (nI i1)), none]) (by simp [xle]) ?_
              refine v_iinc (v := (nI (i1 + 1))) (lv' := [some (.ref (lay9 (0, 0))), some (.int (d + 0)), some (.int (nI (i1 + 1))), none]) X (xdec_at tX4_moveThoseThatTravel_0 38 rfl) rfl (nI_1 _) (by decide) rfl ?_
              refine v_goto (tgt := 4) X (xdec_at tX4_moveThoseThatTravel_0 39 rfl) (by decide) ?_
              rw [if_pos c_24, KT_trav_2 h26, ← htc2] at hnt
              rw [if_pos c_24, trav_1 h26 hν2, if_pos h42, comes_1 h23n, if_neg c_56] at hnx
              rw [hnt] at hPn hPm
              have hPx : Pp (KT_trav ν tc i1) = Pp tc2 := by rw [KT_trav_2 h26, ← htc2]
              have ih9 := ih1 lay9 (lyk_trans hly hly9)
              rw [hnx, hnt] at ih9
              exact v_room (by omega) (by omega) ih9
            · refine v_iconst (v := 1) X (xdec_at tX4_moveThoseThatTravel_0 33 rfl) (by decide) ?_
              refine v_goto (tgt := 64) X (xdec_at tX4_moveThoseThatTravel_0 34 rfl) (by decide) ?_
              refine v_iadd X (xdec_at tX4_moveThoseThatTravel_0 36 rfl) ?_
              refine v_istore_n (lv' := [some (.ref (lay9 (0, 0))), some (.int (d + 1)), some (.int (nI i1)), some (.ref (lay9 (30, i1)))]) X (xdec_at tX4_moveThoseThatTravel_0 37 rfl) rfl (by decide) rfl ?_
              refine v_le (lv' := [some (.ref (lay9 (0, 0))), some (.int (d + 1)), some (.int (nI i1)), none]) (by simp [xle]) ?_
              refine v_iinc (v := (nI (i1 + 1))) (lv' := [some (.ref (lay9 (0, 0))), some (.int (d + 1)), some (.int (nI (i1 + 1))), none]) X (xdec_at tX4_moveThoseThatTravel_0 38 rfl) rfl (nI_1 _) (by decide) rfl ?_
              refine v_goto (tgt := 4) X (xdec_at tX4_moveThoseThatTravel_0 39 rfl) (by decide) ?_
              rw [if_pos c_24, KT_trav_2 h26, ← htc2] at hnt
              rw [if_pos c_24, trav_1 h26 hν2, if_pos h42, comes_1 h23n, if_pos c_56] at hnx
              rw [hnt] at hPn hPm
              have hPx : Pp (KT_trav ν tc i1) = Pp tc2 := by rw [KT_trav_2 h26, ← htc2]
              have ih9 := ih1 lay9 (lyk_trans hly hly9)
              rw [hnx, hnt] at ih9
              exact v_room (by omega) (by omega) ih9
  · have hTn := g1_T (nT μ) (0, μ) T
    have hGi := GI_g1 (q := (0, μ)) hG hM (nT μ) T (by show T ≤ nT μ; omega)
    obtain ⟨d, ν, hq⟩ : ∃ d ν, (M_g1 (nT μ) T (0, μ)) = (d, ν) := ⟨_, _, rfl⟩
    obtain ⟨tc, htc⟩ : ∃ z, (KT_g1 (nT μ) T (0, μ) tb) = z := ⟨_, rfl⟩
    have hq9 := hq
    have htc9 := htc
    rw [hTT] at hq9 htc9 hTn hGi
    rw [hq9] at hTn hGi
    dsimp only at hTn hGi
    have e16 : ν.1 16 0 = nI T := by obtain ⟨T9, hT9, eT9⟩ := hGi.1.2.2.1; rw [eT9]; congr 1; rw [← nT_of hT9 eT9, hTn, hTT]
    refine v_c (C' := cX Z lay ν tc r) (by rw [hq, htc]) ?_
    refine v_le (lv' := [some (.ref (lay (0, 0))), some (.int d), some (.int (nI T)), none]) (by rw [hq]; simp [xle]) ?_
    refine v_room (cells' := Pp tc - Pp tb) (slots' := 2 * Pp tc - 2 * Pp tb) (by rw [htc]) (by rw [htc]) ?_
    refine v_iload_n X (xdec_at tX4_moveThoseThatTravel_0 4 rfl) rfl rfl ?_
    refine v_aload_n X (xdec_at tX4_moveThoseThatTravel_0 5 rfl) rfl rfl ?_
    refine x_get (v := .int (ν.1 16 0)) X hinX4 (0, 0) cX_X rfl 4 (by decide) (xw_at tW_2 17 rfl) rfl rfl rfl (xdec_at tX4_moveThoseThatTravel_0 6 rfl) ?_
    refine v_icmp_ge (tgt := 72) X (xdec_at tX4_moveThoseThatTravel_0 7 rfl) (by decide) (fun c_9 => ?_) (fun c_9 => ?_)
    · refine v_iload_n X (xdec_at tX4_moveThoseThatTravel_1 0 rfl) rfl rfl ?_
      exact v_iret X hr (xdec_at tX4_moveThoseThatTravel_1 1 rfl) (by show Pp tc - Pp tb ≤ ce; rw [htc9] at hce; omega) (by show 2 * Pp tc - 2 * Pp tb ≤ sl; rw [htc9] at hce; omega) ⟨hlo ▸ hly, by rw [hq9], by rw [hq9, htc9]⟩
    · exact absurd (show ν.1 16 0 ≤ nI T by rw [e16]; exact Int32.le_refl _) c_9
set_option maxRecDepth 100000 in
set_option maxHeartbeats 4000000 in
theorem kyX4_sendThoseThatWait (l : Launch) (Z : xZ) (B0 : Nat) (lay : xK → Nat) (μ : Mu) (tb : Tb) (r : xK → Option xE) (M : Nat) (hG : GI μ tb M) : YM l yX4_sendThoseThatWait cX4_sendThoseThatWait 3 ((none : Option FieldType)) 3 65 0 0 Z B0 [.ref (lay (0, 0))] lay (cX Z lay μ tb r) (fun v lay' C' => lay = lay' ∧ v = none ∧ C' = cX Z lay (M_g2 (nT μ) μ) tb r) := by
  refine YM_of myX4_sendThoseThatWait.2.2 RX4 rfl [some (.ref (lay (0, 0))), none, none] rfl (Nat.le_of_ble_eq_true rfl) ?_
  intro P1 P2 P3 P4 P5 P6 P7 P8 X hr hnm
  have hI := hG.1
  have h40 := nT40 hI
  obtain ⟨T, hTT⟩ : ∃ z, z = nT μ := ⟨_, rfl⟩
  refine v_iconst (v := 0) X (xdec_at tX4_sendThoseThatWait_0 0 rfl) (by decide) ?_
  refine v_istore_n (lv' := [some (.ref (lay (0, 0))), some (.int 0), none]) X (xdec_at tX4_sendThoseThatWait_0 1 rfl) rfl (by decide) rfl ?_
  refine v_for T (fun j => cX Z lay (M_g2 j μ) tb r) (fun j => [some (.ref (lay (0, 0))), some (.int (nI j)), none]) 2 [] (fun i1 hi1 ih1 => ?_) ?_
  · have hGi := GI_g2 hG i1 (by omega)
    have hTn := g2_T μ i1
    have hnx := M_g2_S i1 μ
    obtain ⟨ν, hq⟩ : ∃ z, (M_g2 i1 μ) = z := ⟨_, rfl⟩
    rw [hq] at hGi hTn hnx
    obtain ⟨hI1, hK1, -, hS1, -⟩ := hGi
    have e16 : ν.1 16 0 = nI T := by obtain ⟨T9, hT9, eT9⟩ := hI1.2.2.1; rw [eT9]; congr 1; rw [← nT_of hT9 eT9, hTn, hTT]
    refine v_c (C' := cX Z lay ν tb r) (by rw [hq]) ?_
    have ht : i1 < nT ν := by rw [hTn]; omega
    have ht40 : i1 < 40 := by omega
    have h18 := hK1.or ht
    have h19 := hK1.ta ht
    have h24 := hK1.at ht
    obtain ⟨kk, hgr⟩ := hK1.gr ht
    refine v_iload_n X (xdec_at tX4_sendThoseThatWait_0 2 rfl) rfl rfl ?_
    refine v_aload_n X (xdec_at tX4_sendThoseThatWait_0 3 rfl) rfl rfl ?_
    refine x_get (v := .int (ν.1 16 0)) X hinX4 (0, 0) cX_X rfl 4 (by decide) (xw_at tW_2 17 rfl) rfl rfl rfl (xdec_at tX4_sendThoseThatWait_0 4 rfl) ?_
    refine v_icmp_ge (tgt := 45) X (xdec_at tX4_sendThoseThatWait_0 5 rfl) (by decide) (fun c_7 => ?_) (fun c_7 => ?_)
    · exact absurd (show ν.1 16 0 ≤ nI i1 from c_7) (by rw [e16]; exact nI_ge hi1 (by omega))
    · refine v_aload_n X (xdec_at tX4_sendThoseThatWait_0 6 rfl) rfl rfl ?_
      refine x_get (v := .ref (lay (2, 0))) X hinX4 (0, 0) cX_X rfl 1 (by decide) (xw_at tW_2 14 rfl) rfl rfl rfl (xdec_at tX4_sendThoseThatWait_0 7 rfl) ?_
      refine v_iload_n X (xdec_at tX4_sendThoseThatWait_0 8 rfl) rfl rfl ?_
      refine x_aald4 (v := .ref (lay (30, i1))) X (2, 0) cX_ts (vp_in_nI (n := i1) (N := 40) (by omega) (by decide)) rfl (aq_rf (f := fun i => lay (30, i)) (ix_nI (by omega)) ht) (xdec_at tX4_sendThoseThatWait_0 9 rfl) ?_
      refine v_astore_n (lv' := [some (.ref (lay (0, 0))), some (.int (nI i1)), some (.ref (lay (30, i1)))]) X (xdec_at tX4_sendThoseThatWait_0 10 rfl) rfl (by decide) rfl ?_
      refine v_aload_n X (xdec_at tX4_sendThoseThatWait_0 11 rfl) rfl rfl ?_
      refine x_get (v := .int (ν.1 23 i1)) X hinX3 (30, i1) (cX_T (μ := ν) ht) rfl 8 (by decide) (xw_at tW_12 38 rfl) rfl rfl rfl (xdec_at tX4_sendThoseThatWait_0 12 rfl) ?_
      refine v_if_ne (tgt := 39) X (xdec_at tX4_sendThoseThatWait_0 13 rfl) (by decide) (fun c_21 => ?_) (fun c_21 => ?_)
      · refine v_le (lv' := [some (.ref (lay (0, 0))), some (.int (nI i1)), none]) (by simp [xle]) ?_
        refine v_iinc (v := (nI (i1 + 1))) (lv' := [some (.ref (lay (0, 0))), some (.int (nI (i1 + 1))), none]) X (xdec_at tX4_sendThoseThatWait_0 21 rfl) rfl (nI_1 _) (by decide) rfl ?_
        refine v_goto (tgt := 2) X (xdec_at tX4_sendThoseThatWait_0 22 rfl) (by decide) ?_
        rw [if_neg c_21] at hnx
        rw [hnx] at ih1
        exact ih1
      · refine v_aload_n X (xdec_at tX4_sendThoseThatWait_0 14 rfl) rfl rfl ?_
        refine x_get (v := .ref (lay (10, ix (ν.1 24 i1)))) X hinX3 (30, i1) (cX_T (μ := ν) ht) rfl 6 (by decide) (xw_at tW_12 34 rfl) rfl rfl rfl (xdec_at tX4_sendThoseThatWait_0 15 rfl) ?_
        refine x_get (v := .int (ν.1 6 (ix (ν.1 24 i1)))) X hinX1 (10, ix (ν.1 24 i1)) (cX_P (μ := ν) h24) rfl 7 (by decide) (xw_at tW_7 21 rfl) rfl rfl rfl (xdec_at tX4_sendThoseThatWait_0 16 rfl) ?_
        refine v_if_ne (tgt := 39) X (xdec_at tX4_sendThoseThatWait_0 17 rfl) (by decide) (fun c_31 => ?_) (fun c_31 => ?_)
        · refine v_le (lv' := [some (.ref (lay (0, 0))), some (.int (nI i1)), none]) (by simp [xle]) ?_
          refine v_iinc (v := (nI (i1 + 1))) (lv' := [some (.ref (lay (0, 0))), some (.int (nI (i1 + 1))), none]) X (xdec_at tX4_sendThoseThatWait_0 21 rfl) rfl (nI_1 _) (by decide) rfl ?_
          refine v_goto (tgt := 2) X (xdec_at tX4_sendThoseThatWait_0 22 rfl) (by decide) ?_
          rw [if_pos c_21, show M_leaves ν i1 = ν from if_pos c_31] at hnx
          rw [hnx] at ih1
          exact ih1
        · refine v_aload_n X (xdec_at tX4_sendThoseThatWait_0 18 rfl) rfl rfl ?_
          refine v_aload_n X (xdec_at tX4_sendThoseThatWait_0 19 rfl) rfl rfl ?_
          refine v_callV X myX4_sendOn [.ref (lay (30, i1))] [] (kyX4_sendOn l Z B0 lay ν tb r hI1 i1 ht ht40 h18 h19 h24 hK1.1 hS1 hgr c_31) (xw_at tW_11 1 rfl) (0, 0) cX_X rfl rfl rfl rfl (by rfl) (Nat.le_of_ble_eq_true rfl) (xdec_at tX4_sendThoseThatWait_0 20 rfl) ⟨(Nat.le_of_ble_eq_true rfl), (Nat.le_of_ble_eq_true rfl)⟩ ⟨(Nat.le_of_ble_eq_true rfl), (Nat.le_of_ble_eq_true rfl)⟩ ?_
          rintro v9 lay9 C9 ⟨rfl, rfl, rfl⟩
          refine v_le (lv' := [some (.ref (lay (0, 0))), some (.int (nI i1)), none]) (by simp [xle]) ?_
          refine v_iinc (v := (nI (i1 + 1))) (lv' := [some (.ref (lay (0, 0))), some (.int (nI (i1 + 1))), none]) X (xdec_at tX4_sendThoseThatWait_0 21 rfl) rfl (nI_1 _) (by decide) rfl ?_
          refine v_goto (tgt := 2) X (xdec_at tX4_sendThoseThatWait_0 22 rfl) (by decide) ?_
          rw [if_pos c_21] at hnx
          rw [hnx] at ih1
          exact ih1
  · have hGi := GI_g2 hG T (by omega)
    have hTn := g2_T μ T
    obtain ⟨ν, hq⟩ : ∃ z, (M_g2 T μ) = z := ⟨_, rfl⟩
    rw [hq] at hGi hTn
    obtain ⟨hI1, hK1, -, hS1, -⟩ := hGi
    have e16 : ν.1 16 0 = nI T := by obtain ⟨T9, hT9, eT9⟩ := hI1.2.2.1; rw [eT9]; congr 1; rw [← nT_of hT9 eT9, hTn, hTT]
    refine v_c (C' := cX Z lay ν tb r) (by rw [hq]) ?_
    refine v_iload_n X (xdec_at tX4_sendThoseThatWait_0 2 rfl) rfl rfl ?_
    refine v_aload_n X (xdec_at tX4_sendThoseThatWait_0 3 rfl) rfl rfl ?_
    refine x_get (v := .int (ν.1 16 0)) X hinX4 (0, 0) cX_X rfl 4 (by decide) (xw_at tW_2 17 rfl) rfl rfl rfl (xdec_at tX4_sendThoseThatWait_0 4 rfl) ?_
    refine v_icmp_ge (tgt := 45) X (xdec_at tX4_sendThoseThatWait_0 5 rfl) (by decide) (fun c_7 => ?_) (fun c_7 => ?_)
    · rw [hTT] at hq
      exact v_vret X hr (xdec_at tX4_sendThoseThatWait_0 23 rfl) (Nat.le_of_ble_eq_true rfl) (Nat.le_of_ble_eq_true rfl) ⟨rfl, rfl, by rw [hq]⟩
    · exact absurd (show ν.1 16 0 ≤ nI T by rw [e16]; exact Int32.le_refl _) c_7
theorem go_38 {μ : Mu} (hI : RI μ) {d : Int32} (h : inR d 1 200) : (M_go μ d).2.1 38 0 = 0 := by
  unfold M_go
  rw [if_pos h, kep_days (0, th μ 0) (j := 38) rfl (ix d)]
  rfl
set_option maxRecDepth 100000 in
set_option maxHeartbeats 4000000 in
theorem kyX4_go (l : Launch) (hl0 : l.stackTraces = false) (Z : xZ) (B0 : Nat) (lay : xK → Nat) (μ : Mu) (tb : Tb) (r : xK → Option xE) (M : Nat) (hG : GI μ tb M) (hG0 : GI (th μ 0) tb M) (hM : M ≤ 3600) (hr2 : r (200, 0) = none) (d : Int32) (ce sl : Nat) (hce1 : 1 ≤ ce ∧ 6 ≤ sl) (hce : inR d 1 200 → 1 + Pp (KT_days (ix d) (0, th μ 0) tb) ≤ ce + Pp tb ∧ 6 + 2 * Pp (KT_days (ix d) (0, th μ 0) tb) ≤ sl + 2 * Pp tb) : YX l yX4_go cX4_go 4 (some FieldType.int) 7 200 ce sl Z B0 [.ref (lay (0, 0)), .int d] lay (cX Z lay μ tb r) (fun v lay' C' => lyk lay lay' ∧ v = some (.int (M_go μ d).1) ∧ (M_go μ d).2.1 38 0 = 0 ∧ C' = cX Z lay' (M_go μ d).2 (KT_days (ix d) (0, th μ 0) tb) r) (fun E => E = eA ∧ (M_go μ d).2.1 38 0 = 1) := by
  have hI := hG.1
  obtain ⟨layo, hlo⟩ : ∃ z, z = lay := ⟨_, rfl⟩
  refine YX_of myX4_go.2.2 RX4 rfl [some (.ref (lay (0, 0))), some (.int d), none, none] rfl (Nat.le_of_ble_eq_true rfl) ?_
  intro P1 P2 P3 P4 P5 P6 P7 P8 X hr hE
  refine v_iload_n X (xdec_at tX4_go_0 0 rfl) rfl rfl ?_
  refine v_iconst (v := 1) X (xdec_at tX4_go_0 1 rfl) (by decide) ?_
  refine v_sipush (v := 200) X (xdec_at tX4_go_0 2 rfl) (by decide) ?_
  refine v_xS X hE myX4_demandWithin [.int d, .int 1, .int 200] [] (kyX4_demandWithin l hl0 Z B0 lay (cX Z lay μ tb r) d 1 200) (xw_at tW_5 5 rfl) rfl rfl (by rfl) (Nat.le_of_ble_eq_true rfl) (xdec_at tX4_go_0 3 rfl) ⟨(Nat.le_of_ble_eq_true rfl), (Nat.le_of_ble_eq_true rfl)⟩ ⟨by show 0 + 1 ≤ ce; omega, by show 0 + 6 ≤ sl; omega⟩ ⟨by omega, by omega⟩ (fun E h9 => ⟨h9.1, by simp [M_go, h9.2, up2_at]⟩) ?_
  rintro v9 lay9 C9 ⟨rfl, rfl, rfl, q_5⟩
  refine v_iconst (v := 0) X (xdec_at tX4_go_0 4 rfl) (by decide) ?_
  refine v_istore_n (lv' := [some (.ref (lay (0, 0))), some (.int d), some (.int 0), none]) X (xdec_at tX4_go_0 5 rfl) rfl (by decide) rfl ?_
  refine v_iconst (v := 0) X (xdec_at tX4_go_0 6 rfl) (by decide) ?_
  refine v_istore_n (lv' := [some (.ref (lay (0, 0))), some (.int d), some (.int 0), some (.int 0)]) X (xdec_at tX4_go_0 7 rfl) rfl (by decide) rfl ?_
  obtain ⟨n, hn, hn2, hn3⟩ : ∃ n : Nat, d = nI n ∧ n ≤ 200 ∧ ix d = n := by obtain ⟨a, b, c⟩ := inR_ix (M := 200) (by decide) q_5; exact ⟨ix d, a, c, rfl⟩
  have hce := hce q_5
  rw [hn3] at hce
  rw [show cX Z lay μ tb r = cX Z lay (th μ 0) tb r from (cX_th 0).symm]
  refine v_room (cells' := 1 + (Pp tb - Pp tb)) (slots' := 6 + (2 * Pp tb - 2 * Pp tb)) (by omega) (by omega) ?_
  refine v_lp n (fun z => lyk layo z) (fun j z => cX Z z (M_days j (0, th μ 0)).2 (KT_days j (0, th μ 0) tb) r) (fun j => 1 + (Pp (KT_days j (0, th μ 0) tb) - Pp tb)) (fun j => 6 + (2 * Pp (KT_days j (0, th μ 0) tb) - 2 * Pp tb)) (fun j z => [some (.ref (z (0, 0))), some (.int d), some (.int (M_days j (0, th μ 0)).1), some (.int (nI j))]) 12 [] (fun i1 hi1 lay hly ih1 => ?_) (fun lay hly => ?_) lay (by rw [hlo]; exact fun _ _ => rfl)
  · obtain ⟨q, ν, hq⟩ : ∃ q ν, (M_days i1 (0, th μ 0)) = (q, ν) := ⟨_, _, rfl⟩
    obtain ⟨tc, htc⟩ : ∃ z, (KT_days i1 (0, th μ 0) tb) = z := ⟨_, rfl⟩
    have hGi := GI_days (q := (0, th μ 0)) (tb := tb) hG0 hM i1
    have hPl := Pp_daysle (q := (0, th μ 0)) (tb := tb) hG0.1 (n := 0) (m := i1) (Nat.zero_le _)
    have hPn := Pp_daysle (q := (0, th μ 0)) (tb := tb) hG0.1 (n := i1) (m := i1 + 1) (by omega)
    have hPm := Pp_daysle (q := (0, th μ 0)) (tb := tb) hG0.1 (n := i1 + 1) (m := n) (by omega)
    have hnx : M_days (i1 + 1) (0, th μ 0) = M_day (M_days i1 (0, th μ 0)) := rfl
    have hnt : KT_days (i1 + 1) (0, th μ 0) tb = KT_day (M_days i1 (0, th μ 0)) (KT_days i1 (0, th μ 0) tb) := rfl
    rw [hq] at hGi hnx hnt
    rw [htc] at hGi hPl hPn hnt
    dsimp only at hGi
    change Pp tb ≤ _ at hPl
    have e1 : KT_day (q, ν) tc = KT_g1 (nT ν) (nT ν) (0, ν) tc := KT_g1_d _ _ _ _ _
    have e2 : M_day (q, ν) = (q + (M_g1 (nT ν) (nT ν) (0, ν)).1, M_g2 (nT (M_g1 (nT ν) (nT ν) (0, ν)).2) (M_g1 (nT ν) (nT ν) (0, ν)).2) := by rw [g1_T]; show ((M_g1 (nT ν) (nT ν) (q, ν)).1, M_g2 (nT ν) (M_g1 (nT ν) (nT ν) (q, ν)).2) = _; rw [M_g1_add]
    rw [e1] at hnt
    rw [e2] at hnx
    rw [hnt] at hPn hPm
    have hG2 := GI_g1 (q := (0, ν)) hGi hM (nT ν) (nT ν) (Nat.le_refl _)
    refine v_c (C' := cX Z lay ν tc r) (by rw [hq, htc]) ?_
    refine v_le (lv' := [some (.ref (lay (0, 0))), some (.int d), some (.int q), some (.int (nI i1))]) (by rw [hq]; simp [xle]) ?_
    refine v_room (cells' := 1 + (Pp tc - Pp tb)) (slots' := 6 + (2 * Pp tc - 2 * Pp tb)) (by rw [htc]) (by rw [htc]) ?_
    refine v_iload_n X (xdec_at tX4_go_0 8 rfl) rfl rfl ?_
    refine v_iload_n X (xdec_at tX4_go_0 9 rfl) rfl rfl ?_
    refine v_icmp_ge (tgt := 34) X (xdec_at tX4_go_0 10 rfl) (by decide) (fun c_14 => ?_) (fun c_14 => ?_)
    · exact absurd (show d ≤ nI i1 from c_14) (by rw [hn]; exact nI_ge hi1 (by omega))
    · refine v_iload_n X (xdec_at tX4_go_0 11 rfl) rfl rfl ?_
      refine v_aload_n X (xdec_at tX4_go_0 12 rfl) rfl rfl ?_
      refine v_callV X myX4_moveThoseThatTravel [] [.int q] (kyX4_moveThoseThatTravel l Z B0 lay ν tc r M hGi hM hr2 (Pp (KT_g1 (nT ν) (nT ν) (0, ν) tc) - Pp tc) (2 * (Pp (KT_g1 (nT ν) (nT ν) (0, ν) tc) - Pp tc)) ⟨by omega, by omega⟩) (xw_at tW_10 7 rfl) (0, 0) cX_X rfl rfl rfl rfl (by rfl) (Nat.le_of_ble_eq_true rfl) (xdec_at tX4_go_0 13 rfl) ⟨(Nat.le_of_ble_eq_true rfl), (Nat.le_of_ble_eq_true rfl)⟩ ⟨by show 1 + (Pp tc - Pp tb) + (Pp (KT_g1 (nT ν) (nT ν) (0, ν) tc) - Pp tc) ≤ ce; omega, by show 6 + (2 * Pp tc - 2 * Pp tb) + 2 * (Pp (KT_g1 (nT ν) (nT ν) (0, ν) tc) - Pp tc) ≤ sl; omega⟩ ?_
      rintro v9 lay9 C9 ⟨hly9, rfl, rfl⟩
      rw [← hly9 (0, 0) (by decide)]
      refine v_iadd X (xdec_at tX4_go_0 14 rfl) ?_
      refine v_istore_n (lv' := [some (.ref (lay9 (0, 0))), some (.int d), some (.int (q + (M_g1 (nT ν) (nT ν) (0, ν)).1)), some (.int (nI i1))]) X (xdec_at tX4_go_0 15 rfl) rfl (by decide) rfl ?_
      refine v_aload_n X (xdec_at tX4_go_0 16 rfl) rfl rfl ?_
      refine v_callV X myX4_sendThoseThatWait [] [] (kyX4_sendThoseThatWait l Z B0 lay9 (M_g1 (nT ν) (nT ν) (0, ν)).2 (KT_g1 (nT ν) (nT ν) (0, ν) tc) r M hG2) (xw_at tW_10 38 rfl) (0, 0) cX_X rfl rfl rfl rfl (by rfl) (Nat.le_of_ble_eq_true rfl) (xdec_at tX4_go_0 17 rfl) ⟨(Nat.le_of_ble_eq_true rfl), (Nat.le_of_ble_eq_true rfl)⟩ ⟨by show _ + 0 ≤ ce; omega, by show _ + 0 ≤ sl; omega⟩ ?_
      rintro v9 layq C9 ⟨rfl, rfl, rfl⟩
      refine v_iinc (v := (nI (i1 + 1))) (lv' := [some (.ref (lay9 (0, 0))), some (.int d), some (.int (q + (M_g1 (nT ν) (nT ν) (0, ν)).1)), some (.int (nI (i1 + 1)))]) X (xdec_at tX4_go_0 18 rfl) rfl (nI_1 _) (by decide) rfl ?_
      refine v_goto (tgt := 12) X (xdec_at tX4_go_0 19 rfl) (by decide) ?_
      have ih9 := ih1 lay9 (lyk_trans hly hly9)
      rw [hnx, hnt] at ih9
      exact v_room (by omega) (by omega) ih9
  · obtain ⟨q, ν, hq⟩ : ∃ q ν, (M_days n (0, th μ 0)) = (q, ν) := ⟨_, _, rfl⟩
    obtain ⟨tc, htc⟩ : ∃ z, (KT_days n (0, th μ 0) tb) = z := ⟨_, rfl⟩
    refine v_c (C' := cX Z lay ν tc r) (by rw [hq, htc]) ?_
    refine v_le (lv' := [some (.ref (lay (0, 0))), some (.int d), some (.int q), some (.int (nI n))]) (by rw [hq]; simp [xle]) ?_
    refine v_room (cells' := 1 + (Pp tc - Pp tb)) (slots' := 6 + (2 * Pp tc - 2 * Pp tb)) (by rw [htc]) (by rw [htc]) ?_
    refine v_iload_n X (xdec_at tX4_go_0 8 rfl) rfl rfl ?_
    refine v_iload_n X (xdec_at tX4_go_0 9 rfl) rfl rfl ?_
    refine v_icmp_ge (tgt := 34) X (xdec_at tX4_go_0 10 rfl) (by decide) (fun c_14 => ?_) (fun c_14 => ?_)
    · refine v_iload_n X (xdec_at tX4_go_0 20 rfl) rfl rfl ?_
      have e9 : M_go μ d = (q, ν) := by unfold M_go; rw [if_pos q_5, hn3, hq]
      exact v_x (v_iret X hr (xdec_at tX4_go_0 21 rfl) (by show 1 + (Pp tc - Pp tb) ≤ ce; rw [htc] at hce; omega) (by show 6 + (2 * Pp tc - 2 * Pp tb) ≤ sl; rw [htc] at hce; omega) ⟨hlo ▸ hly, by rw [e9], go_38 hI q_5, by rw [e9, hn3, htc]⟩)
    · exact absurd (show d ≤ nI n by rw [hn]; exact Int32.le_refl _) c_14
