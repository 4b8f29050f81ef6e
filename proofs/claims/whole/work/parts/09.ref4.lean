set_option maxRecDepth 100000 in
set_option maxHeartbeats 4000000 in
theorem c_measures (l : Launch) (Z : xZ) (B0 : Nat) (lay : xK → Nat) (μ : Mu) (r : xK → Option xE) (to : Int32) (hI : RI μ) : YM l yX5_measures cX5_measures 6 ((none : Option FieldType)) 0 0 0 0 Z B0 [.ref (lay (100, 0)), .int to] lay (cM Z lay μ r) (fun v lay' C' => lay = lay' ∧ v = none ∧ C' = cM Z lay (M_meas μ to) r) := by
  refine YM_of myX5_measures.2.2 RX5 rfl [some (.ref (lay (100, 0))), some (.int to), none, none, none, none] rfl (Nat.le_of_ble_eq_true rfl) ?_
  intro P1 P2 P3 P4 P5 P6 P7 P8 X hr hnm
  obtain ⟨nl, hnl, eL⟩ := hI.2.1
  have hix : ix (μ.1 10 0) = nl := by rw [eL, ix_nI (by omega)]
  refine v_iconst (v := 0) X (xdec_at tX5_measures_0 0 rfl) (by decide) ?_
  refine v_istore_n (lv' := [some (.ref (lay (100, 0))), some (.int to), some (.int 0), none, none, none]) X (xdec_at tX5_measures_0 1 rfl) rfl (by decide) rfl ?_
  refine v_for 8 (fun j9 => cM Z lay ((M_m1 to j9 μ.1), μ.2) r) (fun j9 => [some (.ref (lay (100, 0))), some (.int to), some (.int (nI j9)), none, none, none]) 2 [] (fun i1 hi1 ih1 => ?_) ?_
  · refine v_iload_n X (xdec_at tX5_measures_0 2 rfl) rfl rfl ?_
    refine v_bipush (v := 8) X (xdec_at tX5_measures_0 3 rfl) (by decide) ?_
    refine v_icmp_ge (tgt := 31) X (xdec_at tX5_measures_0 4 rfl) (by decide) (fun c_5 => ?_) (fun c_5 => ?_)
    · exact absurd c_5 (nI_ge (b := 8) hi1 (by decide))
    · refine v_aload_n X (xdec_at tX5_measures_0 5 rfl) rfl rfl ?_
      refine r_A X 15 (by decide) rfl rfl (xdec_at tX5_measures_0 6 rfl) ?_
      refine v_iload_n X (xdec_at tX5_measures_0 7 rfl) rfl rfl ?_
      refine v_iload_n X (xdec_at tX5_measures_0 8 rfl) rfl rfl ?_
      refine v_iload_n X (xdec_at tX5_measures_0 9 rfl) rfl rfl ?_
      refine v_icmp_ne (tgt := 22) X (xdec_at tX5_measures_0 10 rfl) (by decide) (fun c_15 => ?_) (fun c_15 => ?_)
      · refine v_ldc (v := 1000000) X (xw_at tW_19 4 rfl) (xdec_at tX5_measures_0 13 rfl) ?_
        refine r_PIn X 15 (by decide) rfl rfl hi1 (xdec_at tX5_measures_0 14 rfl) ?_
        refine v_iinc (v := (nI (i1 + 1))) (lv' := [some (.ref (lay (100, 0))), some (.int to), some (.int (nI (i1 + 1))), none, none, none]) X (xdec_at tX5_measures_0 15 rfl) rfl (nI_1 _) (by decide) rfl ?_
        refine v_goto (tgt := 2) X (xdec_at tX5_measures_0 16 rfl) (by decide) ?_
        refine v_le (lv' := [some (.ref (lay (100, 0))), some (.int to), some (.int (nI (i1 + 1))), none, none, none]) (by simp [xle]) ?_
        exact v_mu (μ' := ((M_m1 to (i1 + 1) μ.1), μ.2)) (by simp [M_m1, c_15]) ih1
      · refine v_iconst (v := 0) X (xdec_at tX5_measures_0 11 rfl) (by decide) ?_
        refine v_goto (tgt := 24) X (xdec_at tX5_measures_0 12 rfl) (by decide) ?_
        refine r_PIn X 15 (by decide) rfl rfl hi1 (xdec_at tX5_measures_0 14 rfl) ?_
        refine v_iinc (v := (nI (i1 + 1))) (lv' := [some (.ref (lay (100, 0))), some (.int to), some (.int (nI (i1 + 1))), none, none, none]) X (xdec_at tX5_measures_0 15 rfl) rfl (nI_1 _) (by decide) rfl ?_
        refine v_goto (tgt := 2) X (xdec_at tX5_measures_0 16 rfl) (by decide) ?_
        refine v_le (lv' := [some (.ref (lay (100, 0))), some (.int to), some (.int (nI (i1 + 1))), none, none, none]) (by simp [xle]) ?_
        exact v_mu (μ' := ((M_m1 to (i1 + 1) μ.1), μ.2)) (by simp [M_m1, (eq_true c_15)]) ih1
  · refine v_iload_n X (xdec_at tX5_measures_0 2 rfl) rfl rfl ?_
    refine v_bipush (v := 8) X (xdec_at tX5_measures_0 3 rfl) (by decide) ?_
    refine v_icmp_ge (tgt := 31) X (xdec_at tX5_measures_0 4 rfl) (by decide) (fun c_5 => ?_) (fun c_5 => ?_)
    · refine v_iconst (v := 0) X (xdec_at tX5_measures_0 17 rfl) (by decide) ?_
      refine v_istore_n (lv' := [some (.ref (lay (100, 0))), some (.int to), some (.int 0), none, none, none]) X (xdec_at tX5_measures_0 18 rfl) rfl (by decide) rfl ?_
      refine v_for 8 (fun j9 => cM Z lay ((M_m4 nl j9 (M_m1 to 8 μ.1)), μ.2) r) (fun j9 => [some (.ref (lay (100, 0))), some (.int to), some (.int (nI j9)), none, none, none]) 33 [] (fun i2 hi2 ih2 => ?_) ?_
      · obtain ⟨A, hA⟩ : ∃ A, A = M_m4 nl i2 (M_m1 to 8 μ.1) := ⟨_, rfl⟩
        have hkA : ∀ j, j ≠ 15 → A j = μ.1 j := fun j hj => by rw [hA, M_m4_ne _ _ _ hj, M_m1_ne _ _ _ hj]
        refine v_mu (μ' := (A, μ.2)) (by rw [hA]) ?_
        refine v_iload_n X (xdec_at tX5_measures_0 19 rfl) rfl rfl ?_
        refine v_bipush (v := 8) X (xdec_at tX5_measures_0 20 rfl) (by decide) ?_
        refine v_icmp_ge (tgt := 205) X (xdec_at tX5_measures_0 21 rfl) (by decide) (fun c_36 => ?_) (fun c_36 => ?_)
        · exact absurd c_36 (nI_ge (b := 8) hi2 (by decide))
        · refine v_iconst (v := 0) X (xdec_at tX5_measures_0 22 rfl) (by decide) ?_
          refine v_istore_n (lv' := [some (.ref (lay (100, 0))), some (.int to), some (.int (nI i2)), some (.int 0), none, none]) X (xdec_at tX5_measures_0 23 rfl) rfl (by decide) rfl ?_
          refine v_for nl (fun j9 => cM Z lay ((M_m3 j9 A), μ.2) r) (fun j9 => [some (.ref (lay (100, 0))), some (.int to), some (.int (nI i2)), some (.int (nI j9)), none, none]) 41 [] (fun i3 hi3 ih3 => ?_) ?_
          · obtain ⟨B, hB⟩ : ∃ B, B = M_m3 i3 A := ⟨_, rfl⟩
            have hkB : ∀ j, j ≠ 15 → B j = μ.1 j := fun j hj => by rw [hB, M_m3_ne _ _ hj, hkA j hj]
            have hIB : RI (B, μ.2) := RI_same hI hkB
            have hBl : B 10 0 = nI nl := by rw [hkB 10 (by decide), eL]
            have hg20 : i3 < 20 := by omega
            refine v_mu (μ' := (B, μ.2)) (by rw [hB]) ?_
            refine v_iload_n X (xdec_at tX5_measures_0 24 rfl) rfl rfl ?_
            refine v_aload_n X (xdec_at tX5_measures_0 25 rfl) rfl rfl ?_
            refine r_S (v := (B 10 0)) X 10 (by decide) rfl rfl (xdec_at tX5_measures_0 26 rfl) rfl ?_
            refine v_icmp_ge (tgt := 199) X (xdec_at tX5_measures_0 27 rfl) (by decide) (fun c_46 => ?_) (fun c_46 => ?_)
            · exact absurd c_46 (by rw [hBl]; exact nI_ge hi3 (by omega))
            · refine v_aload_n X (xdec_at tX5_measures_0 28 rfl) rfl rfl ?_
              refine r_A X 15 (by decide) rfl rfl (xdec_at tX5_measures_0 29 rfl) ?_
              refine v_aload_n X (xdec_at tX5_measures_0 30 rfl) rfl rfl ?_
              refine r_A X 11 (by decide) rfl rfl (xdec_at tX5_measures_0 31 rfl) ?_
              refine v_iload_n X (xdec_at tX5_measures_0 32 rfl) rfl rfl ?_
              refine r_In (v := (B 11 i3)) X 11 (by decide) rfl rfl hg20 (xdec_at tX5_measures_0 33 rfl) rfl ?_
              refine r_I (v := (B 15 (ix (B 11 i3)))) X 15 (by decide) rfl rfl (hIB.o1 hg20) (xdec_at tX5_measures_0 34 rfl) rfl ?_
              refine v_aload_n X (xdec_at tX5_measures_0 35 rfl) rfl rfl ?_
              refine r_A X 13 (by decide) rfl rfl (xdec_at tX5_measures_0 36 rfl) ?_
              refine v_iload_n X (xdec_at tX5_measures_0 37 rfl) rfl rfl ?_
              refine r_In (v := (B 13 i3)) X 13 (by decide) rfl rfl hg20 (xdec_at tX5_measures_0 38 rfl) rfl ?_
              refine v_iadd X (xdec_at tX5_measures_0 39 rfl) ?_
              refine v_istore (lv' := [some (.ref (lay (100, 0))), some (.int to), some (.int (nI i2)), some (.int (nI i3)), some (.int ((B 15 (ix (B 11 i3))) + (B 13 i3))), none]) X (xdec_at tX5_measures_1 0 rfl) (by decide) rfl ?_
              refine v_aload_n X (xdec_at tX5_measures_1 1 rfl) rfl rfl ?_
              refine r_A X 15 (by decide) rfl rfl (xdec_at tX5_measures_1 2 rfl) ?_
              refine v_aload_n X (xdec_at tX5_measures_1 3 rfl) rfl rfl ?_
              refine r_A X 12 (by decide) rfl rfl (xdec_at tX5_measures_1 4 rfl) ?_
              refine v_iload_n X (xdec_at tX5_measures_1 5 rfl) rfl rfl ?_
              refine r_In (v := (B 12 i3)) X 12 (by decide) rfl rfl hg20 (xdec_at tX5_measures_1 6 rfl) rfl ?_
              refine r_I (v := (B 15 (ix (B 12 i3)))) X 15 (by decide) rfl rfl (hIB.o2 hg20) (xdec_at tX5_measures_1 7 rfl) rfl ?_
              refine v_aload_n X (xdec_at tX5_measures_1 8 rfl) rfl rfl ?_
              refine r_A X 13 (by decide) rfl rfl (xdec_at tX5_measures_1 9 rfl) ?_
              refine v_iload_n X (xdec_at tX5_measures_1 10 rfl) rfl rfl ?_
              refine r_In (v := (B 13 i3)) X 13 (by decide) rfl rfl hg20 (xdec_at tX5_measures_1 11 rfl) rfl ?_
              refine v_iadd X (xdec_at tX5_measures_1 12 rfl) ?_
              refine v_istore (lv' := [some (.ref (lay (100, 0))), some (.int to), some (.int (nI i2)), some (.int (nI i3)), some (.int ((B 15 (ix (B 11 i3))) + (B 13 i3))), some (.int ((B 15 (ix (B 12 i3))) + (B 13 i3)))]) X (xdec_at tX5_measures_1 13 rfl) (by decide) rfl ?_
              refine v_aload_n X (xdec_at tX5_measures_1 14 rfl) rfl rfl ?_
              refine r_A X 15 (by decide) rfl rfl (xdec_at tX5_measures_1 15 rfl) ?_
              refine v_aload_n X (xdec_at tX5_measures_1 16 rfl) rfl rfl ?_
              refine r_A X 12 (by decide) rfl rfl (xdec_at tX5_measures_1 17 rfl) ?_
              refine v_iload_n X (xdec_at tX5_measures_1 18 rfl) rfl rfl ?_
              refine r_In (v := (B 12 i3)) X 12 (by decide) rfl rfl hg20 (xdec_at tX5_measures_1 19 rfl) rfl ?_
              refine v_aload_n X (xdec_at tX5_measures_1 20 rfl) rfl rfl ?_
              refine r_A X 14 (by decide) rfl rfl (xdec_at tX5_measures_1 21 rfl) ?_
              refine v_iload_n X (xdec_at tX5_measures_1 22 rfl) rfl rfl ?_
              refine r_Zn (v := (B 14 i3)) X 14 (by decide) rfl rfl hg20 (xdec_at tX5_measures_1 23 rfl) rfl ?_
              refine v_if_ne (tgt := 129) X (xdec_at tX5_measures_1 24 rfl) (by decide) (fun c_105 => ?_) (fun c_105 => ?_)
              · refine v_aload_n X (xdec_at tX5_measures_1 36 rfl) rfl rfl ?_
                refine r_A X 15 (by decide) rfl rfl (xdec_at tX5_measures_1 37 rfl) ?_
                refine v_aload_n X (xdec_at tX5_measures_1 38 rfl) rfl rfl ?_
                refine r_A X 12 (by decide) rfl rfl (xdec_at tX5_measures_1 39 rfl) ?_
                refine v_iload_n X (xdec_at tX5_measures_2 0 rfl) rfl rfl ?_
                refine r_In (v := (B 12 i3)) X 12 (by decide) rfl rfl hg20 (xdec_at tX5_measures_2 1 rfl) rfl ?_
                refine r_I (v := (B 15 (ix (B 12 i3)))) X 15 (by decide) rfl rfl (hIB.o2 hg20) (xdec_at tX5_measures_2 2 rfl) rfl ?_
                refine r_PI X 15 (by decide) rfl rfl (hIB.o2 hg20) (xdec_at tX5_measures_2 3 rfl) ?_
                refine v_aload_n X (xdec_at tX5_measures_2 4 rfl) rfl rfl ?_
                refine r_A X 15 (by decide) rfl rfl (xdec_at tX5_measures_2 5 rfl) ?_
                refine v_aload_n X (xdec_at tX5_measures_2 6 rfl) rfl rfl ?_
                refine r_A X 11 (by decide) rfl rfl (xdec_at tX5_measures_2 7 rfl) ?_
                refine v_iload_n X (xdec_at tX5_measures_2 8 rfl) rfl rfl ?_
                refine r_In (v := (B 11 i3)) X 11 (by decide) rfl rfl hg20 (xdec_at tX5_measures_2 9 rfl) rfl ?_
                refine v_aload_n X (xdec_at tX5_measures_2 10 rfl) rfl rfl ?_
                refine r_A X 14 (by decide) rfl rfl (xdec_at tX5_measures_2 11 rfl) ?_
                refine v_iload_n X (xdec_at tX5_measures_2 12 rfl) rfl rfl ?_
                refine r_Zn (v := (B 14 i3)) X 14 (by decide) rfl rfl hg20 (xdec_at tX5_measures_2 13 rfl) rfl ?_
                refine v_if_ne (tgt := 181) X (xdec_at tX5_measures_2 14 rfl) (by decide) (fun _ => ?_) (fun h9 => absurd h9 c_105)
                refine v_aload_n X (xdec_at tX5_measures_2 26 rfl) rfl rfl ?_
                refine r_A X 15 (by decide) rfl rfl (xdec_at tX5_measures_2 27 rfl) ?_
                refine v_aload_n X (xdec_at tX5_measures_2 28 rfl) rfl rfl ?_
                refine r_A X 11 (by decide) rfl rfl (xdec_at tX5_measures_2 29 rfl) ?_
                refine v_iload_n X (xdec_at tX5_measures_2 30 rfl) rfl rfl ?_
                refine r_In (v := (B 11 i3)) X 11 (by decide) rfl rfl hg20 (xdec_at tX5_measures_2 31 rfl) rfl ?_
                refine r_I (v := ((up2 B 15 (ix (B 12 i3)) (B 15 (ix (B 12 i3)))) 15 (ix (B 11 i3)))) X 15 (by decide) rfl rfl (hIB.o1 hg20) (xdec_at tX5_measures_2 32 rfl) rfl ?_
                refine r_PI X 15 (by decide) rfl rfl (hIB.o1 hg20) (xdec_at tX5_measures_2 33 rfl) ?_
                refine v_iinc (v := (nI (i3 + 1))) (lv' := [some (.ref (lay (100, 0))), some (.int to), some (.int (nI i2)), some (.int (nI (i3 + 1))), some (.int ((B 15 (ix (B 11 i3))) + (B 13 i3))), some (.int ((B 15 (ix (B 12 i3))) + (B 13 i3)))]) X (xdec_at tX5_measures_2 34 rfl) rfl (nI_1 _) (by decide) rfl ?_
                refine v_goto (tgt := 41) X (xdec_at tX5_measures_2 35 rfl) (by decide) ?_
                refine v_le (lv' := [some (.ref (lay (100, 0))), some (.int to), some (.int (nI i2)), some (.int (nI (i3 + 1))), none, none]) (by simp [xle]) ?_
                exact v_mu (μ' := ((M_m3 (i3 + 1) A), μ.2)) (by show _ = (M_m2 (M_m3 i3 A) i3, μ.2); rw [← hB]; simp [M_m2, M_m2a, c_105]) ih3
              · refine v_iload X (xdec_at tX5_measures_1 25 rfl) rfl ?_
                refine v_aload_n X (xdec_at tX5_measures_1 26 rfl) rfl rfl ?_
                refine r_A X 15 (by decide) rfl rfl (xdec_at tX5_measures_1 27 rfl) ?_
                refine v_aload_n X (xdec_at tX5_measures_1 28 rfl) rfl rfl ?_
                refine r_A X 12 (by decide) rfl rfl (xdec_at tX5_measures_1 29 rfl) ?_
                refine v_iload_n X (xdec_at tX5_measures_1 30 rfl) rfl rfl ?_
                refine r_In (v := (B 12 i3)) X 12 (by decide) rfl rfl hg20 (xdec_at tX5_measures_1 31 rfl) rfl ?_
                refine r_I (v := (B 15 (ix (B 12 i3)))) X 15 (by decide) rfl rfl (hIB.o2 hg20) (xdec_at tX5_measures_1 32 rfl) rfl ?_
                refine v_icmp_ge (tgt := 129) X (xdec_at tX5_measures_1 33 rfl) (by decide) (fun c_121 => ?_) (fun c_121 => ?_)
                · refine v_aload_n X (xdec_at tX5_measures_1 36 rfl) rfl rfl ?_
                  refine r_A X 15 (by decide) rfl rfl (xdec_at tX5_measures_1 37 rfl) ?_
                  refine v_aload_n X (xdec_at tX5_measures_1 38 rfl) rfl rfl ?_
                  refine r_A X 12 (by decide) rfl rfl (xdec_at tX5_measures_1 39 rfl) ?_
                  refine v_iload_n X (xdec_at tX5_measures_2 0 rfl) rfl rfl ?_
                  refine r_In (v := (B 12 i3)) X 12 (by decide) rfl rfl hg20 (xdec_at tX5_measures_2 1 rfl) rfl ?_
                  refine r_I (v := (B 15 (ix (B 12 i3)))) X 15 (by decide) rfl rfl (hIB.o2 hg20) (xdec_at tX5_measures_2 2 rfl) rfl ?_
                  refine r_PI X 15 (by decide) rfl rfl (hIB.o2 hg20) (xdec_at tX5_measures_2 3 rfl) ?_
                  refine v_aload_n X (xdec_at tX5_measures_2 4 rfl) rfl rfl ?_
                  refine r_A X 15 (by decide) rfl rfl (xdec_at tX5_measures_2 5 rfl) ?_
                  refine v_aload_n X (xdec_at tX5_measures_2 6 rfl) rfl rfl ?_
                  refine r_A X 11 (by decide) rfl rfl (xdec_at tX5_measures_2 7 rfl) ?_
                  refine v_iload_n X (xdec_at tX5_measures_2 8 rfl) rfl rfl ?_
                  refine r_In (v := (B 11 i3)) X 11 (by decide) rfl rfl hg20 (xdec_at tX5_measures_2 9 rfl) rfl ?_
                  refine v_aload_n X (xdec_at tX5_measures_2 10 rfl) rfl rfl ?_
                  refine r_A X 14 (by decide) rfl rfl (xdec_at tX5_measures_2 11 rfl) ?_
                  refine v_iload_n X (xdec_at tX5_measures_2 12 rfl) rfl rfl ?_
                  refine r_Zn (v := (B 14 i3)) X 14 (by decide) rfl rfl hg20 (xdec_at tX5_measures_2 13 rfl) rfl ?_
                  refine v_if_ne (tgt := 181) X (xdec_at tX5_measures_2 14 rfl) (by decide) (fun h9 => absurd c_105 h9) (fun _ => ?_)
                  refine v_iload X (xdec_at tX5_measures_2 15 rfl) rfl ?_
                  refine v_aload_n X (xdec_at tX5_measures_2 16 rfl) rfl rfl ?_
                  refine r_A X 15 (by decide) rfl rfl (xdec_at tX5_measures_2 17 rfl) ?_
                  refine v_aload_n X (xdec_at tX5_measures_2 18 rfl) rfl rfl ?_
                  refine r_A X 11 (by decide) rfl rfl (xdec_at tX5_measures_2 19 rfl) ?_
                  refine v_iload_n X (xdec_at tX5_measures_2 20 rfl) rfl rfl ?_
                  refine r_In (v := (B 11 i3)) X 11 (by decide) rfl rfl hg20 (xdec_at tX5_measures_2 21 rfl) rfl ?_
                  refine r_I (v := ((up2 B 15 (ix (B 12 i3)) (B 15 (ix (B 12 i3)))) 15 (ix (B 11 i3)))) X 15 (by decide) rfl rfl (hIB.o1 hg20) (xdec_at tX5_measures_2 22 rfl) rfl ?_
                  refine v_icmp_ge (tgt := 181) X (xdec_at tX5_measures_2 23 rfl) (by decide) (fun c_173 => ?_) (fun c_173 => ?_)
                  · refine v_aload_n X (xdec_at tX5_measures_2 26 rfl) rfl rfl ?_
                    refine r_A X 15 (by decide) rfl rfl (xdec_at tX5_measures_2 27 rfl) ?_
                    refine v_aload_n X (xdec_at tX5_measures_2 28 rfl) rfl rfl ?_
                    refine r_A X 11 (by decide) rfl rfl (xdec_at tX5_measures_2 29 rfl) ?_
                    refine v_iload_n X (xdec_at tX5_measures_2 30 rfl) rfl rfl ?_
                    refine r_In (v := (B 11 i3)) X 11 (by decide) rfl rfl hg20 (xdec_at tX5_measures_2 31 rfl) rfl ?_
                    refine r_I (v := ((up2 B 15 (ix (B 12 i3)) (B 15 (ix (B 12 i3)))) 15 (ix (B 11 i3)))) X 15 (by decide) rfl rfl (hIB.o1 hg20) (xdec_at tX5_measures_2 32 rfl) rfl ?_
                    refine r_PI X 15 (by decide) rfl rfl (hIB.o1 hg20) (xdec_at tX5_measures_2 33 rfl) ?_
                    refine v_iinc (v := (nI (i3 + 1))) (lv' := [some (.ref (lay (100, 0))), some (.int to), some (.int (nI i2)), some (.int (nI (i3 + 1))), some (.int ((B 15 (ix (B 11 i3))) + (B 13 i3))), some (.int ((B 15 (ix (B 12 i3))) + (B 13 i3)))]) X (xdec_at tX5_measures_2 34 rfl) rfl (nI_1 _) (by decide) rfl ?_
                    refine v_goto (tgt := 41) X (xdec_at tX5_measures_2 35 rfl) (by decide) ?_
                    refine v_le (lv' := [some (.ref (lay (100, 0))), some (.int to), some (.int (nI i2)), some (.int (nI (i3 + 1))), none, none]) (by simp [xle]) ?_
                    exact v_mu (μ' := ((M_m3 (i3 + 1) A), μ.2)) (by show _ = (M_m2 (M_m3 i3 A) i3, μ.2); rw [← hB]; simp [M_m2, M_m2a, (eq_true c_105), c_121, c_173]) ih3
                  · refine v_iload X (xdec_at tX5_measures_2 24 rfl) rfl ?_
                    refine v_goto (tgt := 192) X (xdec_at tX5_measures_2 25 rfl) (by decide) ?_
                    refine r_PI X 15 (by decide) rfl rfl (hIB.o1 hg20) (xdec_at tX5_measures_2 33 rfl) ?_
                    refine v_iinc (v := (nI (i3 + 1))) (lv' := [some (.ref (lay (100, 0))), some (.int to), some (.int (nI i2)), some (.int (nI (i3 + 1))), some (.int ((B 15 (ix (B 11 i3))) + (B 13 i3))), some (.int ((B 15 (ix (B 12 i3))) + (B 13 i3)))]) X (xdec_at tX5_measures_2 34 rfl) rfl (nI_1 _) (by decide) rfl ?_
                    refine v_goto (tgt := 41) X (xdec_at tX5_measures_2 35 rfl) (by decide) ?_
                    refine v_le (lv' := [some (.ref (lay (100, 0))), some (.int to), some (.int (nI i2)), some (.int (nI (i3 + 1))), none, none]) (by simp [xle]) ?_
                    exact v_mu (μ' := ((M_m3 (i3 + 1) A), μ.2)) (by show _ = (M_m2 (M_m3 i3 A) i3, μ.2); rw [← hB]; simp [M_m2, M_m2a, (eq_true c_105), c_121, c_173]) ih3
                · refine v_iload X (xdec_at tX5_measures_1 34 rfl) rfl ?_
                  refine v_goto (tgt := 140) X (xdec_at tX5_measures_1 35 rfl) (by decide) ?_
                  refine r_PI X 15 (by decide) rfl rfl (hIB.o2 hg20) (xdec_at tX5_measures_2 3 rfl) ?_
                  refine v_aload_n X (xdec_at tX5_measures_2 4 rfl) rfl rfl ?_
                  refine r_A X 15 (by decide) rfl rfl (xdec_at tX5_measures_2 5 rfl) ?_
                  refine v_aload_n X (xdec_at tX5_measures_2 6 rfl) rfl rfl ?_
                  refine r_A X 11 (by decide) rfl rfl (xdec_at tX5_measures_2 7 rfl) ?_
                  refine v_iload_n X (xdec_at tX5_measures_2 8 rfl) rfl rfl ?_
                  refine r_In (v := (B 11 i3)) X 11 (by decide) rfl rfl hg20 (xdec_at tX5_measures_2 9 rfl) rfl ?_
                  refine v_aload_n X (xdec_at tX5_measures_2 10 rfl) rfl rfl ?_
                  refine r_A X 14 (by decide) rfl rfl (xdec_at tX5_measures_2 11 rfl) ?_
                  refine v_iload_n X (xdec_at tX5_measures_2 12 rfl) rfl rfl ?_
                  refine r_Zn (v := (B 14 i3)) X 14 (by decide) rfl rfl hg20 (xdec_at tX5_measures_2 13 rfl) rfl ?_
                  refine v_if_ne (tgt := 181) X (xdec_at tX5_measures_2 14 rfl) (by decide) (fun h9 => absurd c_105 h9) (fun _ => ?_)
                  refine v_iload X (xdec_at tX5_measures_2 15 rfl) rfl ?_
                  refine v_aload_n X (xdec_at tX5_measures_2 16 rfl) rfl rfl ?_
                  refine r_A X 15 (by decide) rfl rfl (xdec_at tX5_measures_2 17 rfl) ?_
                  refine v_aload_n X (xdec_at tX5_measures_2 18 rfl) rfl rfl ?_
                  refine r_A X 11 (by decide) rfl rfl (xdec_at tX5_measures_2 19 rfl) ?_
                  refine v_iload_n X (xdec_at tX5_measures_2 20 rfl) rfl rfl ?_
                  refine r_In (v := (B 11 i3)) X 11 (by decide) rfl rfl hg20 (xdec_at tX5_measures_2 21 rfl) rfl ?_
                  refine r_I (v := ((up2 B 15 (ix (B 12 i3)) ((B 15 (ix (B 11 i3))) + (B 13 i3))) 15 (ix (B 11 i3)))) X 15 (by decide) rfl rfl (hIB.o1 hg20) (xdec_at tX5_measures_2 22 rfl) rfl ?_
                  refine v_icmp_ge (tgt := 181) X (xdec_at tX5_measures_2 23 rfl) (by decide) (fun c_173 => ?_) (fun c_173 => ?_)
                  · refine v_aload_n X (xdec_at tX5_measures_2 26 rfl) rfl rfl ?_
                    refine r_A X 15 (by decide) rfl rfl (xdec_at tX5_measures_2 27 rfl) ?_
                    refine v_aload_n X (xdec_at tX5_measures_2 28 rfl) rfl rfl ?_
                    refine r_A X 11 (by decide) rfl rfl (xdec_at tX5_measures_2 29 rfl) ?_
                    refine v_iload_n X (xdec_at tX5_measures_2 30 rfl) rfl rfl ?_
                    refine r_In (v := (B 11 i3)) X 11 (by decide) rfl rfl hg20 (xdec_at tX5_measures_2 31 rfl) rfl ?_
                    refine r_I (v := ((up2 B 15 (ix (B 12 i3)) ((B 15 (ix (B 11 i3))) + (B 13 i3))) 15 (ix (B 11 i3)))) X 15 (by decide) rfl rfl (hIB.o1 hg20) (xdec_at tX5_measures_2 32 rfl) rfl ?_
                    refine r_PI X 15 (by decide) rfl rfl (hIB.o1 hg20) (xdec_at tX5_measures_2 33 rfl) ?_
                    refine v_iinc (v := (nI (i3 + 1))) (lv' := [some (.ref (lay (100, 0))), some (.int to), some (.int (nI i2)), some (.int (nI (i3 + 1))), some (.int ((B 15 (ix (B 11 i3))) + (B 13 i3))), some (.int ((B 15 (ix (B 12 i3))) + (B 13 i3)))]) X (xdec_at tX5_measures_2 34 rfl) rfl (nI_1 _) (by decide) rfl ?_
                    refine v_goto (tgt := 41) X (xdec_at tX5_measures_2 35 rfl) (by decide) ?_
                    refine v_le (lv' := [some (.ref (lay (100, 0))), some (.int to), some (.int (nI i2)), some (.int (nI (i3 + 1))), none, none]) (by simp [xle]) ?_
                    exact v_mu (μ' := ((M_m3 (i3 + 1) A), μ.2)) (by show _ = (M_m2 (M_m3 i3 A) i3, μ.2); rw [← hB]; simp [M_m2, M_m2a, (eq_true c_105), c_121, c_173]) ih3
                  · refine v_iload X (xdec_at tX5_measures_2 24 rfl) rfl ?_
                    refine v_goto (tgt := 192) X (xdec_at tX5_measures_2 25 rfl) (by decide) ?_
                    refine r_PI X 15 (by decide) rfl rfl (hIB.o1 hg20) (xdec_at tX5_measures_2 33 rfl) ?_
                    refine v_iinc (v := (nI (i3 + 1))) (lv' := [some (.ref (lay (100, 0))), some (.int to), some (.int (nI i2)), some (.int (nI (i3 + 1))), some (.int ((B 15 (ix (B 11 i3))) + (B 13 i3))), some (.int ((B 15 (ix (B 12 i3))) + (B 13 i3)))]) X (xdec_at tX5_measures_2 34 rfl) rfl (nI_1 _) (by decide) rfl ?_
                    refine v_goto (tgt := 41) X (xdec_at tX5_measures_2 35 rfl) (by decide) ?_
                    refine v_le (lv' := [some (.ref (lay (100, 0))), some (.int to), some (.int (nI i2)), some (.int (nI (i3 + 1))), none, none]) (by simp [xle]) ?_
                    exact v_mu (μ' := ((M_m3 (i3 + 1) A), μ.2)) (by show _ = (M_m2 (M_m3 i3 A) i3, μ.2); rw [← hB]; simp [M_m2, M_m2a, (eq_true c_105), c_121, c_173]) ih3
          · obtain ⟨B, hB⟩ : ∃ B, B = M_m3 nl A := ⟨_, rfl⟩
            have hBl : B 10 0 = nI nl := by rw [hB, M_m3_ne _ _ (by decide), hkA 10 (by decide), eL]
            refine v_mu (μ' := (B, μ.2)) (by rw [hB]) ?_
            refine v_iload_n X (xdec_at tX5_measures_0 24 rfl) rfl rfl ?_
            refine v_aload_n X (xdec_at tX5_measures_0 25 rfl) rfl rfl ?_
            refine r_S (v := (B 10 0)) X 10 (by decide) rfl rfl (xdec_at tX5_measures_0 26 rfl) rfl ?_
            refine v_icmp_ge (tgt := 199) X (xdec_at tX5_measures_0 27 rfl) (by decide) (fun c_46 => ?_) (fun c_46 => ?_)
            · refine v_iinc (v := (nI (i2 + 1))) (lv' := [some (.ref (lay (100, 0))), some (.int to), some (.int (nI (i2 + 1))), some (.int (nI nl)), none, none]) X (xdec_at tX5_measures_2 36 rfl) rfl (nI_1 _) (by decide) rfl ?_
              refine v_goto (tgt := 33) X (xdec_at tX5_measures_2 37 rfl) (by decide) ?_
              refine v_le (lv' := [some (.ref (lay (100, 0))), some (.int to), some (.int (nI (i2 + 1))), none, none, none]) (by simp [xle]) ?_
              exact v_mu (μ' := ((M_m4 nl (i2 + 1) (M_m1 to 8 μ.1)), μ.2)) (by rw [hB, hA]; rfl) ih2
            · exact absurd (show B 10 0 ≤ nI nl by rw [hBl]; exact nI_le (Nat.le_refl _) (by omega)) c_46
      · refine v_iload_n X (xdec_at tX5_measures_0 19 rfl) rfl rfl ?_
        refine v_bipush (v := 8) X (xdec_at tX5_measures_0 20 rfl) (by decide) ?_
        refine v_icmp_ge (tgt := 205) X (xdec_at tX5_measures_0 21 rfl) (by decide) (fun _ => ?_) (fun h9 => absurd c_5 h9)
        have e9 : M_meas μ to = ((M_m4 nl 8 (M_m1 to 8 μ.1)), μ.2) := by rw [M_meas, hix]
        exact v_vret X hr (xdec_at tX5_measures_2 38 rfl) (Nat.le_of_ble_eq_true rfl) (Nat.le_of_ble_eq_true rfl) ⟨rfl, rfl, by rw [e9]⟩
    · exact absurd (show (8 : Int32) ≤ nI 8 by decide) c_5
set_option maxRecDepth 100000 in
set_option maxHeartbeats 4000000 in
theorem c_daysTold (l : Launch) (Z : xZ) (B0 : Nat) (lay : xK → Nat) (μ : Mu) (r : xK → Option xE) (a b : Int32) (hI : RI μ) : YM l yX5_daysTold cX5_daysTold 3 ((some FieldType.int)) 2 43 0 0 Z B0 [.ref (lay (100, 0)), .int a, .int b] lay (cM Z lay μ r) (fun v lay' C' => lay = lay' ∧ v = some (.int (M_told μ a b).1) ∧ C' = cM Z lay (M_told μ a b).2 r) := by
  refine YM_of myX5_daysTold.2.2 RX5 rfl [some (.ref (lay (100, 0))), some (.int a), some (.int b)] rfl (Nat.le_of_ble_eq_true rfl) ?_
  intro P1 P2 P3 P4 P5 P6 P7 P8 X hr hnm
  refine v_aload_n X (xdec_at tX5_daysTold_0 0 rfl) rfl rfl ?_
  refine v_aload_n X (xdec_at tX5_daysTold_0 1 rfl) rfl rfl ?_
  refine v_iload_n X (xdec_at tX5_daysTold_0 2 rfl) rfl rfl ?_
  refine v_callV X myX5_isPost [.int a] [.ref (lay (100, 0))] (c_isPost l Z B0 lay μ r a) (xw_at tW_17 38 rfl) (100, 0) cM_0 rfl rfl rfl rfl (by rfl) (Nat.le_of_ble_eq_true rfl) (xdec_at tX5_daysTold_0 3 rfl) ⟨(Nat.le_of_ble_eq_true rfl), (Nat.le_of_ble_eq_true rfl)⟩ ⟨(Nat.le_of_ble_eq_true rfl), (Nat.le_of_ble_eq_true rfl)⟩ ?_
  rintro v9 lay9 C9 ⟨rfl, rfl, ⟨rfl, q_3⟩ | ⟨rfl, q_3⟩⟩
  · refine v_if_eq (tgt := 21) X (xdec_at tX5_daysTold_0 4 rfl) (by decide) (fun h9 => absurd h9 (by decide)) (fun _ => ?_)
    refine v_aload_n X (xdec_at tX5_daysTold_0 5 rfl) rfl rfl ?_
    refine v_iload_n X (xdec_at tX5_daysTold_0 6 rfl) rfl rfl ?_
    refine v_callV X myX5_isPost [.int b] [.ref (lay (100, 0))] (c_isPost l Z B0 lay μ r b) (xw_at tW_17 38 rfl) (100, 0) cM_0 rfl rfl rfl rfl (by rfl) (Nat.le_of_ble_eq_true rfl) (xdec_at tX5_daysTold_0 7 rfl) ⟨(Nat.le_of_ble_eq_true rfl), (Nat.le_of_ble_eq_true rfl)⟩ ⟨(Nat.le_of_ble_eq_true rfl), (Nat.le_of_ble_eq_true rfl)⟩ ?_
    rintro v9 lay9 C9 ⟨rfl, rfl, ⟨rfl, q_11⟩ | ⟨rfl, q_11⟩⟩
    · refine v_if_eq (tgt := 21) X (xdec_at tX5_daysTold_0 8 rfl) (by decide) (fun h9 => absurd h9 (by decide)) (fun _ => ?_)
      refine v_iconst (v := 1) X (xdec_at tX5_daysTold_0 9 rfl) (by decide) ?_
      refine v_goto (tgt := 22) X (xdec_at tX5_daysTold_0 10 rfl) (by decide) ?_
      refine v_callV X myX5_asks [.int 1] [] (c_asks1 l Z B0 lay μ r) (xw_at tW_17 31 rfl) (100, 0) cM_0 rfl rfl rfl rfl (by rfl) (Nat.le_of_ble_eq_true rfl) (xdec_at tX5_daysTold_0 12 rfl) ⟨(Nat.le_of_ble_eq_true rfl), (Nat.le_of_ble_eq_true rfl)⟩ ⟨(Nat.le_of_ble_eq_true rfl), (Nat.le_of_ble_eq_true rfl)⟩ ?_
      rintro v9 lay9 C9 ⟨rfl, rfl, rfl⟩
      refine v_if_ne (tgt := 30) X (xdec_at tX5_daysTold_0 13 rfl) (by decide) (fun _ => ?_) (fun h9 => absurd h9 (by decide))
      refine v_aload_n X (xdec_at tX5_daysTold_0 16 rfl) rfl rfl ?_
      refine v_iload_n X (xdec_at tX5_daysTold_0 17 rfl) rfl rfl ?_
      refine v_callV X myX5_measures [.int b] [] (c_measures l Z B0 lay ((up2 μ.1 38 0 0), μ.2) r b (RI_th hI 0)) (xw_at tW_19 1 rfl) (100, 0) cM_0 rfl rfl rfl rfl (by rfl) (Nat.le_of_ble_eq_true rfl) (xdec_at tX5_daysTold_0 18 rfl) ⟨(Nat.le_of_ble_eq_true rfl), (Nat.le_of_ble_eq_true rfl)⟩ ⟨(Nat.le_of_ble_eq_true rfl), (Nat.le_of_ble_eq_true rfl)⟩ ?_
      rintro v9 lay9 C9 ⟨rfl, rfl, rfl⟩
      refine v_aload_n X (xdec_at tX5_daysTold_0 19 rfl) rfl rfl ?_
      refine r_A X 15 (by decide) rfl rfl (xdec_at tX5_daysTold_0 20 rfl) ?_
      refine v_iload_n X (xdec_at tX5_daysTold_0 21 rfl) rfl rfl ?_
      refine r_I (v := ((M_meas ((up2 μ.1 38 0 0), μ.2) b).1 15 (ix a))) X 15 (by decide) rfl rfl (hI.P (by assumption)) (xdec_at tX5_daysTold_0 22 rfl) rfl ?_
      refine v_ldc (v := 1000000) X (xw_at tW_19 4 rfl) (xdec_at tX5_daysTold_0 23 rfl) ?_
      refine v_icmp_lt (tgt := 50) X (xdec_at tX5_daysTold_0 24 rfl) (by decide) (fun c_43 => ?_) (fun c_43 => ?_)
      · refine v_aload_n X (xdec_at tX5_daysTold_0 27 rfl) rfl rfl ?_
        refine r_A X 15 (by decide) rfl rfl (xdec_at tX5_daysTold_0 28 rfl) ?_
        refine v_iload_n X (xdec_at tX5_daysTold_0 29 rfl) rfl rfl ?_
        refine r_I (v := ((M_meas ((up2 μ.1 38 0 0), μ.2) b).1 15 (ix a))) X 15 (by decide) rfl rfl (hI.P (by assumption)) (xdec_at tX5_daysTold_0 30 rfl) rfl ?_
        have e9 : M_told μ a b = (((M_meas ((up2 μ.1 38 0 0), μ.2) b).1 15 (ix a)), (M_meas ((up2 μ.1 38 0 0), μ.2) b)) := by simp [M_told, up2_at, (eq_true q_3), (eq_true q_11), c_43]
        exact v_iret X hr (xdec_at tX5_daysTold_0 31 rfl) (Nat.le_of_ble_eq_true rfl) (Nat.le_of_ble_eq_true rfl) ⟨rfl, by rw [e9], by rw [e9]⟩
      · refine v_iconst (v := (-1)) X (xdec_at tX5_daysTold_0 25 rfl) (by decide) ?_
        refine v_goto (tgt := 56) X (xdec_at tX5_daysTold_0 26 rfl) (by decide) ?_
        have e9 : M_told μ a b = ((-1), (M_meas ((up2 μ.1 38 0 0), μ.2) b)) := by simp [M_told, up2_at, (eq_true q_3), (eq_true q_11), c_43]
        exact v_iret X hr (xdec_at tX5_daysTold_0 31 rfl) (Nat.le_of_ble_eq_true rfl) (Nat.le_of_ble_eq_true rfl) ⟨rfl, by rw [e9], by rw [e9]⟩
    · refine v_if_eq (tgt := 21) X (xdec_at tX5_daysTold_0 8 rfl) (by decide) (fun _ => ?_) (fun h9 => absurd h9 (by decide))
      refine v_iconst (v := 0) X (xdec_at tX5_daysTold_0 11 rfl) (by decide) ?_
      refine v_callV X myX5_asks [.int 0] [] (c_asks0 l Z B0 lay μ r) (xw_at tW_17 31 rfl) (100, 0) cM_0 rfl rfl rfl rfl (by rfl) (Nat.le_of_ble_eq_true rfl) (xdec_at tX5_daysTold_0 12 rfl) ⟨(Nat.le_of_ble_eq_true rfl), (Nat.le_of_ble_eq_true rfl)⟩ ⟨(Nat.le_of_ble_eq_true rfl), (Nat.le_of_ble_eq_true rfl)⟩ ?_
      rintro v9 lay9 C9 ⟨rfl, rfl, rfl⟩
      refine v_if_ne (tgt := 30) X (xdec_at tX5_daysTold_0 13 rfl) (by decide) (fun h9 => absurd h9 (by decide)) (fun _ => ?_)
      refine v_iconst (v := 0) X (xdec_at tX5_daysTold_0 14 rfl) (by decide) ?_
      have e9 : M_told μ a b = (0, ((up2 μ.1 38 0 1), μ.2)) := by simp [M_told, up2_at, (eq_true q_3), q_11]
      exact v_iret X hr (xdec_at tX5_daysTold_0 15 rfl) (Nat.le_of_ble_eq_true rfl) (Nat.le_of_ble_eq_true rfl) ⟨rfl, by rw [e9], by rw [e9]⟩
  · refine v_if_eq (tgt := 21) X (xdec_at tX5_daysTold_0 4 rfl) (by decide) (fun _ => ?_) (fun h9 => absurd h9 (by decide))
    refine v_iconst (v := 0) X (xdec_at tX5_daysTold_0 11 rfl) (by decide) ?_
    refine v_callV X myX5_asks [.int 0] [] (c_asks0 l Z B0 lay μ r) (xw_at tW_17 31 rfl) (100, 0) cM_0 rfl rfl rfl rfl (by rfl) (Nat.le_of_ble_eq_true rfl) (xdec_at tX5_daysTold_0 12 rfl) ⟨(Nat.le_of_ble_eq_true rfl), (Nat.le_of_ble_eq_true rfl)⟩ ⟨(Nat.le_of_ble_eq_true rfl), (Nat.le_of_ble_eq_true rfl)⟩ ?_
    rintro v9 lay9 C9 ⟨rfl, rfl, rfl⟩
    refine v_if_ne (tgt := 30) X (xdec_at tX5_daysTold_0 13 rfl) (by decide) (fun h9 => absurd h9 (by decide)) (fun _ => ?_)
    refine v_iconst (v := 0) X (xdec_at tX5_daysTold_0 14 rfl) (by decide) ?_
    have e9 : M_told μ a b = (0, ((up2 μ.1 38 0 1), μ.2)) := by simp [M_told, up2_at, q_3]
    exact v_iret X hr (xdec_at tX5_daysTold_0 15 rfl) (Nat.le_of_ble_eq_true rfl) (Nat.le_of_ble_eq_true rfl) ⟨rfl, by rw [e9], by rw [e9]⟩
set_option maxRecDepth 100000 in
set_option maxHeartbeats 4000000 in
theorem c_days (l : Launch) (Z : xZ) (B0 : Nat) (lay : xK → Nat) (μ : Mu) (r : xK → Option xE) (a b : Int32) (hI : RI μ) : YM l yX5_days cX5_days 3 ((some FieldType.int)) 3 65 0 0 Z B0 [.ref (lay (100, 0)), .int a, .int b] lay (cM Z lay μ r) (fun v lay' C' => lay = lay' ∧ v = some (.int (M_told μ a b).1) ∧ C' = cM Z lay (M_told μ a b).2 r) := by
  refine YM_of myX5_days.2.2 RX5 rfl [some (.ref (lay (100, 0))), some (.int a), some (.int b)] rfl (Nat.le_of_ble_eq_true rfl) ?_
  intro P1 P2 P3 P4 P5 P6 P7 P8 X hr hnm
  refine v_aload_n X (xdec_at tX5_days_0 0 rfl) rfl rfl ?_
  refine v_iload_n X (xdec_at tX5_days_0 1 rfl) rfl rfl ?_
  refine v_iload_n X (xdec_at tX5_days_0 2 rfl) rfl rfl ?_
  refine v_callV X myX5_daysTold [.int a, .int b] [] (c_daysTold l Z B0 lay μ r a b hI) (xw_at tW_18 38 rfl) (100, 0) cM_0 rfl rfl rfl rfl (by rfl) (Nat.le_of_ble_eq_true rfl) (xdec_at tX5_days_0 3 rfl) ⟨(Nat.le_of_ble_eq_true rfl), (Nat.le_of_ble_eq_true rfl)⟩ ⟨(Nat.le_of_ble_eq_true rfl), (Nat.le_of_ble_eq_true rfl)⟩ ?_
  rintro v9 lay9 C9 ⟨rfl, rfl, rfl⟩
  exact v_iret X hr (xdec_at tX5_days_0 4 rfl) (Nat.le_of_ble_eq_true rfl) (Nat.le_of_ble_eq_true rfl) ⟨rfl, rfl, rfl⟩
set_option maxRecDepth 100000 in
set_option maxHeartbeats 4000000 in
theorem c_daysAnew (l : Launch) (Z : xZ) (B0 : Nat) (lay : xK → Nat) (μ : Mu) (r : xK → Option xE) (a b : Int32) (hI : RI μ) : YM l yX5_daysAnew cX5_daysAnew 3 ((some FieldType.int)) 3 65 0 0 Z B0 [.ref (lay (100, 0)), .int a, .int b] lay (cM Z lay μ r) (fun v lay' C' => lay = lay' ∧ v = some (.int (M_told μ a b).1) ∧ C' = cM Z lay (M_told μ a b).2 r) := by
  refine YM_of myX5_daysAnew.2.2 RX5 rfl [some (.ref (lay (100, 0))), some (.int a), some (.int b)] rfl (Nat.le_of_ble_eq_true rfl) ?_
  intro P1 P2 P3 P4 P5 P6 P7 P8 X hr hnm
  refine v_aload_n X (xdec_at tX5_daysAnew_0 0 rfl) rfl rfl ?_
  refine v_iload_n X (xdec_at tX5_daysAnew_0 1 rfl) rfl rfl ?_
  refine v_iload_n X (xdec_at tX5_daysAnew_0 2 rfl) rfl rfl ?_
  refine v_callV X myX5_daysTold [.int a, .int b] [] (c_daysTold l Z B0 lay μ r a b hI) (xw_at tW_18 38 rfl) (100, 0) cM_0 rfl rfl rfl rfl (by rfl) (Nat.le_of_ble_eq_true rfl) (xdec_at tX5_daysAnew_0 3 rfl) ⟨(Nat.le_of_ble_eq_true rfl), (Nat.le_of_ble_eq_true rfl)⟩ ⟨(Nat.le_of_ble_eq_true rfl), (Nat.le_of_ble_eq_true rfl)⟩ ?_
  rintro v9 lay9 C9 ⟨rfl, rfl, rfl⟩
  exact v_iret X hr (xdec_at tX5_daysAnew_0 4 rfl) (Nat.le_of_ble_eq_true rfl) (Nat.le_of_ble_eq_true rfl) ⟨rfl, rfl, rfl⟩
set_option maxRecDepth 100000 in
set_option maxHeartbeats 4000000 in
theorem c_nextOf (l : Launch) (Z : xZ) (B0 : Nat) (lay : xK → Nat) (μ : Mu) (r : xK → Option xE) (a b : Int32) (ha : vp_in a 8) (hI : RI μ) : YM l yX5_nextOf cX5_nextOf 7 ((some FieldType.int)) 1 25 0 0 Z B0 [.ref (lay (100, 0)), .int a, .int b] lay (cM Z lay μ r) (fun v lay' C' => lay = lay' ∧ v = some (.int (M_nextOf μ a b).1) ∧ C' = cM Z lay (M_nextOf μ a b).2 r) := by
  refine YM_of myX5_nextOf.2.2 RX5 rfl [some (.ref (lay (100, 0))), some (.int a), some (.int b), none, none, none, none] rfl (Nat.le_of_ble_eq_true rfl) ?_
  intro P1 P2 P3 P4 P5 P6 P7 P8 X hr hnm
  obtain ⟨nl, hnl, eL⟩ := hI.2.1
  have hix : ix (μ.1 10 0) = nl := by rw [eL, ix_nI (by omega)]
  refine v_aload_n X (xdec_at tX5_nextOf_0 0 rfl) rfl rfl ?_
  refine v_iload_n X (xdec_at tX5_nextOf_0 1 rfl) rfl rfl ?_
  refine v_callV X myX5_measures [.int b] [] (c_measures l Z B0 lay μ r b hI) (xw_at tW_19 1 rfl) (100, 0) cM_0 rfl rfl rfl rfl (by rfl) (Nat.le_of_ble_eq_true rfl) (xdec_at tX5_nextOf_0 2 rfl) ⟨(Nat.le_of_ble_eq_true rfl), (Nat.le_of_ble_eq_true rfl)⟩ ⟨(Nat.le_of_ble_eq_true rfl), (Nat.le_of_ble_eq_true rfl)⟩ ?_
  rintro v9 lay9 C9 ⟨rfl, rfl, rfl⟩
  refine v_iconst (v := (-1)) X (xdec_at tX5_nextOf_0 3 rfl) (by decide) ?_
  refine v_istore_n (lv' := [some (.ref (lay (100, 0))), some (.int a), some (.int b), some (.int (-1)), none, none, none]) X (xdec_at tX5_nextOf_0 4 rfl) rfl (by decide) rfl ?_
  refine v_aload_n X (xdec_at tX5_nextOf_0 5 rfl) rfl rfl ?_
  refine r_S (v := ((M_meas μ b).1 10 0)) X 10 (by decide) rfl rfl (xdec_at tX5_nextOf_0 6 rfl) rfl ?_
  refine v_iconst (v := 1) X (xdec_at tX5_nextOf_0 7 rfl) (by decide) ?_
  refine v_isub X (xdec_at tX5_nextOf_0 8 rfl) ?_
  refine v_istore (lv' := [some (.ref (lay (100, 0))), some (.int a), some (.int b), some (.int (-1)), some (.int (((M_meas μ b).1 10 0) - 1)), none, none]) X (xdec_at tX5_nextOf_0 9 rfl) (by decide) rfl ?_
  obtain ⟨A, hA⟩ : ∃ A, A = (M_meas μ b).1 := ⟨_, rfl⟩
  have hIA : RI (A, μ.2) := by rw [hA]; exact RI_meas hI b
  refine v_mu (μ' := (A, μ.2)) (by rw [hA]; rfl) ?_
  refine v_le (lv' := [some (.ref (lay (100, 0))), some (.int a), some (.int b), some (.int (-1)), some (.int (nI nl - 1)), none, none]) (by simp [xle, M_meas_ne μ b (show (10 : Nat) ≠ 15 by decide), eL]) ?_
  by_cases hc : ¬ a = b ∧ ¬ (1000000 : Int32) ≤ A 15 (ix a)
  · obtain ⟨hc1, hc2⟩ := hc
    refine v_down (cM Z lay (A, μ.2) r) (fun k9 (f9 : Int32) => [some (.ref (lay (100, 0))), some (.int a), some (.int b), some (.int f9), some (.int (nI k9 - 1)), none, none]) 15 (fun k9 f9 => M_nx A a k9 f9 = M_nx A a nl (-1) ∧ (f9 = -1 ∨ vp_in f9 20) ∧ k9 ≤ nl) (fun k fd hx ih0 => ?_) (fun fd hx => ?_) nl (-1) ⟨rfl, Or.inl rfl, Nat.le_refl _⟩
    · obtain ⟨hfd1, hfd2, hk⟩ := hx
      have hk20 : k < 20 := by omega
      have ih := fun y (hy : M_nx A a k y = M_nx A a nl (-1) ∧ (y = -1 ∨ vp_in y 20)) => ih0 y ⟨hy.1, hy.2, by omega⟩
      refine v_le (lv' := [some (.ref (lay (100, 0))), some (.int a), some (.int b), some (.int fd), some (.int (nI k)), none, none]) (by simp [xle, nI_pred]) ?_
      refine v_iload X (xdec_at tX5_nextOf_0 10 rfl) rfl ?_
      refine v_if_lt (tgt := 130) X (xdec_at tX5_nextOf_0 11 rfl) (by decide) (fun c_17 => ?_) (fun c_17 => ?_)
      · exact absurd c_17 (nI_pos (by omega))
      · refine v_iload_n X (xdec_at tX5_nextOf_0 12 rfl) rfl rfl ?_
        refine v_iload_n X (xdec_at tX5_nextOf_0 13 rfl) rfl rfl ?_
        refine v_icmp_eq (tgt := 130) X (xdec_at tX5_nextOf_0 14 rfl) (by decide) (fun c_22 => ?_) (fun c_22 => ?_)
        · exact absurd c_22 hc1
        · refine v_aload_n X (xdec_at tX5_nextOf_0 15 rfl) rfl rfl ?_
          refine r_A X 15 (by decide) rfl rfl (xdec_at tX5_nextOf_0 16 rfl) ?_
          refine v_iload_n X (xdec_at tX5_nextOf_0 17 rfl) rfl rfl ?_
          refine r_I (v := (A 15 (ix a))) X 15 (by decide) rfl rfl ha (xdec_at tX5_nextOf_0 18 rfl) rfl ?_
          refine v_ldc (v := 1000000) X (xw_at tW_19 4 rfl) (xdec_at tX5_nextOf_0 19 rfl) ?_
          refine v_icmp_ge (tgt := 130) X (xdec_at tX5_nextOf_0 20 rfl) (by decide) (fun c_33 => ?_) (fun c_33 => ?_)
          · exact absurd c_33 hc2
          · refine v_aload_n X (xdec_at tX5_nextOf_0 21 rfl) rfl rfl ?_
            refine r_A X 14 (by decide) rfl rfl (xdec_at tX5_nextOf_0 22 rfl) ?_
            refine v_iload X (xdec_at tX5_nextOf_0 23 rfl) rfl ?_
            refine r_Zn (v := (A 14 k)) X 14 (by decide) rfl rfl hk20 (xdec_at tX5_nextOf_0 24 rfl) rfl ?_
            refine v_if_ne (tgt := 124) X (xdec_at tX5_nextOf_0 25 rfl) (by decide) (fun c_43 => ?_) (fun c_43 => ?_)
            · refine v_iinc (v := ((nI k) - 1)) (lv' := [some (.ref (lay (100, 0))), some (.int a), some (.int b), some (.int fd), some (.int ((nI k) - 1)), none, none]) X (xdec_at tX5_nextOf_1 29 rfl) rfl (im1 _) (by decide) rfl ?_
              refine v_goto (tgt := 15) X (xdec_at tX5_nextOf_1 30 rfl) (by decide) ?_
              refine v_le (lv' := [some (.ref (lay (100, 0))), some (.int a), some (.int b), some (.int fd), some (.int (nI k - 1)), none, none]) (by simp [xle]) ?_
              have e8 : M_nxs A a k fd = fd := by simp [M_nxs, c_43]
              exact ih fd ⟨by rw [← hfd1, M_nx, e8], hfd2⟩
            · refine v_aload_n X (xdec_at tX5_nextOf_0 26 rfl) rfl rfl ?_
              refine v_iload X (xdec_at tX5_nextOf_0 27 rfl) rfl ?_
              refine v_iload_n X (xdec_at tX5_nextOf_0 28 rfl) rfl rfl ?_
              refine v_callV X myX5_ends [.int (nI k), .int a] [] (c_ends l Z B0 lay (A, μ.2) r k hk20 a) (xw_at tW_19 16 rfl) (100, 0) cM_0 rfl rfl rfl rfl (by rfl) (Nat.le_of_ble_eq_true rfl) (xdec_at tX5_nextOf_0 29 rfl) ⟨(Nat.le_of_ble_eq_true rfl), (Nat.le_of_ble_eq_true rfl)⟩ ⟨(Nat.le_of_ble_eq_true rfl), (Nat.le_of_ble_eq_true rfl)⟩ ?_
              rintro v9 lay9 C9 ⟨rfl, rfl, ⟨rfl, q_50⟩ | ⟨rfl, q_50⟩⟩
              · have q_50 : (A 11 k = a ∨ A 12 k = a) := q_50
                refine v_if_eq (tgt := 124) X (xdec_at tX5_nextOf_0 30 rfl) (by decide) (fun h9 => absurd h9 (by decide)) (fun _ => ?_)
                refine v_aload_n X (xdec_at tX5_nextOf_0 31 rfl) rfl rfl ?_
                refine v_iload X (xdec_at tX5_nextOf_0 32 rfl) rfl ?_
                refine v_iload_n X (xdec_at tX5_nextOf_0 33 rfl) rfl rfl ?_
                refine v_callV X myX5_across [.int (nI k), .int a] [] (c_across l Z B0 lay (A, μ.2) r k hk20 a) (xw_at tW_19 19 rfl) (100, 0) cM_0 rfl rfl rfl rfl (by rfl) (Nat.le_of_ble_eq_true rfl) (xdec_at tX5_nextOf_0 34 rfl) ⟨(Nat.le_of_ble_eq_true rfl), (Nat.le_of_ble_eq_true rfl)⟩ ⟨(Nat.le_of_ble_eq_true rfl), (Nat.le_of_ble_eq_true rfl)⟩ ?_
                rintro v9 lay9 C9 ⟨rfl, rfl, rfl⟩
                refine v_istore (lv' := [some (.ref (lay (100, 0))), some (.int a), some (.int b), some (.int fd), some (.int (nI k)), some (.int (M_across A k a)), none]) X (xdec_at tX5_nextOf_0 35 rfl) (by decide) rfl ?_
                refine v_aload_n X (xdec_at tX5_nextOf_0 36 rfl) rfl rfl ?_
                refine r_A X 13 (by decide) rfl rfl (xdec_at tX5_nextOf_0 37 rfl) ?_
                refine v_iload X (xdec_at tX5_nextOf_0 38 rfl) rfl ?_
                refine r_In (v := (A 13 k)) X 13 (by decide) rfl rfl hk20 (xdec_at tX5_nextOf_0 39 rfl) rfl ?_
                refine v_aload_n X (xdec_at tX5_nextOf_1 0 rfl) rfl rfl ?_
                refine r_A X 15 (by decide) rfl rfl (xdec_at tX5_nextOf_1 1 rfl) ?_
                refine v_iload X (xdec_at tX5_nextOf_1 2 rfl) rfl ?_
                refine r_I (v := (A 15 (ix (M_across A k a)))) X 15 (by decide) rfl rfl (across_in hIA hk20 a) (xdec_at tX5_nextOf_1 3 rfl) rfl ?_
                refine v_iadd X (xdec_at tX5_nextOf_1 4 rfl) ?_
                refine v_aload_n X (xdec_at tX5_nextOf_1 5 rfl) rfl rfl ?_
                refine r_A X 15 (by decide) rfl rfl (xdec_at tX5_nextOf_1 6 rfl) ?_
                refine v_iload_n X (xdec_at tX5_nextOf_1 7 rfl) rfl rfl ?_
                refine r_I (v := (A 15 (ix a))) X 15 (by decide) rfl rfl ha (xdec_at tX5_nextOf_1 8 rfl) rfl ?_
                refine v_icmp_ne (tgt := 93) X (xdec_at tX5_nextOf_1 9 rfl) (by decide) (fun c_86 => ?_) (fun c_86 => ?_)
                · refine v_iconst (v := 0) X (xdec_at tX5_nextOf_1 12 rfl) (by decide) ?_
                  refine v_istore (lv' := [some (.ref (lay (100, 0))), some (.int a), some (.int b), some (.int fd), some (.int (nI k)), some (.int (M_across A k a)), some (.int 0)]) X (xdec_at tX5_nextOf_1 13 rfl) (by decide) rfl ?_
                  refine v_iload X (xdec_at tX5_nextOf_1 14 rfl) rfl ?_
                  refine v_if_eq (tgt := 122) X (xdec_at tX5_nextOf_1 15 rfl) (by decide) (fun _ => ?_) (fun h9 => absurd h9 (by decide))
                  refine v_iload_n X (xdec_at tX5_nextOf_1 27 rfl) rfl rfl ?_
                  refine v_istore_n (lv' := [some (.ref (lay (100, 0))), some (.int a), some (.int b), some (.int fd), some (.int (nI k)), some (.int (M_across A k a)), some (.int 0)]) X (xdec_at tX5_nextOf_1 28 rfl) rfl (by decide) rfl ?_
                  refine v_iinc (v := ((nI k) - 1)) (lv' := [some (.ref (lay (100, 0))), some (.int a), some (.int b), some (.int fd), some (.int ((nI k) - 1)), some (.int (M_across A k a)), some (.int 0)]) X (xdec_at tX5_nextOf_1 29 rfl) rfl (im1 _) (by decide) rfl ?_
                  refine v_goto (tgt := 15) X (xdec_at tX5_nextOf_1 30 rfl) (by decide) ?_
                  refine v_le (lv' := [some (.ref (lay (100, 0))), some (.int a), some (.int b), some (.int fd), some (.int (nI k - 1)), none, none]) (by simp [xle]) ?_
                  have e8 : M_nxs A a k fd = fd := by simp [M_nxs, (eq_true c_43), (eq_true q_50), c_86]
                  exact ih fd ⟨by rw [← hfd1, M_nx, e8], hfd2⟩
                · refine v_iconst (v := 1) X (xdec_at tX5_nextOf_1 10 rfl) (by decide) ?_
                  refine v_goto (tgt := 94) X (xdec_at tX5_nextOf_1 11 rfl) (by decide) ?_
                  refine v_istore (lv' := [some (.ref (lay (100, 0))), some (.int a), some (.int b), some (.int fd), some (.int (nI k)), some (.int (M_across A k a)), some (.int 1)]) X (xdec_at tX5_nextOf_1 13 rfl) (by decide) rfl ?_
                  refine v_iload X (xdec_at tX5_nextOf_1 14 rfl) rfl ?_
                  refine v_if_eq (tgt := 122) X (xdec_at tX5_nextOf_1 15 rfl) (by decide) (fun h9 => absurd h9 (by decide)) (fun _ => ?_)
                  refine v_iload_n X (xdec_at tX5_nextOf_1 16 rfl) rfl rfl ?_
                  refine v_iconst (v := (-1)) X (xdec_at tX5_nextOf_1 17 rfl) (by decide) ?_
                  refine v_icmp_eq (tgt := 117) X (xdec_at tX5_nextOf_1 18 rfl) (by decide) (fun c_103 => ?_) (fun c_103 => ?_)
                  · refine v_iload X (xdec_at tX5_nextOf_1 25 rfl) rfl ?_
                    refine v_goto (tgt := 123) X (xdec_at tX5_nextOf_1 26 rfl) (by decide) ?_
                    refine v_istore_n (lv' := [some (.ref (lay (100, 0))), some (.int a), some (.int b), some (.int (nI k)), some (.int (nI k)), some (.int (M_across A k a)), some (.int 1)]) X (xdec_at tX5_nextOf_1 28 rfl) rfl (by decide) rfl ?_
                    refine v_iinc (v := ((nI k) - 1)) (lv' := [some (.ref (lay (100, 0))), some (.int a), some (.int b), some (.int (nI k)), some (.int ((nI k) - 1)), some (.int (M_across A k a)), some (.int 1)]) X (xdec_at tX5_nextOf_1 29 rfl) rfl (im1 _) (by decide) rfl ?_
                    refine v_goto (tgt := 15) X (xdec_at tX5_nextOf_1 30 rfl) (by decide) ?_
                    refine v_le (lv' := [some (.ref (lay (100, 0))), some (.int a), some (.int b), some (.int (nI k)), some (.int (nI k - 1)), none, none]) (by simp [xle]) ?_
                    have e8 : M_nxs A a k fd = (nI k) := by simp [M_nxs, (eq_true c_43), (eq_true q_50), (eq_true c_86), (eq_true c_103)]
                    exact ih (nI k) ⟨by rw [← hfd1, M_nx, e8], Or.inr (vp_in_nI hk20 (by decide))⟩
                  · refine v_iload X (xdec_at tX5_nextOf_1 19 rfl) rfl ?_
                    refine v_aload_n X (xdec_at tX5_nextOf_1 20 rfl) rfl rfl ?_
                    refine v_iload_n X (xdec_at tX5_nextOf_1 21 rfl) rfl rfl ?_
                    refine v_iload_n X (xdec_at tX5_nextOf_1 22 rfl) rfl rfl ?_
                    have hfv : vp_in fd 20 := hfd2.resolve_left c_103
                    refine v_st (st' := [.int a, .int (nI (ix fd)), .ref (lay (100, 0)), .int (M_across A k a)]) (by rw [in_eq hfv (by decide)] <;> rfl) ?_
                    refine v_callV X myX5_across [.int (nI (ix fd)), .int a] [.int (M_across A k a)] (c_across l Z B0 lay (A, μ.2) r (ix fd) (in_ix hfv) a) (xw_at tW_19 19 rfl) (100, 0) cM_0 rfl rfl rfl rfl (by rfl) (Nat.le_of_ble_eq_true rfl) (xdec_at tX5_nextOf_1 23 rfl) ⟨(Nat.le_of_ble_eq_true rfl), (Nat.le_of_ble_eq_true rfl)⟩ ⟨(Nat.le_of_ble_eq_true rfl), (Nat.le_of_ble_eq_true rfl)⟩ ?_
                    rintro v9 lay9 C9 ⟨rfl, rfl, rfl⟩
                    refine v_icmp_gt (tgt := 122) X (xdec_at tX5_nextOf_1 24 rfl) (by decide) (fun c_114 => ?_) (fun c_114 => ?_)
                    · refine v_iload_n X (xdec_at tX5_nextOf_1 27 rfl) rfl rfl ?_
                      refine v_istore_n (lv' := [some (.ref (lay (100, 0))), some (.int a), some (.int b), some (.int fd), some (.int (nI k)), some (.int (M_across A k a)), some (.int 1)]) X (xdec_at tX5_nextOf_1 28 rfl) rfl (by decide) rfl ?_
                      refine v_iinc (v := ((nI k) - 1)) (lv' := [some (.ref (lay (100, 0))), some (.int a), some (.int b), some (.int fd), some (.int ((nI k) - 1)), some (.int (M_across A k a)), some (.int 1)]) X (xdec_at tX5_nextOf_1 29 rfl) rfl (im1 _) (by decide) rfl ?_
                      refine v_goto (tgt := 15) X (xdec_at tX5_nextOf_1 30 rfl) (by decide) ?_
                      refine v_le (lv' := [some (.ref (lay (100, 0))), some (.int a), some (.int b), some (.int fd), some (.int (nI k - 1)), none, none]) (by simp [xle]) ?_
                      have e8 : M_nxs A a k fd = fd := by simp [M_nxs, (eq_true c_43), (eq_true q_50), (eq_true c_86), c_103, c_114]
                      exact ih fd ⟨by rw [← hfd1, M_nx, e8], hfd2⟩
                    · refine v_iload X (xdec_at tX5_nextOf_1 25 rfl) rfl ?_
                      refine v_goto (tgt := 123) X (xdec_at tX5_nextOf_1 26 rfl) (by decide) ?_
                      refine v_istore_n (lv' := [some (.ref (lay (100, 0))), some (.int a), some (.int b), some (.int (nI k)), some (.int (nI k)), some (.int (M_across A k a)), some (.int 1)]) X (xdec_at tX5_nextOf_1 28 rfl) rfl (by decide) rfl ?_
                      refine v_iinc (v := ((nI k) - 1)) (lv' := [some (.ref (lay (100, 0))), some (.int a), some (.int b), some (.int (nI k)), some (.int ((nI k) - 1)), some (.int (M_across A k a)), some (.int 1)]) X (xdec_at tX5_nextOf_1 29 rfl) rfl (im1 _) (by decide) rfl ?_
                      refine v_goto (tgt := 15) X (xdec_at tX5_nextOf_1 30 rfl) (by decide) ?_
                      refine v_le (lv' := [some (.ref (lay (100, 0))), some (.int a), some (.int b), some (.int (nI k)), some (.int (nI k - 1)), none, none]) (by simp [xle]) ?_
                      have e8 : M_nxs A a k fd = (nI k) := by simp [M_nxs, (eq_true c_43), (eq_true q_50), (eq_true c_86), c_103, c_114]
                      exact ih (nI k) ⟨by rw [← hfd1, M_nx, e8], Or.inr (vp_in_nI hk20 (by decide))⟩
              · have q_50 : ¬ (A 11 k = a ∨ A 12 k = a) := q_50
                refine v_if_eq (tgt := 124) X (xdec_at tX5_nextOf_0 30 rfl) (by decide) (fun _ => ?_) (fun h9 => absurd h9 (by decide))
                refine v_iinc (v := ((nI k) - 1)) (lv' := [some (.ref (lay (100, 0))), some (.int a), some (.int b), some (.int fd), some (.int ((nI k) - 1)), none, none]) X (xdec_at tX5_nextOf_1 29 rfl) rfl (im1 _) (by decide) rfl ?_
                refine v_goto (tgt := 15) X (xdec_at tX5_nextOf_1 30 rfl) (by decide) ?_
                refine v_le (lv' := [some (.ref (lay (100, 0))), some (.int a), some (.int b), some (.int fd), some (.int (nI k - 1)), none, none]) (by simp [xle]) ?_
                have e8 : M_nxs A a k fd = fd := by simp [M_nxs, (eq_true c_43), q_50]
                exact ih fd ⟨by rw [← hfd1, M_nx, e8], hfd2⟩
    · obtain ⟨hfd1, hfd2, -⟩ := hx
      refine v_iload X (xdec_at tX5_nextOf_0 10 rfl) rfl ?_
      refine v_if_lt (tgt := 130) X (xdec_at tX5_nextOf_0 11 rfl) (by decide) (fun c_17 => ?_) (fun c_17 => ?_)
      · refine v_iload_n X (xdec_at tX5_nextOf_1 31 rfl) rfl rfl ?_
        have e9 : M_nextOf μ a b = (fd, (A, μ.2)) := by rw [M_nextOf, ← hA, hix, if_pos ⟨hc1, hc2⟩, ← hfd1, hA]; rfl
        exact v_iret X hr (xdec_at tX5_nextOf_1 32 rfl) (Nat.le_of_ble_eq_true rfl) (Nat.le_of_ble_eq_true rfl) ⟨rfl, by rw [e9], by rw [e9]⟩
      · exact absurd (show nI 0 - 1 < 0 by decide) c_17
  · refine v_iload X (xdec_at tX5_nextOf_0 10 rfl) rfl ?_
    refine v_if_lt (tgt := 130) X (xdec_at tX5_nextOf_0 11 rfl) (by decide) (fun c_17 => ?_) (fun c_17 => ?_)
    · refine v_iload_n X (xdec_at tX5_nextOf_1 31 rfl) rfl rfl ?_
      have e9 : M_nextOf μ a b = (-1, (A, μ.2)) := by rw [M_nextOf, ← hA, if_neg hc, hA]; rfl
      exact v_iret X hr (xdec_at tX5_nextOf_1 32 rfl) (Nat.le_of_ble_eq_true rfl) (Nat.le_of_ble_eq_true rfl) ⟨rfl, by rw [e9], by rw [e9]⟩
    · refine v_iload_n X (xdec_at tX5_nextOf_0 12 rfl) rfl rfl ?_
      refine v_iload_n X (xdec_at tX5_nextOf_0 13 rfl) rfl rfl ?_
      refine v_icmp_eq (tgt := 130) X (xdec_at tX5_nextOf_0 14 rfl) (by decide) (fun c_22 => ?_) (fun c_22 => ?_)
      · refine v_iload_n X (xdec_at tX5_nextOf_1 31 rfl) rfl rfl ?_
        have e9 : M_nextOf μ a b = (-1, (A, μ.2)) := by rw [M_nextOf, ← hA, if_neg hc, hA]; rfl
        exact v_iret X hr (xdec_at tX5_nextOf_1 32 rfl) (Nat.le_of_ble_eq_true rfl) (Nat.le_of_ble_eq_true rfl) ⟨rfl, by rw [e9], by rw [e9]⟩
      · refine v_aload_n X (xdec_at tX5_nextOf_0 15 rfl) rfl rfl ?_
        refine r_A X 15 (by decide) rfl rfl (xdec_at tX5_nextOf_0 16 rfl) ?_
        refine v_iload_n X (xdec_at tX5_nextOf_0 17 rfl) rfl rfl ?_
        refine r_I (v := (A 15 (ix a))) X 15 (by decide) rfl rfl ha (xdec_at tX5_nextOf_0 18 rfl) rfl ?_
        refine v_ldc (v := 1000000) X (xw_at tW_19 4 rfl) (xdec_at tX5_nextOf_0 19 rfl) ?_
        refine v_icmp_ge (tgt := 130) X (xdec_at tX5_nextOf_0 20 rfl) (by decide) (fun c_33 => ?_) (fun c_33 => ?_)
        · refine v_iload_n X (xdec_at tX5_nextOf_1 31 rfl) rfl rfl ?_
          have e9 : M_nextOf μ a b = (-1, (A, μ.2)) := by rw [M_nextOf, ← hA, if_neg hc, hA]; rfl
          exact v_iret X hr (xdec_at tX5_nextOf_1 32 rfl) (Nat.le_of_ble_eq_true rfl) (Nat.le_of_ble_eq_true rfl) ⟨rfl, by rw [e9], by rw [e9]⟩
        · exact absurd ⟨c_22, c_33⟩ hc
