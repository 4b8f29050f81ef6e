set_option maxRecDepth 100000 in
set_option maxHeartbeats 4000000 in
theorem kyX4_payClaim (l : Launch) (Z : xZ) (B0 : Nat) (lay : xK → Nat) (μ : Mu) (tb : Tb) (r : xK → Option xE) (i j : Nat) (hi : i < nP μ) (hj : j < nP μ) (hlay : lay (10, i) = lay (10, j) → i = j) (k : Int32) : YM l yX4_payClaim cX4_payClaim 3 ((some FieldType.int)) 1 23 0 0 Z B0 [.ref (lay (10, i)), .ref (lay (10, j)), .int k] lay (cX Z lay μ tb r) (fun v lay' C' => lay = lay' ∧ v = some (.int (K_pf μ i j k).1) ∧ C' = cX Z lay (K_pf μ i j k).2 tb r) := by
  refine YM_of myX4_payClaim.2 RX4 rfl [some (.ref (lay (10, i))), some (.ref (lay (10, j))), some (.int k)] rfl (Nat.le_of_ble_eq_true rfl) ?_
  intro P1 P2 P3 P4 P5 P6 P7 P8 X hr hnm
  refine v_aload_n X (xdec_at tX4_payClaim_0 0 rfl) rfl rfl ?_
  refine v_aload_n X (xdec_at tX4_payClaim_0 1 rfl) rfl rfl ?_
  refine v_acmpR_ne (tgt := 7) X (xdec_at tX4_payClaim_0 2 rfl) (by decide) (fun c_2 => ?_) (fun c_2 => ?_)
  · have hij : ¬ i = j := fun z => c_2 (by rw [z])
    refine v_aload_n X (xdec_at tX4_payClaim_0 5 rfl) rfl rfl ?_
    refine v_aload_n X (xdec_at tX4_payClaim_0 6 rfl) rfl rfl ?_
    refine v_iload_n X (xdec_at tX4_payClaim_0 7 rfl) rfl rfl ?_
    refine v_i2l X (xdec_at tX4_payClaim_0 8 rfl) rfl ?_
    refine v_callS X myX4_pay [.ref (lay (10, i)), .ref (lay (10, j)), .long (k).toInt64] [] (kyX4_pay l Z B0 lay μ tb r i j hi hj ((k).toInt64)) (xw_at tW_10 35 rfl) rfl rfl (by rfl) (Nat.le_of_ble_eq_true rfl) (xdec_at tX4_payClaim_0 9 rfl) ⟨(Nat.le_of_ble_eq_true rfl), (Nat.le_of_ble_eq_true rfl)⟩ ⟨(Nat.le_of_ble_eq_true rfl), (Nat.le_of_ble_eq_true rfl)⟩ ?_
    rintro v9 lay9 C9 ⟨rfl, rfl, rfl⟩
    refine v_iload_n X (xdec_at tX4_payClaim_0 10 rfl) rfl rfl ?_
    have e9 : K_pf μ i j k = (k, (M_pays μ i j ((k).toInt64))) := by simp [K_pf, hij]
    exact v_iret X hr (xdec_at tX4_payClaim_0 11 rfl) (Nat.le_of_ble_eq_true rfl) (Nat.le_of_ble_eq_true rfl) ⟨rfl, by rw [e9], by rw [e9]⟩
  · have hij : i = j := hlay (c_2)
    refine v_iconst (v := 0) X (xdec_at tX4_payClaim_0 3 rfl) (by decide) ?_
    have e9 : K_pf μ i j k = (0, μ) := by simp [K_pf, (eq_true hij)]
    exact v_iret X hr (xdec_at tX4_payClaim_0 4 rfl) (Nat.le_of_ble_eq_true rfl) (Nat.le_of_ble_eq_true rfl) ⟨rfl, by rw [e9], by rw [e9]⟩
set_option maxRecDepth 100000 in
set_option maxHeartbeats 4000000 in
theorem kyX4_claim (l : Launch) (hl0 : l.stackTraces = false) (Z : xZ) (B0 : Nat) (lay : xK → Nat) (μ : Mu) (tb : Tb) (r : xK → Option xE)  (hI : RI μ) (t : Int32) (hK : KI μ) : YX l yX4_claim cX4_claim 4 ((some FieldType.int)) 7 111 2 12 Z B0 [.ref (lay (0, 0)), .int t] lay (cX Z lay μ tb r) (fun v lay' C' => lay = lay' ∧ v = some (.int (M_claim μ t).1) ∧ (M_claim μ t).2.1 38 0 = 0 ∧ C' = cX Z lay (M_claim μ t).2 tb r) (fun E => (E = eO ∧ (M_claim μ t).2.1 38 0 = 1) ∨ (E = eS ∧ (M_claim μ t).2.1 38 0 = 2)) := by
  refine YX_of myX4_claim.2.2 RX4 rfl [some (.ref (lay (0, 0))), some (.int t), none, none] rfl (Nat.le_of_ble_eq_true rfl) ?_
  intro P1 P2 P3 P4 P5 P6 P7 P8 X hr hE
  refine v_inj fun hinj => ?_
  refine v_aload_n X (xdec_at tX4_claim_0 0 rfl) rfl rfl ?_
  refine v_iload_n X (xdec_at tX4_claim_0 1 rfl) rfl rfl ?_
  refine v_xV X hE myX4_thingOf [.int t] [] (kyX4_thingOf l hl0 Z B0 lay μ tb r hI t) (xw_at tW_5 34 rfl) (0, 0) cX_X rfl rfl rfl rfl (by rfl) (Nat.le_of_ble_eq_true rfl) (xdec_at tX4_claim_0 2 rfl) ⟨(Nat.le_of_ble_eq_true rfl), (Nat.le_of_ble_eq_true rfl)⟩ ⟨(Nat.le_of_ble_eq_true rfl), (Nat.le_of_ble_eq_true rfl)⟩ ⟨(Nat.le_of_ble_eq_true rfl), (Nat.le_of_ble_eq_true rfl)⟩ (fun E h9 => Or.inl (⟨h9.1, by simp [M_claim, up2_at, h9.2]⟩)) ?_
  rintro v9 lay9 C9 ⟨rfl, rfl, rfl, q_2⟩
  refine v_astore_n (lv' := [some (.ref (lay (0, 0))), some (.int t), some (.ref (lay (30, ix t))), none]) X (xdec_at tX4_claim_0 3 rfl) rfl (by decide) rfl ?_
  refine v_aload_n X (xdec_at tX4_claim_0 4 rfl) rfl rfl ?_
  refine x_get (v := .int (μ.1 23 (ix t))) X hinX3 (30, ix t) (cX_T (μ := μ) (isT_lt hI q_2).1) rfl 8 (by decide) (xw_at tW_12 38 rfl) rfl rfl rfl (xdec_at tX4_claim_0 5 rfl) ?_
  refine v_iconst (v := 3) X (xdec_at tX4_claim_0 6 rfl) (by decide) ?_
  refine v_icmp_ne (tgt := 28) X (xdec_at tX4_claim_0 7 rfl) (by decide) (fun c_11 => ?_) (fun c_11 => ?_)
  · exact v_throw X hE hl0 (text := "nothing can be claimed for the thing") xinS xkS xiS (List.mem_of_getElem? (i := 12) rfl) xfS (xdec_at tX4_claim_0 14 rfl) (xdec_at tX4_claim_0 15 rfl) (xdec_at tX4_claim_0 16 rfl) (xdec_at tX4_claim_0 17 rfl) (xdec_at tX4_claim_0 18 rfl) ⟨(Nat.le_of_ble_eq_true rfl), (Nat.le_of_ble_eq_true rfl), (Nat.le_of_ble_eq_true rfl), (Nat.le_of_ble_eq_true rfl)⟩ ⟨(Nat.le_of_ble_eq_true rfl), (Nat.le_of_ble_eq_true rfl)⟩ (Or.inr ((⟨rfl, by simp [M_claim, up2_at, (eq_true q_2), c_11]⟩)))
  · refine v_aload_n X (xdec_at tX4_claim_0 8 rfl) rfl rfl ?_
    refine x_get (v := .int (μ.1 21 (ix t))) X hinX3 (30, ix t) (cX_T (μ := μ) (isT_lt hI q_2).1) rfl 4 (by decide) (xw_at tW_12 30 rfl) rfl rfl rfl (xdec_at tX4_claim_0 9 rfl) ?_
    refine v_if_eq (tgt := 28) X (xdec_at tX4_claim_0 10 rfl) (by decide) (fun c_18 => ?_) (fun c_18 => ?_)
    · exact v_throw X hE hl0 (text := "nothing can be claimed for the thing") xinS xkS xiS (List.mem_of_getElem? (i := 12) rfl) xfS (xdec_at tX4_claim_0 14 rfl) (xdec_at tX4_claim_0 15 rfl) (xdec_at tX4_claim_0 16 rfl) (xdec_at tX4_claim_0 17 rfl) (xdec_at tX4_claim_0 18 rfl) ⟨(Nat.le_of_ble_eq_true rfl), (Nat.le_of_ble_eq_true rfl), (Nat.le_of_ble_eq_true rfl), (Nat.le_of_ble_eq_true rfl)⟩ ⟨(Nat.le_of_ble_eq_true rfl), (Nat.le_of_ble_eq_true rfl)⟩ (Or.inr ((⟨rfl, by simp [M_claim, up2_at, (eq_true q_2), (eq_true c_11), (eq_true c_18)]⟩)))
    · refine v_aload_n X (xdec_at tX4_claim_0 11 rfl) rfl rfl ?_
      refine x_get (v := .int (μ.1 29 (ix t))) X hinX3 (30, ix t) (cX_T (μ := μ) (isT_lt hI q_2).1) rfl 12 (by decide) (xw_at tW_13 6 rfl) rfl rfl rfl (xdec_at tX4_claim_0 12 rfl) ?_
      refine v_if_eq (tgt := 38) X (xdec_at tX4_claim_0 13 rfl) (by decide) (fun c_25 => ?_) (fun c_25 => ?_)
      · refine v_aload_n X (xdec_at tX4_claim_0 19 rfl) rfl rfl ?_
        refine v_iconst (v := 1) X (xdec_at tX4_claim_0 20 rfl) (by decide) ?_
        refine x_put (C' := (cX Z lay ((up2 μ.1 29 (ix t) 1), μ.2) tb r)) X hinX3 tyX3 tyX3_ok nmX3 (30, ix t) (cX_T (μ := μ) (isT_lt hI q_2).1) rfl 12 (by decide) (xw_at tW_13 6 rfl) rfl rfl rfl rfl rfl (cw_T12 (μ := μ) (h := (isT_lt hI q_2).1)) (xdec_at tX4_claim_0 21 rfl) ?_
        refine v_aload_n X (xdec_at tX4_claim_0 22 rfl) rfl rfl ?_
        refine x_get (v := .ref (lay (10, ix (μ.1 18 (ix t))))) X hinX3 (30, ix t) (cX_T (μ := ((up2 μ.1 29 (ix t) 1), μ.2)) (isT_lt hI q_2).1) rfl 1 (by decide) (xw_at tW_12 25 rfl) rfl rfl rfl (xdec_at tX4_claim_0 23 rfl) ?_
        refine v_dup X (xdec_at tX4_claim_0 24 rfl) rfl ?_
        refine x_get (v := .long (μ.2 8 (ix (μ.1 18 (ix t))))) X hinX1 (10, ix (μ.1 18 (ix t))) (cX_P (μ := ((up2 μ.1 29 (ix t) 1), μ.2)) (hK.or (isT_lt hI q_2).1)) rfl 9 (by decide) (xw_at tW_7 25 rfl) rfl rfl rfl (xdec_at tX4_claim_0 25 rfl) ?_
        refine v_ldc2 (v := 4000) X (xw_at tW_11 28 rfl) (xdec_at tX4_claim_0 26 rfl) ?_
        refine v_lsub X (xdec_at tX4_claim_0 27 rfl) ?_
        refine x_put (C' := (cX Z lay ((up2 μ.1 29 (ix t) 1), (up2 μ.2 8 (ix (μ.1 18 (ix t))) ((μ.2 8 (ix (μ.1 18 (ix t)))) - 4000))) tb r)) X hinX1 tyX1 tyX1_ok nmX1 (10, ix (μ.1 18 (ix t))) (cX_P (μ := ((up2 μ.1 29 (ix t) 1), μ.2)) (hK.or (isT_lt hI q_2).1)) rfl 9 (by decide) (xw_at tW_7 25 rfl) rfl rfl rfl rfl rfl (cw_P9 (μ := ((up2 μ.1 29 (ix t) 1), μ.2)) (h := (hK.or (isT_lt hI q_2).1))) (xdec_at tX4_claim_0 28 rfl) ?_
        refine v_aload_n X (xdec_at tX4_claim_0 29 rfl) rfl rfl ?_
        by_cases h25 : μ.1 25 (ix t) = -1
        · refine x_get (v := .null) X hinX3 (30, ix t) (cX_T (μ := ((up2 μ.1 29 (ix t) 1), (up2 μ.2 8 (ix (μ.1 18 (ix t))) ((μ.2 8 (ix (μ.1 18 (ix t)))) - 4000)))) (isT_lt hI q_2).1) rfl 7 (by decide) (xw_at tW_12 36 rfl) rfl rfl (by show tLeg lay (μ.1 25 (ix t)) = _; rw [tLeg, if_pos h25]) (xdec_at tX4_claim_0 30 rfl) ?_
          refine v_astore_nN (lv' := [some (.ref (lay (0, 0))), some (.int t), some (.ref (lay (30, ix t))), some (.null)]) X (xdec_at tX4_claim_0 31 rfl) rfl (by decide) rfl ?_
          refine v_aload_nN X (xdec_at tX4_claim_0 32 rfl) rfl rfl ?_
          refine v_ifnonnullN X (xdec_at tX4_claim_0 33 rfl) ?_
          refine v_aload_n X (xdec_at tX4_claim_0 34 rfl) rfl rfl ?_
          refine x_get (v := .ref (lay (10, ix (μ.1 24 (ix t))))) X hinX3 (30, ix t) (cX_T (μ := ((up2 μ.1 29 (ix t) 1), (up2 μ.2 8 (ix (μ.1 18 (ix t))) ((μ.2 8 (ix (μ.1 18 (ix t)))) - 4000)))) (isT_lt hI q_2).1) rfl 6 (by decide) (xw_at tW_12 34 rfl) rfl rfl rfl (xdec_at tX4_claim_0 35 rfl) ?_
          refine v_aload_n X (xdec_at tX4_claim_0 36 rfl) rfl rfl ?_
          refine x_get (v := .ref (lay (10, ix (μ.1 18 (ix t))))) X hinX3 (30, ix t) (cX_T (μ := ((up2 μ.1 29 (ix t) 1), (up2 μ.2 8 (ix (μ.1 18 (ix t))) ((μ.2 8 (ix (μ.1 18 (ix t)))) - 4000)))) (isT_lt hI q_2).1) rfl 1 (by decide) (xw_at tW_12 25 rfl) rfl rfl rfl (xdec_at tX4_claim_0 37 rfl) ?_
          refine v_sipush (v := 4000) X (xdec_at tX4_claim_0 38 rfl) (by decide) ?_
          refine v_callS X myX4_payClaim [.ref (lay (10, ix (μ.1 24 (ix t)))), .ref (lay (10, ix (μ.1 18 (ix t)))), .int 4000] [] (kyX4_payClaim l Z B0 lay ((up2 μ.1 29 (ix t) 1), (up2 μ.2 8 (ix (μ.1 18 (ix t))) ((μ.2 8 (ix (μ.1 18 (ix t)))) - 4000))) tb r (ix (μ.1 24 (ix t))) (ix (μ.1 18 (ix t))) (hK.at (isT_lt hI q_2).1) (hK.or (isT_lt hI q_2).1) (P_inj hinj (hK.at (isT_lt hI q_2).1) (hK.or (isT_lt hI q_2).1)) 4000) (xw_at tW_11 29 rfl) rfl rfl (by rfl) (Nat.le_of_ble_eq_true rfl) (xdec_at tX4_claim_0 39 rfl) ⟨(Nat.le_of_ble_eq_true rfl), (Nat.le_of_ble_eq_true rfl)⟩ ⟨(Nat.le_of_ble_eq_true rfl), (Nat.le_of_ble_eq_true rfl)⟩ ?_
          rintro v9 lay9 C9 ⟨rfl, rfl, rfl⟩
          have e78 : (K_pf ((up2 μ.1 29 (ix t) 1), (up2 μ.2 8 (ix (μ.1 18 (ix t))) ((μ.2 8 (ix (μ.1 18 (ix t)))) - 4000))) (ix (μ.1 24 (ix t))) (ix (μ.1 18 (ix t))) 4000) = (M_paysFor ((up2 μ.1 29 (ix t) 1), (up2 μ.2 8 (ix (μ.1 18 (ix t))) ((μ.2 8 (ix (μ.1 18 (ix t)))) - 4000))) (ix t) (μ.1 24 (ix t)) 4000) := pf_eq (μ := ((up2 μ.1 29 (ix t) 1), (up2 μ.2 8 (ix (μ.1 18 (ix t))) ((μ.2 8 (ix (μ.1 18 (ix t)))) - 4000)))) (t := ix t) (hI.at (in_ix (hI.T q_2))) (hI.or (in_ix (hI.T q_2))) 4000
          rw [e78]
          obtain ⟨q9, hq9⟩ : ∃ q9, q9 = (M_paysFor ((up2 μ.1 29 (ix t) 1), (up2 μ.2 8 (ix (μ.1 18 (ix t))) ((μ.2 8 (ix (μ.1 18 (ix t)))) - 4000))) (ix t) (μ.1 24 (ix t)) 4000) := ⟨_, rfl⟩
          rw [← hq9]
          have hf1 : q9.2.1 = (up2 μ.1 29 (ix t) 1) := by rw [hq9]; exact M_paysFor_1 _ _ _ _
          have hm : q9.2 = (up2 μ.1 29 (ix t) 1, q9.2.2) := Prod.ext hf1 rfl
          refine v_mx (μ' := (up2 μ.1 29 (ix t) 1, q9.2.2)) hm ?_
          have e9 : (M_claim μ t).1 = q9.1 ∧ cX Z lay (M_claim μ t).2 tb r = (cX Z lay ((up2 μ.1 29 (ix t) 1), q9.2.2) tb r) ∧ (M_claim μ t).2.1 38 0 = 0 := by
            have g1 : M_claim μ t = M_claimS (th μ 0) (ix t) := by simp [M_claim, (eq_true q_2), (eq_true c_11), c_18, (eq_true c_25), (eq_true h25)]
            rw [g1]
            rw [← hm]; exact claim1 h25 hq9
          exact v_x (v_iret X hr (xdec_at tX4_claim_1 0 rfl) (Nat.le_of_ble_eq_true rfl) (Nat.le_of_ble_eq_true rfl) ⟨rfl, by rw [e9.1], e9.2.2, e9.2.1.symm⟩)
        · have h25g : ix (μ.1 25 (ix t)) < nG μ := (hK.on (isT_lt hI q_2).1).resolve_left h25
          refine x_get (v := .ref (lay (20, ix (μ.1 25 (ix t))))) X hinX3 (30, ix t) (cX_T (μ := ((up2 μ.1 29 (ix t) 1), (up2 μ.2 8 (ix (μ.1 18 (ix t))) ((μ.2 8 (ix (μ.1 18 (ix t)))) - 4000)))) (isT_lt hI q_2).1) rfl 7 (by decide) (xw_at tW_12 36 rfl) rfl rfl (by show tLeg lay (μ.1 25 (ix t)) = _; rw [tLeg, if_neg h25]) (xdec_at tX4_claim_0 30 rfl) ?_
          refine v_astore_n (lv' := [some (.ref (lay (0, 0))), some (.int t), some (.ref (lay (30, ix t))), some (.ref (lay (20, ix (μ.1 25 (ix t)))))]) X (xdec_at tX4_claim_0 31 rfl) rfl (by decide) rfl ?_
          refine v_aload_n X (xdec_at tX4_claim_0 32 rfl) rfl rfl ?_
          refine v_ifnonnullR (tgt := 82) X (xdec_at tX4_claim_0 33 rfl) (by decide) ?_
          refine v_aload_n X (xdec_at tX4_claim_1 1 rfl) rfl rfl ?_
          refine x_get (v := .ref (lay (10, ix (μ.1 11 (ix (μ.1 25 (ix t))))))) X hinX0 (20, ix (μ.1 25 (ix t))) (cX_G (μ := ((up2 μ.1 29 (ix t) 1), (up2 μ.2 8 (ix (μ.1 18 (ix t))) ((μ.2 8 (ix (μ.1 18 (ix t)))) - 4000)))) h25g) rfl 0 (by decide) (xw_at tW_8 32 rfl) rfl rfl rfl (xdec_at tX4_claim_1 2 rfl) ?_
          refine v_aload_n X (xdec_at tX4_claim_1 3 rfl) rfl rfl ?_
          refine x_get (v := .ref (lay (10, ix (μ.1 18 (ix t))))) X hinX3 (30, ix t) (cX_T (μ := ((up2 μ.1 29 (ix t) 1), (up2 μ.2 8 (ix (μ.1 18 (ix t))) ((μ.2 8 (ix (μ.1 18 (ix t)))) - 4000)))) (isT_lt hI q_2).1) rfl 1 (by decide) (xw_at tW_12 25 rfl) rfl rfl rfl (xdec_at tX4_claim_1 4 rfl) ?_
          refine v_sipush (v := 2000) X (xdec_at tX4_claim_1 5 rfl) (by decide) ?_
          refine v_callS X myX4_payClaim [.ref (lay (10, ix (μ.1 11 (ix (μ.1 25 (ix t)))))), .ref (lay (10, ix (μ.1 18 (ix t)))), .int 2000] [] (kyX4_payClaim l Z B0 lay ((up2 μ.1 29 (ix t) 1), (up2 μ.2 8 (ix (μ.1 18 (ix t))) ((μ.2 8 (ix (μ.1 18 (ix t)))) - 4000))) tb r (ix (μ.1 11 (ix (μ.1 25 (ix t))))) (ix (μ.1 18 (ix t))) (hK.g1 h25g) (hK.or (isT_lt hI q_2).1) (P_inj hinj (hK.g1 h25g) (hK.or (isT_lt hI q_2).1)) 2000) (xw_at tW_11 29 rfl) rfl rfl (by rfl) (Nat.le_of_ble_eq_true rfl) (xdec_at tX4_claim_1 6 rfl) ⟨(Nat.le_of_ble_eq_true rfl), (Nat.le_of_ble_eq_true rfl)⟩ ⟨(Nat.le_of_ble_eq_true rfl), (Nat.le_of_ble_eq_true rfl)⟩ ?_
          rintro v9 lay9 C9 ⟨rfl, rfl, rfl⟩
          have e93 : (K_pf ((up2 μ.1 29 (ix t) 1), (up2 μ.2 8 (ix (μ.1 18 (ix t))) ((μ.2 8 (ix (μ.1 18 (ix t)))) - 4000))) (ix (μ.1 11 (ix (μ.1 25 (ix t))))) (ix (μ.1 18 (ix t))) 2000) = (M_paysFor ((up2 μ.1 29 (ix t) 1), (up2 μ.2 8 (ix (μ.1 18 (ix t))) ((μ.2 8 (ix (μ.1 18 (ix t)))) - 4000))) (ix t) (μ.1 11 (ix (μ.1 25 (ix t)))) 2000) := pf_eq (μ := ((up2 μ.1 29 (ix t) 1), (up2 μ.2 8 (ix (μ.1 18 (ix t))) ((μ.2 8 (ix (μ.1 18 (ix t)))) - 4000)))) (t := ix t) (hI.o1 (by have := nG20 hI; omega)) (hI.or (in_ix (hI.T q_2))) 2000
          rw [e93]
          obtain ⟨q9, hq9⟩ : ∃ q9, q9 = (M_paysFor ((up2 μ.1 29 (ix t) 1), (up2 μ.2 8 (ix (μ.1 18 (ix t))) ((μ.2 8 (ix (μ.1 18 (ix t)))) - 4000))) (ix t) (μ.1 11 (ix (μ.1 25 (ix t)))) 2000) := ⟨_, rfl⟩
          rw [← hq9]
          have hf1 : q9.2.1 = (up2 μ.1 29 (ix t) 1) := by rw [hq9]; exact M_paysFor_1 _ _ _ _
          have hm : q9.2 = (up2 μ.1 29 (ix t) 1, q9.2.2) := Prod.ext hf1 rfl
          refine v_mx (μ' := (up2 μ.1 29 (ix t) 1, q9.2.2)) hm ?_
          refine v_aload_n X (xdec_at tX4_claim_1 7 rfl) rfl rfl ?_
          refine x_get (v := .ref (lay (10, ix (μ.1 12 (ix (μ.1 25 (ix t))))))) X hinX0 (20, ix (μ.1 25 (ix t))) (cX_G (μ := ((up2 μ.1 29 (ix t) 1), q9.2.2)) h25g) rfl 1 (by decide) (xw_at tW_8 35 rfl) rfl rfl rfl (xdec_at tX4_claim_1 8 rfl) ?_
          refine v_aload_n X (xdec_at tX4_claim_1 9 rfl) rfl rfl ?_
          refine x_get (v := .ref (lay (10, ix (μ.1 18 (ix t))))) X hinX3 (30, ix t) (cX_T (μ := ((up2 μ.1 29 (ix t) 1), q9.2.2)) (isT_lt hI q_2).1) rfl 1 (by decide) (xw_at tW_12 25 rfl) rfl rfl rfl (xdec_at tX4_claim_1 10 rfl) ?_
          refine v_sipush (v := 2000) X (xdec_at tX4_claim_1 11 rfl) (by decide) ?_
          refine v_callS X myX4_payClaim [.ref (lay (10, ix (μ.1 12 (ix (μ.1 25 (ix t)))))), .ref (lay (10, ix (μ.1 18 (ix t)))), .int 2000] [.int q9.1] (kyX4_payClaim l Z B0 lay ((up2 μ.1 29 (ix t) 1), q9.2.2) tb r (ix (μ.1 12 (ix (μ.1 25 (ix t))))) (ix (μ.1 18 (ix t))) (hK.g2 h25g) (hK.or (isT_lt hI q_2).1) (P_inj hinj (hK.g2 h25g) (hK.or (isT_lt hI q_2).1)) 2000) (xw_at tW_11 29 rfl) rfl rfl (by rfl) (Nat.le_of_ble_eq_true rfl) (xdec_at tX4_claim_1 12 rfl) ⟨(Nat.le_of_ble_eq_true rfl), (Nat.le_of_ble_eq_true rfl)⟩ ⟨(Nat.le_of_ble_eq_true rfl), (Nat.le_of_ble_eq_true rfl)⟩ ?_
          rintro v9 lay9 C9 ⟨rfl, rfl, rfl⟩
          have e107 : (K_pf ((up2 μ.1 29 (ix t) 1), q9.2.2) (ix (μ.1 12 (ix (μ.1 25 (ix t))))) (ix (μ.1 18 (ix t))) 2000) = (M_paysFor ((up2 μ.1 29 (ix t) 1), q9.2.2) (ix t) (μ.1 12 (ix (μ.1 25 (ix t)))) 2000) := pf_eq (μ := ((up2 μ.1 29 (ix t) 1), q9.2.2)) (t := ix t) (hI.o2 (by have := nG20 hI; omega)) (hI.or (in_ix (hI.T q_2))) 2000
          rw [e107]
          refine v_iadd X (xdec_at tX4_claim_1 13 rfl) ?_
          have e9 : (M_claim μ t).1 = (q9.1 + (M_paysFor ((up2 μ.1 29 (ix t) 1), q9.2.2) (ix t) (μ.1 12 (ix (μ.1 25 (ix t)))) 2000).1) ∧ cX Z lay (M_claim μ t).2 tb r = (cX Z lay (M_paysFor ((up2 μ.1 29 (ix t) 1), q9.2.2) (ix t) (μ.1 12 (ix (μ.1 25 (ix t)))) 2000).2 tb r) ∧ (M_claim μ t).2.1 38 0 = 0 := by
            have g1 : M_claim μ t = M_claimS (th μ 0) (ix t) := by simp [M_claim, (eq_true q_2), (eq_true c_11), c_18, (eq_true c_25), h25]
            rw [g1]
            rw [← hm]; exact claim2 h25 hq9
          exact v_x (v_iret X hr (xdec_at tX4_claim_1 14 rfl) (Nat.le_of_ble_eq_true rfl) (Nat.le_of_ble_eq_true rfl) ⟨rfl, by rw [e9.1], e9.2.2, e9.2.1.symm⟩)
      · exact v_throw X hE hl0 (text := "nothing can be claimed for the thing") xinS xkS xiS (List.mem_of_getElem? (i := 12) rfl) xfS (xdec_at tX4_claim_0 14 rfl) (xdec_at tX4_claim_0 15 rfl) (xdec_at tX4_claim_0 16 rfl) (xdec_at tX4_claim_0 17 rfl) (xdec_at tX4_claim_0 18 rfl) ⟨(Nat.le_of_ble_eq_true rfl), (Nat.le_of_ble_eq_true rfl), (Nat.le_of_ble_eq_true rfl), (Nat.le_of_ble_eq_true rfl)⟩ ⟨(Nat.le_of_ble_eq_true rfl), (Nat.le_of_ble_eq_true rfl)⟩ (Or.inr ((⟨rfl, by simp [M_claim, up2_at, (eq_true q_2), (eq_true c_11), c_18, c_25]⟩)))
set_option maxRecDepth 100000 in
set_option maxHeartbeats 4000000 in
theorem kyX4_settlePair (l : Launch) (Z : xZ) (B0 : Nat) (lay : xK → Nat) (μ : Mu) (tb : Tb) (r : xK → Option xE) (i j : Nat) (hi : i < nP μ) (hj : j < nP μ) (hj8 : j < 8) (f : Int32) : YM l yX4_settlePair cX4_settlePair 5 ((some FieldType.long)) 1 23 0 0 Z B0 [.ref (lay (10, i)), .ref (lay (10, j)), .int f] lay (cX Z lay μ tb r) (fun v lay' C' => lay = lay' ∧ v = some (.long (μ.2 9 (8 * i + j) * f.toInt64)) ∧ C' = cX Z lay (S1 f (8 * i + j) (0, μ)).2 tb r) := by
  refine YM_of myX4_settlePair.2 RX4 rfl [some (.ref (lay (10, i))), some (.ref (lay (10, j))), some (.int f), none, none] rfl (Nat.le_of_ble_eq_true rfl) ?_
  intro P1 P2 P3 P4 P5 P6 P7 P8 X hr hnm
  refine v_aload_n X (xdec_at tX4_settlePair_0 0 rfl) rfl rfl ?_
  refine x_get (v := .ref (lay (14, i))) X hinX1 (10, i) (cX_P (μ := μ) hi) rfl 4 (by decide) (xw_at tW_7 15 rfl) rfl rfl rfl (xdec_at tX4_settlePair_0 1 rfl) ?_
  refine v_aload_n X (xdec_at tX4_settlePair_0 2 rfl) rfl rfl ?_
  refine x_get (v := .int (nI j)) X hinX1 (10, j) (cX_P (μ := μ) hj) rfl 0 (by decide) (xw_at tW_7 6 rfl) rfl rfl rfl (xdec_at tX4_settlePair_0 3 rfl) ?_
  refine x_lald (v := (μ.2 9 (8 * i + j))) X (14, i) (cX_c (μ := μ) hi) (vp_in_nI hj8 (by decide)) rfl (row8n hj8) (xdec_at tX4_settlePair_0 4 rfl) ?_
  refine v_iload_n X (xdec_at tX4_settlePair_0 5 rfl) rfl rfl ?_
  refine v_i2l X (xdec_at tX4_settlePair_0 6 rfl) rfl ?_
  refine v_lmul X (xdec_at tX4_settlePair_0 7 rfl) ?_
  refine v_lstore_n (lv' := [some (.ref (lay (10, i))), some (.ref (lay (10, j))), some (.int f), some (.long ((μ.2 9 (8 * i + j)) * (f).toInt64)), none]) X (xdec_at tX4_settlePair_0 8 rfl) rfl (by decide) rfl ?_
  refine v_aload_n X (xdec_at tX4_settlePair_0 9 rfl) rfl rfl ?_
  refine x_get (v := .ref (lay (14, i))) X hinX1 (10, i) (cX_P (μ := μ) hi) rfl 4 (by decide) (xw_at tW_7 15 rfl) rfl rfl rfl (xdec_at tX4_settlePair_0 10 rfl) ?_
  refine v_aload_n X (xdec_at tX4_settlePair_0 11 rfl) rfl rfl ?_
  refine x_get (v := .int (nI j)) X hinX1 (10, j) (cX_P (μ := μ) hj) rfl 0 (by decide) (xw_at tW_7 6 rfl) rfl rfl rfl (xdec_at tX4_settlePair_0 12 rfl) ?_
  refine v_lconst (v := 0) X (xdec_at tX4_settlePair_0 13 rfl) (by decide) ?_
  refine x_last (C' := (cX Z lay (μ.1, (up2 μ.2 9 (8 * i + j) 0)) tb r)) X (14, i) (cX_c (μ := μ) hi) (vp_in_nI hj8 (by decide)) rfl (by rw [show (nI j).toNatClampNeg = j from ix_nI (by omega)]; exact cw_c (μ := μ) (h := hi) hj8) (xdec_at tX4_settlePair_0 14 rfl) ?_
  refine v_aload_n X (xdec_at tX4_settlePair_0 15 rfl) rfl rfl ?_
  refine v_aload_n X (xdec_at tX4_settlePair_0 16 rfl) rfl rfl ?_
  refine v_lload_n X (xdec_at tX4_settlePair_0 17 rfl) rfl rfl ?_
  refine v_callS X myX4_pay [.ref (lay (10, i)), .ref (lay (10, j)), .long ((μ.2 9 (8 * i + j)) * (f).toInt64)] [] (kyX4_pay l Z B0 lay (μ.1, (up2 μ.2 9 (8 * i + j) 0)) tb r i j hi hj ((μ.2 9 (8 * i + j)) * (f).toInt64)) (xw_at tW_10 35 rfl) rfl rfl (by rfl) (Nat.le_of_ble_eq_true rfl) (xdec_at tX4_settlePair_0 18 rfl) ⟨(Nat.le_of_ble_eq_true rfl), (Nat.le_of_ble_eq_true rfl)⟩ ⟨(Nat.le_of_ble_eq_true rfl), (Nat.le_of_ble_eq_true rfl)⟩ ?_
  rintro v9 lay9 C9 ⟨rfl, rfl, rfl⟩
  refine v_lload_n X (xdec_at tX4_settlePair_0 19 rfl) rfl rfl ?_
  exact v_lret X hr (xdec_at tX4_settlePair_0 20 rfl) (Nat.le_of_ble_eq_true rfl) (Nat.le_of_ble_eq_true rfl) ⟨rfl, rfl, by rw [pay_zero hj8]; rfl⟩
set_option maxRecDepth 100000 in
set_option maxHeartbeats 4000000 in
theorem kyX4_settle (l : Launch) (hl0 : l.stackTraces = false) (Z : xZ) (B0 : Nat) (lay : xK → Nat) (μ : Mu) (tb : Tb) (r : xK → Option xE)  (hI : RI μ) (f : Int32) (hK : KI μ) : YX l yX4_settle cX4_settle 6 ((some FieldType.long)) 7 112 1 6 Z B0 [.ref (lay (0, 0)), .int f] lay (cX Z lay μ tb r) (fun v lay' C' => lay = lay' ∧ v = some (.long (M_settle μ f).1) ∧ (M_settle μ f).2.1 38 0 = 0 ∧ C' = cX Z lay (M_settle μ f).2 tb r) (fun E => (E = eA ∧ (M_settle μ f).2.1 38 0 = 1)) := by
  refine YX_of myX4_settle.2.2 RX4 rfl [some (.ref (lay (0, 0))), some (.int f), none, none, none, none] rfl (Nat.le_of_ble_eq_true rfl) ?_
  intro P1 P2 P3 P4 P5 P6 P7 P8 X hr hE
  obtain ⟨P, hP8, eP⟩ := hI.1
  have hPn := nP_of hP8 eP
  refine v_iload_n X (xdec_at tX4_settle_0 0 rfl) rfl rfl ?_
  refine v_iconst (v := 1) X (xdec_at tX4_settle_0 1 rfl) (by decide) ?_
  refine v_sipush (v := 1000) X (xdec_at tX4_settle_0 2 rfl) (by decide) ?_
  refine v_xS X hE myX4_demandWithin [.int f, .int 1, .int 1000] [] (kyX4_demandWithin l hl0 Z B0 lay (cX Z lay μ tb r) f 1 1000) (xw_at tW_5 5 rfl) rfl rfl (by rfl) (Nat.le_of_ble_eq_true rfl) (xdec_at tX4_settle_0 3 rfl) ⟨(Nat.le_of_ble_eq_true rfl), (Nat.le_of_ble_eq_true rfl)⟩ ⟨(Nat.le_of_ble_eq_true rfl), (Nat.le_of_ble_eq_true rfl)⟩ ⟨(Nat.le_of_ble_eq_true rfl), (Nat.le_of_ble_eq_true rfl)⟩ (fun E h9 => (⟨h9.1, by simp [M_settle, up2_at, h9.2]⟩)) ?_
  rintro v9 lay9 C9 ⟨rfl, rfl, rfl, q_5⟩
  refine v_lconst (v := 0) X (xdec_at tX4_settle_0 4 rfl) (by decide) ?_
  refine v_lstore_n (lv' := [some (.ref (lay (0, 0))), some (.int f), some (.long 0), none, none, none]) X (xdec_at tX4_settle_0 5 rfl) rfl (by decide) rfl ?_
  refine v_iconst (v := 0) X (xdec_at tX4_settle_0 6 rfl) (by decide) ?_
  refine v_istore (lv' := [some (.ref (lay (0, 0))), some (.int f), some (.long 0), none, some (.int 0), none]) X (xdec_at tX4_settle_0 7 rfl) (by decide) rfl ?_
  rw [← cX_th (μ := μ) 0]
  refine v_for P (fun j9 => cX Z lay (K_s2 f P j9 (0, th μ 0)).2 tb r) (fun j9 => [some (.ref (lay (0, 0))), some (.int f), some (.long (K_s2 f P j9 (0, th μ 0)).1), none, some (.int (nI j9)), none]) 13 [] (fun i1 hi1 ih1 => ?_) ?_
  · obtain ⟨q, hq⟩ : ∃ q, q = K_s2 f P i1 (0, th μ 0) := ⟨_, rfl⟩
    have hq0 : q.2.1 = (th μ 0).1 := by rw [hq]; exact K_s2_1 _ _ _ _
    refine v_mx (μ' := q.2) (by rw [hq]) ?_
    refine v_le (lv' := [some (.ref (lay (0, 0))), some (.int f), some (.long q.1), none, some (.int (nI i1)), none]) (by simp [xle, hq]) ?_
    refine v_iload X (xdec_at tX4_settle_0 8 rfl) rfl ?_
    refine v_aload_n X (xdec_at tX4_settle_0 9 rfl) rfl rfl ?_
    refine x_get (v := .int (q.2.1 0 0)) X hinX4 (0, 0) cX_X rfl 3 (by decide) (xw_at tW_2 16 rfl) rfl rfl rfl (xdec_at tX4_settle_0 10 rfl) ?_
    refine v_icmp_ge (tgt := 67) X (xdec_at tX4_settle_0 11 rfl) (by decide) (fun c_19 => ?_) (fun c_19 => ?_)
    · exact absurd c_19 (by rw [hq0]; show ¬ μ.1 0 0 ≤ _; rw [eP]; exact nI_ge hi1 (by omega))
    · refine v_iconst (v := 0) X (xdec_at tX4_settle_0 12 rfl) (by decide) ?_
      refine v_istore (lv' := [some (.ref (lay (0, 0))), some (.int f), some (.long q.1), none, some (.int (nI i1)), some (.int 0)]) X (xdec_at tX4_settle_0 13 rfl) (by decide) rfl ?_
      refine v_for P (fun j9 => cX Z lay (K_s1 f i1 j9 q).2 tb r) (fun j9 => [some (.ref (lay (0, 0))), some (.int f), some (.long (K_s1 f i1 j9 q).1), none, some (.int (nI i1)), some (.int (nI j9))]) 25 [] (fun i2 hi2 ih2 => ?_) ?_
      · obtain ⟨u, hu⟩ : ∃ u, u = K_s1 f i1 i2 q := ⟨_, rfl⟩
        have hu0 : u.2.1 = (th μ 0).1 := by rw [hu, K_s1_1]; exact hq0
        have hPu : nP u.2 = P := by show ix (u.2.1 0 0) = P; rw [hu0]; exact hPn
        refine v_mx (μ' := u.2) (by rw [hu]) ?_
        refine v_le (lv' := [some (.ref (lay (0, 0))), some (.int f), some (.long u.1), none, some (.int (nI i1)), some (.int (nI i2))]) (by simp [xle, hu]) ?_
        refine v_iload X (xdec_at tX4_settle_0 14 rfl) rfl ?_
        refine v_aload_n X (xdec_at tX4_settle_0 15 rfl) rfl rfl ?_
        refine x_get (v := .int (u.2.1 0 0)) X hinX4 (0, 0) cX_X rfl 3 (by decide) (xw_at tW_2 16 rfl) rfl rfl rfl (xdec_at tX4_settle_0 16 rfl) ?_
        refine v_icmp_ge (tgt := 61) X (xdec_at tX4_settle_0 17 rfl) (by decide) (fun c_31 => ?_) (fun c_31 => ?_)
        · exact absurd c_31 (by rw [hu0]; show ¬ μ.1 0 0 ≤ _; rw [eP]; exact nI_ge hi2 (by omega))
        · refine v_lload_n X (xdec_at tX4_settle_0 18 rfl) rfl rfl ?_
          refine v_aload_n X (xdec_at tX4_settle_0 19 rfl) rfl rfl ?_
          refine x_get (v := .ref (lay (1, 0))) X hinX4 (0, 0) cX_X rfl 0 (by decide) (xw_at tW_2 13 rfl) rfl rfl rfl (xdec_at tX4_settle_0 20 rfl) ?_
          refine v_iload X (xdec_at tX4_settle_0 21 rfl) rfl ?_
          refine x_aald3 (v := .ref (lay (10, i1))) X (1, 0) cX_ps (vp_in_nI (n := i1) (N := 8) (by omega) (by decide)) rfl (aq_rf (f := fun i => lay (10, i)) (ix_nI (by omega)) (show i1 < nP u.2 by rw [hPu]; exact hi1)) (xdec_at tX4_settle_0 22 rfl) ?_
          refine v_aload_n X (xdec_at tX4_settle_0 23 rfl) rfl rfl ?_
          refine x_get (v := .ref (lay (1, 0))) X hinX4 (0, 0) cX_X rfl 0 (by decide) (xw_at tW_2 13 rfl) rfl rfl rfl (xdec_at tX4_settle_0 24 rfl) ?_
          refine v_iload X (xdec_at tX4_settle_0 25 rfl) rfl ?_
          refine x_aald3 (v := .ref (lay (10, i2))) X (1, 0) cX_ps (vp_in_nI (n := i2) (N := 8) (by omega) (by decide)) rfl (aq_rf (f := fun i => lay (10, i)) (ix_nI (by omega)) (show i2 < nP u.2 by rw [hPu]; exact hi2)) (xdec_at tX4_settle_0 26 rfl) ?_
          refine v_iload_n X (xdec_at tX4_settle_0 27 rfl) rfl rfl ?_
          refine v_callS X myX4_settlePair [.ref (lay (10, i1)), .ref (lay (10, i2)), .int f] [.long u.1] (kyX4_settlePair l Z B0 lay u.2 tb r i1 i2 (show i1 < nP u.2 by rw [hPu]; exact hi1) (show i2 < nP u.2 by rw [hPu]; exact hi2) (by omega) f) (xw_at tW_14 2 rfl) rfl rfl (by rfl) (Nat.le_of_ble_eq_true rfl) (xdec_at tX4_settle_0 28 rfl) ⟨(Nat.le_of_ble_eq_true rfl), (Nat.le_of_ble_eq_true rfl)⟩ ⟨(Nat.le_of_ble_eq_true rfl), (Nat.le_of_ble_eq_true rfl)⟩ ?_
          rintro v9 lay9 C9 ⟨rfl, rfl, rfl⟩
          refine v_ladd X (xdec_at tX4_settle_0 29 rfl) ?_
          refine v_lstore_n (lv' := [some (.ref (lay (0, 0))), some (.int f), some (.long (u.1 + (u.2.2 9 (8 * i1 + i2) * f.toInt64))), none, some (.int (nI i1)), some (.int (nI i2))]) X (xdec_at tX4_settle_0 30 rfl) rfl (by decide) rfl ?_
          refine v_iinc (v := (nI (i2 + 1))) (lv' := [some (.ref (lay (0, 0))), some (.int f), some (.long (u.1 + (u.2.2 9 (8 * i1 + i2) * f.toInt64))), none, some (.int (nI i1)), some (.int (nI (i2 + 1)))]) X (xdec_at tX4_settle_0 31 rfl) rfl (nI_1 _) (by decide) rfl ?_
          refine v_goto (tgt := 25) X (xdec_at tX4_settle_0 32 rfl) (by decide) ?_
          refine v_le (lv' := [some (.ref (lay (0, 0))), some (.int f), some (.long (K_s1 f i1 (i2 + 1) q).1), none, some (.int (nI i1)), some (.int (nI (i2 + 1)))]) (by simp [xle, K_s1, ← hu, S1]) ?_
          exact v_mx (μ' := (K_s1 f i1 (i2 + 1) q).2) (by rw [K_s1, ← hu]; rfl) ih2
      · obtain ⟨u, hU⟩ : ∃ u, u = K_s1 f i1 P q := ⟨_, rfl⟩
        have hu0 : u.2.1 = (th μ 0).1 := by rw [hU, K_s1_1]; exact hq0
        refine v_mx (μ' := u.2) (by rw [hU]) ?_
        refine v_le (lv' := [some (.ref (lay (0, 0))), some (.int f), some (.long u.1), none, some (.int (nI i1)), some (.int (nI P))]) (by simp [xle, hU]) ?_
        refine v_iload X (xdec_at tX4_settle_0 14 rfl) rfl ?_
        refine v_aload_n X (xdec_at tX4_settle_0 15 rfl) rfl rfl ?_
        refine x_get (v := .int (u.2.1 0 0)) X hinX4 (0, 0) cX_X rfl 3 (by decide) (xw_at tW_2 16 rfl) rfl rfl rfl (xdec_at tX4_settle_0 16 rfl) ?_
        refine v_icmp_ge (tgt := 61) X (xdec_at tX4_settle_0 17 rfl) (by decide) (fun c_31 => ?_) (fun c_31 => ?_)
        · refine v_iinc (v := (nI (i1 + 1))) (lv' := [some (.ref (lay (0, 0))), some (.int f), some (.long u.1), none, some (.int (nI (i1 + 1))), some (.int (nI P))]) X (xdec_at tX4_settle_0 33 rfl) rfl (nI_1 _) (by decide) rfl ?_
          refine v_goto (tgt := 13) X (xdec_at tX4_settle_0 34 rfl) (by decide) ?_
          refine v_le (lv' := [some (.ref (lay (0, 0))), some (.int f), some (.long (K_s2 f P (i1 + 1) (0, th μ 0)).1), none, some (.int (nI (i1 + 1))), none]) (by simp [xle, K_s2, ← hq, ← hU]) ?_
          exact v_mx (μ' := (K_s2 f P (i1 + 1) (0, th μ 0)).2) (by rw [K_s2, ← hq, ← hU]) ih1
        · exact absurd (show u.2.1 0 0 ≤ nI P by rw [hu0]; show μ.1 0 0 ≤ _; rw [eP]; exact Int32.le_refl _) c_31
  · obtain ⟨q, hq⟩ : ∃ q, q = K_s2 f P P (0, th μ 0) := ⟨_, rfl⟩
    have hq0 : q.2.1 = (th μ 0).1 := by rw [hq]; exact K_s2_1 _ _ _ _
    refine v_mx (μ' := q.2) (by rw [hq]) ?_
    refine v_le (lv' := [some (.ref (lay (0, 0))), some (.int f), some (.long q.1), none, some (.int (nI P)), none]) (by simp [xle, hq]) ?_
    refine v_iload X (xdec_at tX4_settle_0 8 rfl) rfl ?_
    refine v_aload_n X (xdec_at tX4_settle_0 9 rfl) rfl rfl ?_
    refine x_get (v := .int (q.2.1 0 0)) X hinX4 (0, 0) cX_X rfl 3 (by decide) (xw_at tW_2 16 rfl) rfl rfl rfl (xdec_at tX4_settle_0 10 rfl) ?_
    refine v_icmp_ge (tgt := 67) X (xdec_at tX4_settle_0 11 rfl) (by decide) (fun c_19 => ?_) (fun c_19 => ?_)
    · refine v_lload_n X (xdec_at tX4_settle_0 35 rfl) rfl rfl ?_
      have e9 : M_settle μ f = q := by rw [M_settle, if_pos q_5, hq]; exact (settle_eq hP8 (by have h9 := hK.2.2.2.1; unfold KC at h9; rw [hPn] at h9; exact h9)).symm
      exact v_x (v_lret X hr (xdec_at tX4_settle_0 36 rfl) (Nat.le_of_ble_eq_true rfl) (Nat.le_of_ble_eq_true rfl) ⟨rfl, by rw [e9], by rw [e9, hq0]; rfl, by rw [e9]⟩)
    · exact absurd (show q.2.1 0 0 ≤ nI P by rw [hq0]; show μ.1 0 0 ≤ _; rw [eP]; exact Int32.le_refl _) c_19
set_option maxRecDepth 100000 in
set_option maxHeartbeats 4000000 in
theorem kyX4_gain (l : Launch) (hl0 : l.stackTraces = false) (Z : xZ) (B0 : Nat) (lay : xK → Nat) (μ : Mu) (tb : Tb) (r : xK → Option xE)  (hI : RI μ) (w : Int32) (hK : KI μ) : YX l yX4_gain cX4_gain 8 ((some FieldType.int)) 7 112 1 6 Z B0 [.ref (lay (0, 0)), .int w] lay (cX Z lay μ tb r) (fun v lay' C' => lay = lay' ∧ v = some (.int (M_gain μ w).1) ∧ (M_gain μ w).2.1 38 0 = 0 ∧ C' = cX Z lay (M_gain μ w).2 tb r) (fun E => (E = eA ∧ (M_gain μ w).2.1 38 0 = 1)) := by
  refine YX_of myX4_gain.2.2 RX4 rfl [some (.ref (lay (0, 0))), some (.int w), none, none, none, none, none, none] rfl (Nat.le_of_ble_eq_true rfl) ?_
  intro P1 P2 P3 P4 P5 P6 P7 P8 X hr hE
  obtain ⟨P, hP8, eP⟩ := hI.1
  have hPn := nP_of hP8 eP
  refine v_inj fun hinj => ?_
  refine v_iload_n X (xdec_at tX4_gain_0 0 rfl) rfl rfl ?_
  refine v_iconst (v := 0) X (xdec_at tX4_gain_0 1 rfl) (by decide) ?_
  refine v_iconst (v := 2) X (xdec_at tX4_gain_0 2 rfl) (by decide) ?_
  refine v_xS X hE myX4_demandWithin [.int w, .int 0, .int 2] [] (kyX4_demandWithin l hl0 Z B0 lay (cX Z lay μ tb r) w 0 2) (xw_at tW_5 5 rfl) rfl rfl (by rfl) (Nat.le_of_ble_eq_true rfl) (xdec_at tX4_gain_0 3 rfl) ⟨(Nat.le_of_ble_eq_true rfl), (Nat.le_of_ble_eq_true rfl)⟩ ⟨(Nat.le_of_ble_eq_true rfl), (Nat.le_of_ble_eq_true rfl)⟩ ⟨(Nat.le_of_ble_eq_true rfl), (Nat.le_of_ble_eq_true rfl)⟩ (fun E h9 => (⟨h9.1, by simp [M_gain, up2_at, h9.2]⟩)) ?_
  rintro v9 lay9 C9 ⟨rfl, rfl, rfl, q_3⟩
  refine v_iconst (v := 0) X (xdec_at tX4_gain_0 4 rfl) (by decide) ?_
  refine v_istore_n (lv' := [some (.ref (lay (0, 0))), some (.int w), some (.int 0), none, none, none, none, none]) X (xdec_at tX4_gain_0 5 rfl) rfl (by decide) rfl ?_
  refine v_iconst (v := (-1)) X (xdec_at tX4_gain_0 6 rfl) (by decide) ?_
  refine v_istore_n (lv' := [some (.ref (lay (0, 0))), some (.int w), some (.int 0), some (.int (-1)), none, none, none, none]) X (xdec_at tX4_gain_0 7 rfl) rfl (by decide) rfl ?_
  refine v_iconst (v := (-1)) X (xdec_at tX4_gain_0 8 rfl) (by decide) ?_
  refine v_istore (lv' := [some (.ref (lay (0, 0))), some (.int w), some (.int 0), some (.int (-1)), some (.int (-1)), none, none, none]) X (xdec_at tX4_gain_0 9 rfl) (by decide) rfl ?_
  refine v_iconst (v := 0) X (xdec_at tX4_gain_0 10 rfl) (by decide) ?_
  refine v_istore (lv' := [some (.ref (lay (0, 0))), some (.int w), some (.int 0), some (.int (-1)), some (.int (-1)), some (.int 0), none, none]) X (xdec_at tX4_gain_0 11 rfl) (by decide) rfl ?_
  refine v_for P (fun j9 => cX Z lay μ tb r) (fun j9 => [some (.ref (lay (0, 0))), some (.int w), some (.int (K_g4 μ P j9 (0, -1, -1)).1), some (.int (K_g4 μ P j9 (0, -1, -1)).2.1), some (.int (K_g4 μ P j9 (0, -1, -1)).2.2), some (.int (nI j9)), none, none]) 16 [] (fun i1 hi1 ih1 => ?_) ?_
  · obtain ⟨q, hq⟩ : ∃ z, z = K_g4 μ P i1 (0, -1, -1) := ⟨_, rfl⟩
    refine v_le (lv' := [some (.ref (lay (0, 0))), some (.int w), some (.int q.1), some (.int q.2.1), some (.int q.2.2), some (.int (nI i1)), none, none]) (by simp [xle, hq]) ?_
    refine v_iload X (xdec_at tX4_gain_0 12 rfl) rfl ?_
    refine v_aload_n X (xdec_at tX4_gain_0 13 rfl) rfl rfl ?_
    refine x_get (v := .int (μ.1 0 0)) X hinX4 (0, 0) cX_X rfl 3 (by decide) (xw_at tW_2 16 rfl) rfl rfl rfl (xdec_at tX4_gain_0 14 rfl) ?_
    refine v_icmp_ge (tgt := 84) X (xdec_at tX4_gain_0 15 rfl) (by decide) (fun c_22 => ?_) (fun c_22 => ?_)
    · exact absurd c_22 (by rw [eP]; exact nI_ge hi1 (by omega))
    · refine v_iconst (v := 0) X (xdec_at tX4_gain_0 16 rfl) (by decide) ?_
      refine v_istore (lv' := [some (.ref (lay (0, 0))), some (.int w), some (.int q.1), some (.int q.2.1), some (.int q.2.2), some (.int (nI i1)), some (.int 0), none]) X (xdec_at tX4_gain_0 17 rfl) (by decide) rfl ?_
      refine v_for P (fun j9 => cX Z lay μ tb r) (fun j9 => [some (.ref (lay (0, 0))), some (.int w), some (.int (K_g3 μ i1 j9 q).1), some (.int (K_g3 μ i1 j9 q).2.1), some (.int (K_g3 μ i1 j9 q).2.2), some (.int (nI i1)), some (.int (nI j9)), none]) 28 [] (fun i2 hi2 ih2 => ?_) ?_
      · obtain ⟨u, hu⟩ : ∃ z, z = K_g3 μ i1 i2 q := ⟨_, rfl⟩
        refine v_le (lv' := [some (.ref (lay (0, 0))), some (.int w), some (.int u.1), some (.int u.2.1), some (.int u.2.2), some (.int (nI i1)), some (.int (nI i2)), none]) (by simp [xle, hu]) ?_
        refine v_iload X (xdec_at tX4_gain_0 18 rfl) rfl ?_
        refine v_aload_n X (xdec_at tX4_gain_0 19 rfl) rfl rfl ?_
        refine x_get (v := .int (μ.1 0 0)) X hinX4 (0, 0) cX_X rfl 3 (by decide) (xw_at tW_2 16 rfl) rfl rfl rfl (xdec_at tX4_gain_0 20 rfl) ?_
        refine v_icmp_ge (tgt := 78) X (xdec_at tX4_gain_0 21 rfl) (by decide) (fun c_34 => ?_) (fun c_34 => ?_)
        · exact absurd c_34 (by rw [eP]; exact nI_ge hi2 (by omega))
        · refine v_aload_n X (xdec_at tX4_gain_0 22 rfl) rfl rfl ?_
          refine x_get (v := .ref (lay (1, 0))) X hinX4 (0, 0) cX_X rfl 0 (by decide) (xw_at tW_2 13 rfl) rfl rfl rfl (xdec_at tX4_gain_0 23 rfl) ?_
          refine v_iload X (xdec_at tX4_gain_0 24 rfl) rfl ?_
          refine x_aald3 (v := .ref (lay (10, i1))) X (1, 0) cX_ps (vp_in_nI (n := i1) (N := 8) (by omega) (by decide)) rfl (aq_rf (f := fun i => lay (10, i)) (ix_nI (by omega)) (show i1 < nP μ by rw [hPn]; exact hi1)) (xdec_at tX4_gain_0 25 rfl) ?_
          refine v_aload_n X (xdec_at tX4_gain_0 26 rfl) rfl rfl ?_
          refine x_get (v := .ref (lay (1, 0))) X hinX4 (0, 0) cX_X rfl 0 (by decide) (xw_at tW_2 13 rfl) rfl rfl rfl (xdec_at tX4_gain_0 27 rfl) ?_
          refine v_iload X (xdec_at tX4_gain_0 28 rfl) rfl ?_
          refine x_aald3 (v := .ref (lay (10, i2))) X (1, 0) cX_ps (vp_in_nI (n := i2) (N := 8) (by omega) (by decide)) rfl (aq_rf (f := fun i => lay (10, i)) (ix_nI (by omega)) (show i2 < nP μ by rw [hPn]; exact hi2)) (xdec_at tX4_gain_0 29 rfl) ?_
          refine v_callS X myX4_gainOf [.ref (lay (10, i1)), .ref (lay (10, i2))] [] (kyX4_gainOf l Z B0 lay μ tb r i1 i2 (show i1 < nP μ by rw [hPn]; exact hi1) (show i2 < nP μ by rw [hPn]; exact hi2) (P_inj hinj (show i1 < nP μ by rw [hPn]; exact hi1) (show i2 < nP μ by rw [hPn]; exact hi2))) (xw_at tW_6 6 rfl) rfl rfl (by rfl) (Nat.le_of_ble_eq_true rfl) (xdec_at tX4_gain_0 30 rfl) ⟨(Nat.le_of_ble_eq_true rfl), (Nat.le_of_ble_eq_true rfl)⟩ ⟨(Nat.le_of_ble_eq_true rfl), (Nat.le_of_ble_eq_true rfl)⟩ ?_
          rintro v9 lay9 C9 ⟨rfl, rfl, rfl⟩
          refine v_istore (lv' := [some (.ref (lay (0, 0))), some (.int w), some (.int u.1), some (.int u.2.1), some (.int u.2.2), some (.int (nI i1)), some (.int (nI i2)), some (.int (K_gainOf μ i1 i2))]) X (xdec_at tX4_gain_0 31 rfl) (by decide) rfl ?_
          refine v_iload X (xdec_at tX4_gain_0 32 rfl) rfl ?_
          refine v_iload_n X (xdec_at tX4_gain_0 33 rfl) rfl rfl ?_
          refine v_icmp_le (tgt := 72) X (xdec_at tX4_gain_0 34 rfl) (by decide) (fun c_59 => ?_) (fun c_59 => ?_)
          · refine v_iinc (v := (nI (i2 + 1))) (lv' := [some (.ref (lay (0, 0))), some (.int w), some (.int u.1), some (.int u.2.1), some (.int u.2.2), some (.int (nI i1)), some (.int (nI (i2 + 1))), some (.int (K_gainOf μ i1 i2))]) X (xdec_at tX4_gain_1 1 rfl) rfl (nI_1 _) (by decide) rfl ?_
            refine v_goto (tgt := 28) X (xdec_at tX4_gain_1 2 rfl) (by decide) ?_
            refine v_le (lv' := [some (.ref (lay (0, 0))), some (.int w), some (.int (K_g3 μ i1 (i2 + 1) q).1), some (.int (K_g3 μ i1 (i2 + 1) q).2.1), some (.int (K_g3 μ i1 (i2 + 1) q).2.2), some (.int (nI i1)), some (.int (nI (i2 + 1))), none]) (by simp [xle, K_g3, ← hu, K_gs, c_59]) ?_
            exact v_mx (μ' := μ) (by rfl) ih2
          · refine v_iload X (xdec_at tX4_gain_0 35 rfl) rfl ?_
            refine v_istore_n (lv' := [some (.ref (lay (0, 0))), some (.int w), some (.int (K_gainOf μ i1 i2)), some (.int u.2.1), some (.int u.2.2), some (.int (nI i1)), some (.int (nI i2)), some (.int (K_gainOf μ i1 i2))]) X (xdec_at tX4_gain_0 36 rfl) rfl (by decide) rfl ?_
            refine v_iload X (xdec_at tX4_gain_0 37 rfl) rfl ?_
            refine v_istore_n (lv' := [some (.ref (lay (0, 0))), some (.int w), some (.int (K_gainOf μ i1 i2)), some (.int (nI i1)), some (.int u.2.2), some (.int (nI i1)), some (.int (nI i2)), some (.int (K_gainOf μ i1 i2))]) X (xdec_at tX4_gain_0 38 rfl) rfl (by decide) rfl ?_
            refine v_iload X (xdec_at tX4_gain_0 39 rfl) rfl ?_
            refine v_istore (lv' := [some (.ref (lay (0, 0))), some (.int w), some (.int (K_gainOf μ i1 i2)), some (.int (nI i1)), some (.int (nI i2)), some (.int (nI i1)), some (.int (nI i2)), some (.int (K_gainOf μ i1 i2))]) X (xdec_at tX4_gain_1 0 rfl) (by decide) rfl ?_
            refine v_iinc (v := (nI (i2 + 1))) (lv' := [some (.ref (lay (0, 0))), some (.int w), some (.int (K_gainOf μ i1 i2)), some (.int (nI i1)), some (.int (nI i2)), some (.int (nI i1)), some (.int (nI (i2 + 1))), some (.int (K_gainOf μ i1 i2))]) X (xdec_at tX4_gain_1 1 rfl) rfl (nI_1 _) (by decide) rfl ?_
            refine v_goto (tgt := 28) X (xdec_at tX4_gain_1 2 rfl) (by decide) ?_
            refine v_le (lv' := [some (.ref (lay (0, 0))), some (.int w), some (.int (K_g3 μ i1 (i2 + 1) q).1), some (.int (K_g3 μ i1 (i2 + 1) q).2.1), some (.int (K_g3 μ i1 (i2 + 1) q).2.2), some (.int (nI i1)), some (.int (nI (i2 + 1))), none]) (by simp [xle, K_g3, ← hu, K_gs, c_59]) ?_
            exact v_mx (μ' := μ) (by rfl) ih2
      · obtain ⟨u, hU⟩ : ∃ z, z = K_g3 μ i1 P q := ⟨_, rfl⟩
        refine v_le (lv' := [some (.ref (lay (0, 0))), some (.int w), some (.int u.1), some (.int u.2.1), some (.int u.2.2), some (.int (nI i1)), some (.int (nI P)), none]) (by simp [xle, hU]) ?_
        refine v_iload X (xdec_at tX4_gain_0 18 rfl) rfl ?_
        refine v_aload_n X (xdec_at tX4_gain_0 19 rfl) rfl rfl ?_
        refine x_get (v := .int (μ.1 0 0)) X hinX4 (0, 0) cX_X rfl 3 (by decide) (xw_at tW_2 16 rfl) rfl rfl rfl (xdec_at tX4_gain_0 20 rfl) ?_
        refine v_icmp_ge (tgt := 78) X (xdec_at tX4_gain_0 21 rfl) (by decide) (fun c_34 => ?_) (fun c_34 => ?_)
        · refine v_iinc (v := (nI (i1 + 1))) (lv' := [some (.ref (lay (0, 0))), some (.int w), some (.int u.1), some (.int u.2.1), some (.int u.2.2), some (.int (nI (i1 + 1))), some (.int (nI P)), none]) X (xdec_at tX4_gain_1 3 rfl) rfl (nI_1 _) (by decide) rfl ?_
          refine v_goto (tgt := 16) X (xdec_at tX4_gain_1 4 rfl) (by decide) ?_
          refine v_le (lv' := [some (.ref (lay (0, 0))), some (.int w), some (.int (K_g4 μ P (i1 + 1) (0, -1, -1)).1), some (.int (K_g4 μ P (i1 + 1) (0, -1, -1)).2.1), some (.int (K_g4 μ P (i1 + 1) (0, -1, -1)).2.2), some (.int (nI (i1 + 1))), none, none]) (by simp [xle, K_g4, ← hq, ← hU]) ?_
          exact v_mx (μ' := μ) (by rfl) ih1
        · exact absurd (show μ.1 0 0 ≤ nI P by rw [eP]; exact Int32.le_refl _) c_34
  · obtain ⟨q, hq⟩ : ∃ z, z = K_g4 μ P P (0, -1, -1) := ⟨_, rfl⟩
    refine v_le (lv' := [some (.ref (lay (0, 0))), some (.int w), some (.int q.1), some (.int q.2.1), some (.int q.2.2), some (.int (nI P)), none, none]) (by simp [xle, hq]) ?_
    refine v_iload X (xdec_at tX4_gain_0 12 rfl) rfl ?_
    refine v_aload_n X (xdec_at tX4_gain_0 13 rfl) rfl rfl ?_
    refine x_get (v := .int (μ.1 0 0)) X hinX4 (0, 0) cX_X rfl 3 (by decide) (xw_at tW_2 16 rfl) rfl rfl rfl (xdec_at tX4_gain_0 14 rfl) ?_
    refine v_icmp_ge (tgt := 84) X (xdec_at tX4_gain_0 15 rfl) (by decide) (fun c_22 => ?_) (fun c_22 => ?_)
    · refine v_iload_n X (xdec_at tX4_gain_1 5 rfl) rfl rfl ?_
      refine v_if_ne (tgt := 90) X (xdec_at tX4_gain_1 6 rfl) (by decide) (fun c_85 => ?_) (fun c_85 => ?_)
      · refine v_iload_n X (xdec_at tX4_gain_1 9 rfl) rfl rfl ?_
        refine v_if_ne (tgt := 98) X (xdec_at tX4_gain_1 10 rfl) (by decide) (fun c_91 => ?_) (fun c_91 => ?_)
        · refine v_iload_n X (xdec_at tX4_gain_1 13 rfl) rfl rfl ?_
          refine v_iconst (v := 1) X (xdec_at tX4_gain_1 14 rfl) (by decide) ?_
          refine v_icmp_ne (tgt := 107) X (xdec_at tX4_gain_1 15 rfl) (by decide) (fun c_100 => ?_) (fun c_100 => ?_)
          · refine v_iload X (xdec_at tX4_gain_1 18 rfl) rfl ?_
            have e9 : (M_gain μ w).1 = q.2.2 := by rw [← gain_eq hK.2.2.1.1 q_3]; unfold K_gain; rw [hPn, ← hq]; simp [c_85, c_91, c_100]
            exact v_x (v_iret X hr (xdec_at tX4_gain_1 19 rfl) (Nat.le_of_ble_eq_true rfl) (Nat.le_of_ble_eq_true rfl) ⟨rfl, by rw [e9], (gain_m (Z := Z) (lay := lay) (tb := tb) (r := r) q_3).1, (gain_m q_3).2⟩)
          · refine v_iload_n X (xdec_at tX4_gain_1 16 rfl) rfl rfl ?_
            refine v_goto (tgt := 109) X (xdec_at tX4_gain_1 17 rfl) (by decide) ?_
            have e9 : (M_gain μ w).1 = q.2.1 := by rw [← gain_eq hK.2.2.1.1 q_3]; unfold K_gain; rw [hPn, ← hq]; simp [c_85, c_91, (eq_true c_100)]
            exact v_x (v_iret X hr (xdec_at tX4_gain_1 19 rfl) (Nat.le_of_ble_eq_true rfl) (Nat.le_of_ble_eq_true rfl) ⟨rfl, by rw [e9], (gain_m (Z := Z) (lay := lay) (tb := tb) (r := r) q_3).1, (gain_m q_3).2⟩)
        · refine v_iload_n X (xdec_at tX4_gain_1 11 rfl) rfl rfl ?_
          refine v_goto (tgt := 109) X (xdec_at tX4_gain_1 12 rfl) (by decide) ?_
          have e9 : (M_gain μ w).1 = q.1 := by rw [← gain_eq hK.2.2.1.1 q_3]; unfold K_gain; rw [hPn, ← hq]; simp [c_85, (eq_true c_91)]
          exact v_x (v_iret X hr (xdec_at tX4_gain_1 19 rfl) (Nat.le_of_ble_eq_true rfl) (Nat.le_of_ble_eq_true rfl) ⟨rfl, by rw [e9], (gain_m (Z := Z) (lay := lay) (tb := tb) (r := r) q_3).1, (gain_m q_3).2⟩)
      · refine v_iconst (v := (-1)) X (xdec_at tX4_gain_1 7 rfl) (by decide) ?_
        have e9 : (M_gain μ w).1 = (-1) := by rw [← gain_eq hK.2.2.1.1 q_3]; unfold K_gain; rw [hPn, ← hq]; simp [(eq_true c_85)]
        exact v_x (v_iret X hr (xdec_at tX4_gain_1 8 rfl) (Nat.le_of_ble_eq_true rfl) (Nat.le_of_ble_eq_true rfl) ⟨rfl, by rw [e9], (gain_m (Z := Z) (lay := lay) (tb := tb) (r := r) q_3).1, (gain_m q_3).2⟩)
    · exact absurd (show μ.1 0 0 ≤ nI P by rw [eP]; exact Int32.le_refl _) c_22
