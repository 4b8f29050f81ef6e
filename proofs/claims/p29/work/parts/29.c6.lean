set_option maxRecDepth 100000 in
set_option maxHeartbeats 4000000 in
theorem kyX0_leadsTo (l : Launch) (Z : xZ) (B0 : Nat) (lay : xK → Nat) (μ : Mu) (tb : Tb) (r : xK → Option xE) (g : Nat) (hg : g < nG μ) (h1 : ix (μ.1 11 g) < nP μ) (h2 : ix (μ.1 12 g) < nP μ) (f : Int32) : YM l yX0_leadsTo cX0_leadsTo 2 ((some FieldType.int)) 0 0 0 0 Z B0 [.ref (lay (20, g)), .int f] lay (cX Z lay μ tb r) (fun v lay' C' => lay = lay' ∧ v = some (.int (K_leads μ g f)) ∧ C' = cX Z lay μ tb r) := by
  refine YM_of myX0_leadsTo.2.2 RX0 rfl [some (.ref (lay (20, g))), some (.int f)] rfl (Nat.le_of_ble_eq_true rfl) ?_
  intro P1 P2 P3 P4 P5 P6 P7 P8 X hr hnm
  refine v_aload_n X (xdec_at tX0_leadsTo_0 0 rfl) rfl rfl ?_
  refine x_get (v := .int (μ.1 14 g)) X hinX0 (20, g) (cX_G (μ := μ) hg) rfl 3 (by decide) (xw_at tW_8 39 rfl) rfl rfl rfl (xdec_at tX0_leadsTo_0 1 rfl) ?_
  refine v_if_eq (tgt := 9) X (xdec_at tX0_leadsTo_0 2 rfl) (by decide) (fun c_4 => ?_) (fun c_4 => ?_)
  · refine v_iload_n X (xdec_at tX0_leadsTo_0 5 rfl) rfl rfl ?_
    refine v_aload_n X (xdec_at tX0_leadsTo_0 6 rfl) rfl rfl ?_
    refine x_get (v := .ref (lay (10, ix (μ.1 11 g)))) X hinX0 (20, g) (cX_G (μ := μ) hg) rfl 0 (by decide) (xw_at tW_8 30 rfl) rfl rfl rfl (xdec_at tX0_leadsTo_0 7 rfl) ?_
    refine x_get (v := .int (nI (ix (μ.1 11 g)))) X hinX1 (10, ix (μ.1 11 g)) (cX_P (μ := μ) h1) rfl 0 (by decide) (xw_at tW_7 3 rfl) rfl rfl rfl (xdec_at tX0_leadsTo_0 8 rfl) ?_
    refine v_icmp_ne (tgt := 30) X (xdec_at tX0_leadsTo_0 9 rfl) (by decide) (fun c_17 => ?_) (fun c_17 => ?_)
    · refine v_iload_n X (xdec_at tX0_leadsTo_0 14 rfl) rfl rfl ?_
      refine v_aload_n X (xdec_at tX0_leadsTo_0 15 rfl) rfl rfl ?_
      refine x_get (v := .ref (lay (10, ix (μ.1 12 g)))) X hinX0 (20, g) (cX_G (μ := μ) hg) rfl 1 (by decide) (xw_at tW_8 33 rfl) rfl rfl rfl (xdec_at tX0_leadsTo_0 16 rfl) ?_
      refine x_get (v := .int (nI (ix (μ.1 12 g)))) X hinX1 (10, ix (μ.1 12 g)) (cX_P (μ := μ) h2) rfl 0 (by decide) (xw_at tW_7 3 rfl) rfl rfl rfl (xdec_at tX0_leadsTo_0 17 rfl) ?_
      refine v_icmp_ne (tgt := 51) X (xdec_at tX0_leadsTo_0 18 rfl) (by decide) (fun c_38 => ?_) (fun c_38 => ?_)
      · refine v_iconst (v := (-1)) X (xdec_at tX0_leadsTo_0 23 rfl) (by decide) ?_
        have e9 : K_leads μ g f = (-1) := by simp [K_leads, (eq_true c_4), c_17, c_38]
        exact v_iret X hr (xdec_at tX0_leadsTo_0 24 rfl) (Nat.le_of_ble_eq_true rfl) (Nat.le_of_ble_eq_true rfl) ⟨rfl, by rw [e9], rfl⟩
      · refine v_aload_n X (xdec_at tX0_leadsTo_0 19 rfl) rfl rfl ?_
        refine x_get (v := .ref (lay (10, ix (μ.1 11 g)))) X hinX0 (20, g) (cX_G (μ := μ) hg) rfl 0 (by decide) (xw_at tW_8 30 rfl) rfl rfl rfl (xdec_at tX0_leadsTo_0 20 rfl) ?_
        refine x_get (v := .int (nI (ix (μ.1 11 g)))) X hinX1 (10, ix (μ.1 11 g)) (cX_P (μ := μ) h1) rfl 0 (by decide) (xw_at tW_7 3 rfl) rfl rfl rfl (xdec_at tX0_leadsTo_0 21 rfl) ?_
        refine v_goto (tgt := 52) X (xdec_at tX0_leadsTo_0 22 rfl) (by decide) ?_
        have e9 : K_leads μ g f = (nI (ix (μ.1 11 g))) := by simp [K_leads, (eq_true c_4), c_17, (eq_true c_38)]
        exact v_iret X hr (xdec_at tX0_leadsTo_0 24 rfl) (Nat.le_of_ble_eq_true rfl) (Nat.le_of_ble_eq_true rfl) ⟨rfl, by rw [e9], rfl⟩
    · refine v_aload_n X (xdec_at tX0_leadsTo_0 10 rfl) rfl rfl ?_
      refine x_get (v := .ref (lay (10, ix (μ.1 12 g)))) X hinX0 (20, g) (cX_G (μ := μ) hg) rfl 1 (by decide) (xw_at tW_8 33 rfl) rfl rfl rfl (xdec_at tX0_leadsTo_0 11 rfl) ?_
      refine x_get (v := .int (nI (ix (μ.1 12 g)))) X hinX1 (10, ix (μ.1 12 g)) (cX_P (μ := μ) h2) rfl 0 (by decide) (xw_at tW_7 3 rfl) rfl rfl rfl (xdec_at tX0_leadsTo_0 12 rfl) ?_
      refine v_goto (tgt := 52) X (xdec_at tX0_leadsTo_0 13 rfl) (by decide) ?_
      have e9 : K_leads μ g f = (nI (ix (μ.1 12 g))) := by simp [K_leads, (eq_true c_4), (eq_true c_17)]
      exact v_iret X hr (xdec_at tX0_leadsTo_0 24 rfl) (Nat.le_of_ble_eq_true rfl) (Nat.le_of_ble_eq_true rfl) ⟨rfl, by rw [e9], rfl⟩
  · refine v_iconst (v := (-1)) X (xdec_at tX0_leadsTo_0 3 rfl) (by decide) ?_
    have e9 : K_leads μ g f = (-1) := by simp [K_leads, c_4]
    exact v_iret X hr (xdec_at tX0_leadsTo_0 4 rfl) (Nat.le_of_ble_eq_true rfl) (Nat.le_of_ble_eq_true rfl) ⟨rfl, by rw [e9], rfl⟩
set_option maxRecDepth 100000 in
set_option maxHeartbeats 4000000 in
theorem kyX0_farEnd (l : Launch) (Z : xZ) (B0 : Nat) (lay : xK → Nat) (μ : Mu) (tb : Tb) (r : xK → Option xE) (g : Nat) (hg : g < nG μ) (h1 : ix (μ.1 11 g) < nP μ) (h2 : ix (μ.1 12 g) < nP μ) (i : Nat) (hi : i < nP μ) (hlay : lay (10, i) = lay (10, ix (μ.1 11 g)) → i = ix (μ.1 11 g)) : YM l yX0_farEnd cX0_farEnd 2 ((some (FieldType.object "Postunion$Post"))) 0 0 0 0 Z B0 [.ref (lay (20, g)), .ref (lay (10, i))] lay (cX Z lay μ tb r) (fun v lay' C' => lay = lay' ∧ v = some (.ref (lay (10, if i = ix (μ.1 11 g) then ix (μ.1 12 g) else ix (μ.1 11 g)))) ∧ C' = cX Z lay μ tb r) := by
  refine YM_of myX0_farEnd.2.2 RX0 rfl [some (.ref (lay (20, g))), some (.ref (lay (10, i)))] rfl (Nat.le_of_ble_eq_true rfl) ?_
  intro P1 P2 P3 P4 P5 P6 P7 P8 X hr hnm
  refine v_aload_n X (xdec_at tX0_farEnd_0 0 rfl) rfl rfl ?_
  refine v_aload_n X (xdec_at tX0_farEnd_0 1 rfl) rfl rfl ?_
  refine x_get (v := .ref (lay (10, ix (μ.1 11 g)))) X hinX0 (20, g) (cX_G (μ := μ) hg) rfl 0 (by decide) (xw_at tW_8 30 rfl) rfl rfl rfl (xdec_at tX0_farEnd_0 2 rfl) ?_
  refine v_acmpR_ne (tgt := 15) X (xdec_at tX0_farEnd_0 3 rfl) (by decide) (fun c_5 => ?_) (fun c_5 => ?_)
  · have hij : ¬ i = ix (μ.1 11 g) := fun z => c_5 (by rw [z])
    refine v_aload_n X (xdec_at tX0_farEnd_0 7 rfl) rfl rfl ?_
    refine x_get (v := .ref (lay (10, ix (μ.1 11 g)))) X hinX0 (20, g) (cX_G (μ := μ) hg) rfl 0 (by decide) (xw_at tW_8 30 rfl) rfl rfl rfl (xdec_at tX0_farEnd_0 8 rfl) ?_
    exact v_aret X hr (Or.inr ⟨_, rfl⟩) (xdec_at tX0_farEnd_0 9 rfl) (Nat.le_of_ble_eq_true rfl) (Nat.le_of_ble_eq_true rfl) ⟨rfl, by rw [if_neg hij], rfl⟩
  · have hij : i = ix (μ.1 11 g) := hlay (c_5)
    refine v_aload_n X (xdec_at tX0_farEnd_0 4 rfl) rfl rfl ?_
    refine x_get (v := .ref (lay (10, ix (μ.1 12 g)))) X hinX0 (20, g) (cX_G (μ := μ) hg) rfl 1 (by decide) (xw_at tW_8 33 rfl) rfl rfl rfl (xdec_at tX0_farEnd_0 5 rfl) ?_
    refine v_goto (tgt := 19) X (xdec_at tX0_farEnd_0 6 rfl) (by decide) ?_
    exact v_aret X hr (Or.inr ⟨_, rfl⟩) (xdec_at tX0_farEnd_0 9 rfl) (Nat.le_of_ble_eq_true rfl) (Nat.le_of_ble_eq_true rfl) ⟨rfl, by rw [if_pos hij], rfl⟩
set_option maxRecDepth 100000 in
set_option maxHeartbeats 4000000 in
theorem kyX2_legOf (l : Launch) (Z : xZ) (B0 : Nat) (lay : xK → Nat) (μ : Mu) (tb : Tb) (r : xK → Option xE) (hI : RI μ) (n : Int32) : YM l yX2_legOf cX2_legOf 2 ((some (FieldType.object "Postunion$Leg"))) 0 0 0 0 Z B0 [.ref (lay (3, 0)), .int n] lay (cX Z lay μ tb r) (fun v lay' C' => lay = lay' ∧ ((¬ n < 0 ∧ n < μ.1 10 0) ∧ v = some (.ref (lay (20, ix n))) ∨ ¬ (¬ n < 0 ∧ n < μ.1 10 0) ∧ v = some .null) ∧ C' = cX Z lay μ tb r) := by
  refine YM_of myX2_legOf.2.2 RX2 rfl [some (.ref (lay (3, 0))), some (.int n)] rfl (Nat.le_of_ble_eq_true rfl) ?_
  intro P1 P2 P3 P4 P5 P6 P7 P8 X hr hnm
  refine v_iload_n X (xdec_at tX2_legOf_0 0 rfl) rfl rfl ?_
  refine v_if_lt (tgt := 21) X (xdec_at tX2_legOf_0 1 rfl) (by decide) (fun c_1 => ?_) (fun c_1 => ?_)
  · refine v_null X (xdec_at tX2_legOf_0 11 rfl) ?_
    exact v_aret X hr (Or.inl rfl) (xdec_at tX2_legOf_0 12 rfl) (Nat.le_of_ble_eq_true rfl) (Nat.le_of_ble_eq_true rfl) ⟨rfl, Or.inr ⟨fun z => absurd c_1 z.1, rfl⟩, rfl⟩
  · refine v_iload_n X (xdec_at tX2_legOf_0 2 rfl) rfl rfl ?_
    refine v_aload_n X (xdec_at tX2_legOf_0 3 rfl) rfl rfl ?_
    refine x_get (v := .int (μ.1 10 0)) X hinX2 (3, 0) cX_R rfl 4 (by decide) (xw_at tW_2 6 rfl) rfl rfl rfl (xdec_at tX2_legOf_0 4 rfl) ?_
    refine v_icmp_ge (tgt := 21) X (xdec_at tX2_legOf_0 5 rfl) (by decide) (fun c_9 => ?_) (fun c_9 => ?_)
    · refine v_null X (xdec_at tX2_legOf_0 11 rfl) ?_
      exact v_aret X hr (Or.inl rfl) (xdec_at tX2_legOf_0 12 rfl) (Nat.le_of_ble_eq_true rfl) (Nat.le_of_ble_eq_true rfl) ⟨rfl, Or.inr ⟨fun z => absurd z.2 (Int32.not_lt.mpr c_9), rfl⟩, rfl⟩
    · refine v_aload_n X (xdec_at tX2_legOf_0 6 rfl) rfl rfl ?_
      refine x_get (v := .ref (lay (4, 0))) X hinX2 (3, 0) cX_R rfl 0 (by decide) (xw_at tW_2 2 rfl) rfl rfl rfl (xdec_at tX2_legOf_0 7 rfl) ?_
      refine v_iload_n X (xdec_at tX2_legOf_0 8 rfl) rfl rfl ?_
      have h9 : n < μ.1 10 0 := Int32.not_le.mp c_9
      have hn : ix n < nG μ ∧ vp_in n 20 := in_leg hI c_1 h9
      refine x_aald5 (v := .ref (lay (20, ix n))) X (4, 0) cX_gs hn.2 rfl (aq_rf (f := fun i => lay (20, i)) rfl hn.1) (xdec_at tX2_legOf_0 9 rfl) ?_
      refine v_goto (tgt := 22) X (xdec_at tX2_legOf_0 10 rfl) (by decide) ?_
      exact v_aret X hr (Or.inr ⟨_, rfl⟩) (xdec_at tX2_legOf_0 12 rfl) (Nat.le_of_ble_eq_true rfl) (Nat.le_of_ble_eq_true rfl) ⟨rfl, Or.inl ⟨⟨c_1, h9⟩, rfl⟩, rfl⟩
set_option maxRecDepth 100000 in
set_option maxHeartbeats 4000000 in
theorem kyX2_onwardLeg (l : Launch) (Z : xZ) (B0 : Nat) (lay : xK → Nat) (μ : Mu) (tb : Tb) (r : xK → Option xE) (i j : Nat) (hi : i < nP μ) (hj : j < nP μ) (hi8 : i < 8) (hj8 : j < 8) : YM l yX2_onwardLeg cX2_onwardLeg 3 ((some FieldType.int)) 1 21 0 0 Z B0 [.ref (lay (3, 0)), .ref (lay (10, i)), .ref (lay (10, j))] lay (cX Z lay μ tb r) (fun v lay' C' => lay = lay' ∧ v = some (.int (tb.1 2 (8 * i + j))) ∧ C' = cX Z lay μ tb r) := by
  refine YM_of myX2_onwardLeg.2.2 RX2 rfl [some (.ref (lay (3, 0))), some (.ref (lay (10, i))), some (.ref (lay (10, j)))] rfl (Nat.le_of_ble_eq_true rfl) ?_
  intro P1 P2 P3 P4 P5 P6 P7 P8 X hr hnm
  refine v_aload_n X (xdec_at tX2_onwardLeg_0 0 rfl) rfl rfl ?_
  refine x_get (v := .ref (lay (7, 0))) X hinX2 (3, 0) cX_R rfl 3 (by decide) (xw_at tW_2 5 rfl) rfl rfl rfl (xdec_at tX2_onwardLeg_0 1 rfl) ?_
  refine v_aload_n X (xdec_at tX2_onwardLeg_0 2 rfl) rfl rfl ?_
  refine x_get (v := .int (nI i)) X hinX1 (10, i) (cX_P (μ := μ) hi) rfl 0 (by decide) (xw_at tW_7 4 rfl) rfl rfl rfl (xdec_at tX2_onwardLeg_0 3 rfl) ?_
  refine v_aload_n X (xdec_at tX2_onwardLeg_0 4 rfl) rfl rfl ?_
  refine x_get (v := .int (nI j)) X hinX1 (10, j) (cX_P (μ := μ) hj) rfl 0 (by decide) (xw_at tW_7 4 rfl) rfl rfl rfl (xdec_at tX2_onwardLeg_0 5 rfl) ?_
  refine v_callS X myX2_cell [.int (nI i), .int (nI j)] [.ref (lay (7, 0))] (kyX2_cell l Z B0 lay (cX Z lay μ tb r) (nI i) (nI j)) (xw_at tW_1 20 rfl) rfl rfl (by rfl) (Nat.le_of_ble_eq_true rfl) (xdec_at tX2_onwardLeg_0 6 rfl) ⟨(Nat.le_of_ble_eq_true rfl), (Nat.le_of_ble_eq_true rfl)⟩ ⟨(Nat.le_of_ble_eq_true rfl), (Nat.le_of_ble_eq_true rfl)⟩ ?_
  rintro v9 lay9 C9 ⟨rfl, rfl, rfl⟩
  rw [cell_nI i j]
  refine x_iald (v := (tb.1 2 (8 * i + j))) X (7, 0) (cX_t2 (tb := tb)) (vp_in_nI (by omega) (by decide)) rfl (congrArg (tb.1 2) (ix_nI (by omega))) (xdec_at tX2_onwardLeg_0 7 rfl) ?_
  exact v_iret X hr (xdec_at tX2_onwardLeg_0 8 rfl) (Nat.le_of_ble_eq_true rfl) (Nat.le_of_ble_eq_true rfl) ⟨rfl, rfl, rfl⟩
set_option maxRecDepth 100000 in
set_option maxHeartbeats 4000000 in
theorem kyX2_leastDays (l : Launch) (Z : xZ) (B0 : Nat) (lay : xK → Nat) (μ : Mu) (tb : Tb) (r : xK → Option xE) (i j : Nat) (hi : i < nP μ) (hj : j < nP μ) (hi8 : i < 8) (hj8 : j < 8) : YM l yX2_leastDays cX2_leastDays 3 ((some FieldType.int)) 1 21 0 0 Z B0 [.ref (lay (3, 0)), .ref (lay (10, i)), .ref (lay (10, j))] lay (cX Z lay μ tb r) (fun v lay' C' => lay = lay' ∧ v = some (.int (K_far (tb.1 1 (8 * i + j)))) ∧ C' = cX Z lay μ tb r) := by
  refine YM_of myX2_leastDays.2.2 RX2 rfl [some (.ref (lay (3, 0))), some (.ref (lay (10, i))), some (.ref (lay (10, j)))] rfl (Nat.le_of_ble_eq_true rfl) ?_
  intro P1 P2 P3 P4 P5 P6 P7 P8 X hr hnm
  refine v_aload_n X (xdec_at tX2_leastDays_0 0 rfl) rfl rfl ?_
  refine x_get (v := .ref (lay (6, 0))) X hinX2 (3, 0) cX_R rfl 2 (by decide) (xw_at tW_2 4 rfl) rfl rfl rfl (xdec_at tX2_leastDays_0 1 rfl) ?_
  refine v_aload_n X (xdec_at tX2_leastDays_0 2 rfl) rfl rfl ?_
  refine x_get (v := .int (nI i)) X hinX1 (10, i) (cX_P (μ := μ) hi) rfl 0 (by decide) (xw_at tW_7 4 rfl) rfl rfl rfl (xdec_at tX2_leastDays_0 3 rfl) ?_
  refine v_aload_n X (xdec_at tX2_leastDays_0 4 rfl) rfl rfl ?_
  refine x_get (v := .int (nI j)) X hinX1 (10, j) (cX_P (μ := μ) hj) rfl 0 (by decide) (xw_at tW_7 4 rfl) rfl rfl rfl (xdec_at tX2_leastDays_0 5 rfl) ?_
  refine v_callS X myX2_cell [.int (nI i), .int (nI j)] [.ref (lay (6, 0))] (kyX2_cell l Z B0 lay (cX Z lay μ tb r) (nI i) (nI j)) (xw_at tW_1 20 rfl) rfl rfl (by rfl) (Nat.le_of_ble_eq_true rfl) (xdec_at tX2_leastDays_0 6 rfl) ⟨(Nat.le_of_ble_eq_true rfl), (Nat.le_of_ble_eq_true rfl)⟩ ⟨(Nat.le_of_ble_eq_true rfl), (Nat.le_of_ble_eq_true rfl)⟩ ?_
  rintro v9 lay9 C9 ⟨rfl, rfl, rfl⟩
  rw [cell_nI i j]
  refine x_iald (v := (tb.1 1 (8 * i + j))) X (6, 0) (cX_t1 (tb := tb)) (vp_in_nI (by omega) (by decide)) rfl (congrArg (tb.1 1) (ix_nI (by omega))) (xdec_at tX2_leastDays_0 7 rfl) ?_
  refine v_callS X myX2_noneIfFar [.int (tb.1 1 (8 * i + j))] [] (kyX2_noneIfFar l Z B0 lay (cX Z lay μ tb r) (tb.1 1 (8 * i + j))) (xw_at tW_4 22 rfl) rfl rfl (by rfl) (Nat.le_of_ble_eq_true rfl) (xdec_at tX2_leastDays_0 8 rfl) ⟨(Nat.le_of_ble_eq_true rfl), (Nat.le_of_ble_eq_true rfl)⟩ ⟨(Nat.le_of_ble_eq_true rfl), (Nat.le_of_ble_eq_true rfl)⟩ ?_
  rintro v9 lay9 C9 ⟨rfl, rfl, rfl⟩
  exact v_iret X hr (xdec_at tX2_leastDays_0 9 rfl) (Nat.le_of_ble_eq_true rfl) (Nat.le_of_ble_eq_true rfl) ⟨rfl, rfl, rfl⟩
set_option maxRecDepth 100000 in
set_option maxHeartbeats 4000000 in
theorem kyX2_shorten (l : Launch) (Z : xZ) (B0 : Nat) (lay : xK → Nat) (μ : Mu) (tb : Tb) (r : xK → Option xE) (a b : Nat) (ha : a < 8) (hb : b < 8) (d : Int32) : YM l yX2_shorten cX2_shorten 4 ((none : Option FieldType)) 1 40 0 0 Z B0 [.ref (lay (3, 0)), .int (nI a), .int (nI b), .int d] lay (cX Z lay μ tb r) (fun v lay' C' => lay = lay' ∧ v = none ∧ C' = cX Z lay μ (K_sh tb.1 a b d, tb.2) r) := by
  refine YM_of myX2_shorten.2.2 RX2 rfl [some (.ref (lay (3, 0))), some (.int (nI a)), some (.int (nI b)), some (.int d)] rfl (Nat.le_of_ble_eq_true rfl) ?_
  intro P1 P2 P3 P4 P5 P6 P7 P8 X hr hnm
  refine v_aload_n X (xdec_at tX2_shorten_0 0 rfl) rfl rfl ?_
  refine x_get (v := .ref (lay (5, 0))) X hinX2 (3, 0) cX_R rfl 1 (by decide) (xw_at tW_2 3 rfl) rfl rfl rfl (xdec_at tX2_shorten_0 1 rfl) ?_
  refine v_iload_n X (xdec_at tX2_shorten_0 2 rfl) rfl rfl ?_
  refine v_iload_n X (xdec_at tX2_shorten_0 3 rfl) rfl rfl ?_
  refine v_callS X myX2_cell [.int (nI a), .int (nI b)] [.ref (lay (5, 0))] (kyX2_cell l Z B0 lay (cX Z lay μ tb r) (nI a) (nI b)) (xw_at tW_1 20 rfl) rfl rfl (by rfl) (Nat.le_of_ble_eq_true rfl) (xdec_at tX2_shorten_0 4 rfl) ⟨(Nat.le_of_ble_eq_true rfl), (Nat.le_of_ble_eq_true rfl)⟩ ⟨(Nat.le_of_ble_eq_true rfl), (Nat.le_of_ble_eq_true rfl)⟩ ?_
  rintro v9 lay9 C9 ⟨rfl, rfl, rfl⟩
  rw [cell_nI a b]
  refine v_aload_n X (xdec_at tX2_shorten_0 5 rfl) rfl rfl ?_
  refine x_get (v := .ref (lay (5, 0))) X hinX2 (3, 0) cX_R rfl 1 (by decide) (xw_at tW_2 3 rfl) rfl rfl rfl (xdec_at tX2_shorten_0 6 rfl) ?_
  refine v_iload_n X (xdec_at tX2_shorten_0 7 rfl) rfl rfl ?_
  refine v_iload_n X (xdec_at tX2_shorten_0 8 rfl) rfl rfl ?_
  refine v_callS X myX2_cell [.int (nI a), .int (nI b)] [.ref (lay (5, 0)), .int (nI (8 * a + b)), .ref (lay (5, 0))] (kyX2_cell l Z B0 lay (cX Z lay μ tb r) (nI a) (nI b)) (xw_at tW_1 20 rfl) rfl rfl (by rfl) (Nat.le_of_ble_eq_true rfl) (xdec_at tX2_shorten_0 9 rfl) ⟨(Nat.le_of_ble_eq_true rfl), (Nat.le_of_ble_eq_true rfl)⟩ ⟨(Nat.le_of_ble_eq_true rfl), (Nat.le_of_ble_eq_true rfl)⟩ ?_
  rintro v9 lay9 C9 ⟨rfl, rfl, rfl⟩
  rw [cell_nI a b]
  refine x_iald (v := (tb.1 0 (8 * a + b))) X (5, 0) (cX_t0 (tb := tb)) (vp_in_nI (by omega) (by decide)) rfl (congrArg (tb.1 0) (ix_nI (by omega))) (xdec_at tX2_shorten_0 10 rfl) ?_
  refine v_iload_n X (xdec_at tX2_shorten_0 11 rfl) rfl rfl ?_
  refine v_min X (xw_at tW_1 23 rfl) ⟨(Nat.le_of_ble_eq_true rfl), (Nat.le_of_ble_eq_true rfl)⟩ ⟨(Nat.le_of_ble_eq_true rfl), (Nat.le_of_ble_eq_true rfl)⟩ (xdec_at tX2_shorten_0 12 rfl) ?_
  refine x_iast (C' := (cX Z lay μ ((up2 tb.1 0 (8 * a + b) (K_min (tb.1 0 (8 * a + b)) d)), tb.2) r)) X (5, 0) (cX_t0 (tb := tb)) (vp_in_nI (by omega) (by decide)) rfl (by rw [show (nI (8 * a + b)).toNatClampNeg = (8 * a + b) from ix_nI (by omega)]; exact cw_t0 (tb := tb)) (xdec_at tX2_shorten_0 13 rfl) ?_
  exact v_vret X hr (xdec_at tX2_shorten_0 14 rfl) (Nat.le_of_ble_eq_true rfl) (Nat.le_of_ble_eq_true rfl) ⟨rfl, rfl, rfl⟩
set_option maxRecDepth 100000 in
set_option maxHeartbeats 4000000 in
theorem kyX2_firstLegOf (l : Launch) (Z : xZ) (B0 : Nat) (lay : xK → Nat) (μ : Mu) (tb : Tb) (r : xK → Option xE) (hI : RI μ) (hL : KL μ) (a b : Nat) (ha : a < 8) (hb : b < 8) : YM l yX2_firstLegOf cX2_firstLegOf 8 ((some FieldType.int)) 1 21 0 0 Z B0 [.ref (lay (3, 0)), .int (nI a), .int (nI b)] lay (cX Z lay μ tb r) (fun v lay' C' => lay = lay' ∧ v = some (.int ((K_fl1 μ tb.1 a b (nG μ)).1)) ∧ C' = cX Z lay μ tb r) := by
  refine YM_of myX2_firstLegOf.2.2 RX2 rfl [some (.ref (lay (3, 0))), some (.int (nI a)), some (.int (nI b)), none, none, none, none, none] rfl (Nat.le_of_ble_eq_true rfl) ?_
  intro P1 P2 P3 P4 P5 P6 P7 P8 X hr hnm
  obtain ⟨G, hG20, eG⟩ := hI.2.1
  have hGn := nG_of hG20 eG
  refine v_iconst (v := (-1)) X (xdec_at tX2_firstLegOf_0 0 rfl) (by decide) ?_
  refine v_istore_n (lv' := [some (.ref (lay (3, 0))), some (.int (nI a)), some (.int (nI b)), some (.int (-1)), none, none, none, none]) X (xdec_at tX2_firstLegOf_0 1 rfl) rfl (by decide) rfl ?_
  refine v_bipush (v := 8) X (xdec_at tX2_firstLegOf_0 2 rfl) (by decide) ?_
  refine v_istore (lv' := [some (.ref (lay (3, 0))), some (.int (nI a)), some (.int (nI b)), some (.int (-1)), some (.int 8), none, none, none]) X (xdec_at tX2_firstLegOf_0 3 rfl) (by decide) rfl ?_
  refine v_iconst (v := 0) X (xdec_at tX2_firstLegOf_0 4 rfl) (by decide) ?_
  refine v_istore (lv' := [some (.ref (lay (3, 0))), some (.int (nI a)), some (.int (nI b)), some (.int (-1)), some (.int 8), some (.int 0), none, none]) X (xdec_at tX2_firstLegOf_0 5 rfl) (by decide) rfl ?_
  refine v_for G (fun j9 => cX Z lay μ tb r) (fun j9 => [some (.ref (lay (3, 0))), some (.int (nI a)), some (.int (nI b)), some (.int (K_fl1 μ tb.1 a b j9).1), some (.int (K_fl1 μ tb.1 a b j9).2), some (.int (nI j9)), none, none]) 9 [] (fun i1 hi1 ih1 => ?_) ?_
  · obtain ⟨q, hq⟩ : ∃ q, q = K_fl1 μ tb.1 a b i1 := ⟨_, rfl⟩
    refine v_le (lv' := [some (.ref (lay (3, 0))), some (.int (nI a)), some (.int (nI b)), some (.int q.1), some (.int q.2), some (.int (nI i1)), none, none]) (by simp [xle, hq]) ?_
    refine v_iload X (xdec_at tX2_firstLegOf_0 6 rfl) rfl ?_
    refine v_aload_n X (xdec_at tX2_firstLegOf_0 7 rfl) rfl rfl ?_
    refine x_get (v := .int (μ.1 10 0)) X hinX2 (3, 0) cX_R rfl 4 (by decide) (xw_at tW_2 6 rfl) rfl rfl rfl (xdec_at tX2_firstLegOf_0 8 rfl) ?_
    refine v_icmp_ge (tgt := 91) X (xdec_at tX2_firstLegOf_0 9 rfl) (by decide) (fun c_15 => ?_) (fun c_15 => ?_)
    · exact absurd c_15 (by rw [eG]; exact nI_ge hi1 (by omega))
    · refine v_aload_n X (xdec_at tX2_firstLegOf_0 10 rfl) rfl rfl ?_
      refine x_get (v := .ref (lay (4, 0))) X hinX2 (3, 0) cX_R rfl 0 (by decide) (xw_at tW_2 2 rfl) rfl rfl rfl (xdec_at tX2_firstLegOf_0 11 rfl) ?_
      refine v_iload X (xdec_at tX2_firstLegOf_0 12 rfl) rfl ?_
      refine x_aald5 (v := .ref (lay (20, i1))) X (4, 0) cX_gs (vp_in_nI (n := i1) (N := 20) (by omega) (by decide)) rfl (aq_rf (f := fun i => lay (20, i)) (ix_nI (by omega)) (show i1 < nG μ by rw [hGn]; exact hi1)) (xdec_at tX2_firstLegOf_0 13 rfl) ?_
      refine v_astore (lv' := [some (.ref (lay (3, 0))), some (.int (nI a)), some (.int (nI b)), some (.int q.1), some (.int q.2), some (.int (nI i1)), some (.ref (lay (20, i1))), none]) X (xdec_at tX2_firstLegOf_0 14 rfl) (by decide) rfl ?_
      refine v_aload X (xdec_at tX2_firstLegOf_0 15 rfl) rfl ?_
      refine v_iload_n X (xdec_at tX2_firstLegOf_0 16 rfl) rfl rfl ?_
      refine v_callV X myX0_leadsTo [.int (nI a)] [] (kyX0_leadsTo l Z B0 lay μ tb r i1 (show i1 < nG μ by rw [hGn]; exact hi1) (hL i1 (show i1 < nG μ by rw [hGn]; exact hi1)).1 (hL i1 (show i1 < nG μ by rw [hGn]; exact hi1)).2.1 (nI a)) (xw_at tW_1 38 rfl) (20, i1) (cX_G (μ := μ) (show i1 < nG μ by rw [hGn]; exact hi1)) rfl rfl rfl rfl (by rfl) (Nat.le_of_ble_eq_true rfl) (xdec_at tX2_firstLegOf_0 17 rfl) ⟨(Nat.le_of_ble_eq_true rfl), (Nat.le_of_ble_eq_true rfl)⟩ ⟨(Nat.le_of_ble_eq_true rfl), (Nat.le_of_ble_eq_true rfl)⟩ ?_
      rintro v9 lay9 C9 ⟨rfl, rfl, rfl⟩
      refine v_istore (lv' := [some (.ref (lay (3, 0))), some (.int (nI a)), some (.int (nI b)), some (.int q.1), some (.int q.2), some (.int (nI i1)), some (.ref (lay (20, i1))), some (.int (K_leads μ i1 (nI a)))]) X (xdec_at tX2_firstLegOf_0 18 rfl) (by decide) rfl ?_
      refine v_iload X (xdec_at tX2_firstLegOf_0 19 rfl) rfl ?_
      refine v_iconst (v := (-1)) X (xdec_at tX2_firstLegOf_0 20 rfl) (by decide) ?_
      refine v_icmp_eq (tgt := 85) X (xdec_at tX2_firstLegOf_0 21 rfl) (by decide) (fun c_38 => ?_) (fun c_38 => ?_)
      · refine v_iinc (v := (nI (i1 + 1))) (lv' := [some (.ref (lay (3, 0))), some (.int (nI a)), some (.int (nI b)), some (.int q.1), some (.int q.2), some (.int (nI (i1 + 1))), some (.ref (lay (20, i1))), some (.int (K_leads μ i1 (nI a)))]) X (xdec_at tX2_firstLegOf_1 5 rfl) rfl (nI_1 _) (by decide) rfl ?_
        refine v_goto (tgt := 9) X (xdec_at tX2_firstLegOf_1 6 rfl) (by decide) ?_
        refine v_le (lv' := [some (.ref (lay (3, 0))), some (.int (nI a)), some (.int (nI b)), some (.int (K_fl1 μ tb.1 a b (i1 + 1)).1), some (.int (K_fl1 μ tb.1 a b (i1 + 1)).2), some (.int (nI (i1 + 1))), none, none]) (by simp [xle, K_fl1, ← hq, K_fls, (eq_true c_38)]) ?_
        exact v_mx (μ' := μ) (by rfl) ih1
      · refine v_iload X (xdec_at tX2_firstLegOf_0 22 rfl) rfl ?_
        refine v_iload X (xdec_at tX2_firstLegOf_0 23 rfl) rfl ?_
        refine v_icmp_ge (tgt := 85) X (xdec_at tX2_firstLegOf_0 24 rfl) (by decide) (fun c_45 => ?_) (fun c_45 => ?_)
        · refine v_iinc (v := (nI (i1 + 1))) (lv' := [some (.ref (lay (3, 0))), some (.int (nI a)), some (.int (nI b)), some (.int q.1), some (.int q.2), some (.int (nI (i1 + 1))), some (.ref (lay (20, i1))), some (.int (K_leads μ i1 (nI a)))]) X (xdec_at tX2_firstLegOf_1 5 rfl) rfl (nI_1 _) (by decide) rfl ?_
          refine v_goto (tgt := 9) X (xdec_at tX2_firstLegOf_1 6 rfl) (by decide) ?_
          refine v_le (lv' := [some (.ref (lay (3, 0))), some (.int (nI a)), some (.int (nI b)), some (.int (K_fl1 μ tb.1 a b (i1 + 1)).1), some (.int (K_fl1 μ tb.1 a b (i1 + 1)).2), some (.int (nI (i1 + 1))), none, none]) (by simp [xle, K_fl1, ← hq, K_fls, c_38, c_45]) ?_
          exact v_mx (μ' := μ) (by rfl) ih1
        · refine v_aload X (xdec_at tX2_firstLegOf_0 25 rfl) rfl ?_
          refine x_get (v := .int (μ.1 13 i1)) X hinX0 (20, i1) (cX_G (μ := μ) (show i1 < nG μ by rw [hGn]; exact hi1)) rfl 2 (by decide) (xw_at tW_8 38 rfl) rfl rfl rfl (xdec_at tX2_firstLegOf_0 26 rfl) ?_
          refine v_aload_n X (xdec_at tX2_firstLegOf_0 27 rfl) rfl rfl ?_
          refine x_get (v := .ref (lay (6, 0))) X hinX2 (3, 0) cX_R rfl 2 (by decide) (xw_at tW_2 4 rfl) rfl rfl rfl (xdec_at tX2_firstLegOf_0 28 rfl) ?_
          refine v_iload X (xdec_at tX2_firstLegOf_0 29 rfl) rfl ?_
          refine v_iload_n X (xdec_at tX2_firstLegOf_0 30 rfl) rfl rfl ?_
          refine v_callS X myX2_cell [.int (K_leads μ i1 (nI a)), .int (nI b)] [.ref (lay (6, 0)), .int (μ.1 13 i1)] (kyX2_cell l Z B0 lay (cX Z lay μ tb r) (K_leads μ i1 (nI a)) (nI b)) (xw_at tW_1 20 rfl) rfl rfl (by rfl) (Nat.le_of_ble_eq_true rfl) (xdec_at tX2_firstLegOf_0 31 rfl) ⟨(Nat.le_of_ble_eq_true rfl), (Nat.le_of_ble_eq_true rfl)⟩ ⟨(Nat.le_of_ble_eq_true rfl), (Nat.le_of_ble_eq_true rfl)⟩ ?_
          rintro v9 lay9 C9 ⟨rfl, rfl, rfl⟩
          refine x_iald (v := (tb.1 1 (ix ((K_leads μ i1 (nI a)) * 8 + (nI b))))) X (6, 0) (cX_t1 (tb := tb)) (leads_cell hI hL (show i1 < nG μ by rw [hGn]; exact hi1) c_38 hb) rfl rfl (xdec_at tX2_firstLegOf_0 32 rfl) ?_
          refine v_iadd X (xdec_at tX2_firstLegOf_0 33 rfl) ?_
          refine v_aload_n X (xdec_at tX2_firstLegOf_0 34 rfl) rfl rfl ?_
          refine x_get (v := .ref (lay (6, 0))) X hinX2 (3, 0) cX_R rfl 2 (by decide) (xw_at tW_2 4 rfl) rfl rfl rfl (xdec_at tX2_firstLegOf_0 35 rfl) ?_
          refine v_iload_n X (xdec_at tX2_firstLegOf_0 36 rfl) rfl rfl ?_
          refine v_iload_n X (xdec_at tX2_firstLegOf_0 37 rfl) rfl rfl ?_
          refine v_callS X myX2_cell [.int (nI a), .int (nI b)] [.ref (lay (6, 0)), .int ((μ.1 13 i1) + (tb.1 1 (ix ((K_leads μ i1 (nI a)) * 8 + (nI b)))))] (kyX2_cell l Z B0 lay (cX Z lay μ tb r) (nI a) (nI b)) (xw_at tW_1 20 rfl) rfl rfl (by rfl) (Nat.le_of_ble_eq_true rfl) (xdec_at tX2_firstLegOf_0 38 rfl) ⟨(Nat.le_of_ble_eq_true rfl), (Nat.le_of_ble_eq_true rfl)⟩ ⟨(Nat.le_of_ble_eq_true rfl), (Nat.le_of_ble_eq_true rfl)⟩ ?_
          rintro v9 lay9 C9 ⟨rfl, rfl, rfl⟩
          rw [cell_nI a b]
          refine x_iald (v := (tb.1 1 (8 * a + b))) X (6, 0) (cX_t1 (tb := tb)) (vp_in_nI (by omega) (by decide)) rfl (congrArg (tb.1 1) (ix_nI (by omega))) (xdec_at tX2_firstLegOf_0 39 rfl) ?_
          refine v_icmp_ne (tgt := 85) X (xdec_at tX2_firstLegOf_1 0 rfl) (by decide) (fun c_75 => ?_) (fun c_75 => ?_)
          · refine v_iinc (v := (nI (i1 + 1))) (lv' := [some (.ref (lay (3, 0))), some (.int (nI a)), some (.int (nI b)), some (.int q.1), some (.int q.2), some (.int (nI (i1 + 1))), some (.ref (lay (20, i1))), some (.int (K_leads μ i1 (nI a)))]) X (xdec_at tX2_firstLegOf_1 5 rfl) rfl (nI_1 _) (by decide) rfl ?_
            refine v_goto (tgt := 9) X (xdec_at tX2_firstLegOf_1 6 rfl) (by decide) ?_
            refine v_le (lv' := [some (.ref (lay (3, 0))), some (.int (nI a)), some (.int (nI b)), some (.int (K_fl1 μ tb.1 a b (i1 + 1)).1), some (.int (K_fl1 μ tb.1 a b (i1 + 1)).2), some (.int (nI (i1 + 1))), none, none]) (by simp [xle, K_fl1, ← hq, K_fls, c_38, c_45, c_75]) ?_
            exact v_mx (μ' := μ) (by rfl) ih1
          · refine v_iload X (xdec_at tX2_firstLegOf_1 1 rfl) rfl ?_
            refine v_istore_n (lv' := [some (.ref (lay (3, 0))), some (.int (nI a)), some (.int (nI b)), some (.int (nI i1)), some (.int q.2), some (.int (nI i1)), some (.ref (lay (20, i1))), some (.int (K_leads μ i1 (nI a)))]) X (xdec_at tX2_firstLegOf_1 2 rfl) rfl (by decide) rfl ?_
            refine v_iload X (xdec_at tX2_firstLegOf_1 3 rfl) rfl ?_
            refine v_istore (lv' := [some (.ref (lay (3, 0))), some (.int (nI a)), some (.int (nI b)), some (.int (nI i1)), some (.int (K_leads μ i1 (nI a))), some (.int (nI i1)), some (.ref (lay (20, i1))), some (.int (K_leads μ i1 (nI a)))]) X (xdec_at tX2_firstLegOf_1 4 rfl) (by decide) rfl ?_
            refine v_iinc (v := (nI (i1 + 1))) (lv' := [some (.ref (lay (3, 0))), some (.int (nI a)), some (.int (nI b)), some (.int (nI i1)), some (.int (K_leads μ i1 (nI a))), some (.int (nI (i1 + 1))), some (.ref (lay (20, i1))), some (.int (K_leads μ i1 (nI a)))]) X (xdec_at tX2_firstLegOf_1 5 rfl) rfl (nI_1 _) (by decide) rfl ?_
            refine v_goto (tgt := 9) X (xdec_at tX2_firstLegOf_1 6 rfl) (by decide) ?_
            refine v_le (lv' := [some (.ref (lay (3, 0))), some (.int (nI a)), some (.int (nI b)), some (.int (K_fl1 μ tb.1 a b (i1 + 1)).1), some (.int (K_fl1 μ tb.1 a b (i1 + 1)).2), some (.int (nI (i1 + 1))), none, none]) (by simp [xle, K_fl1, ← hq, K_fls, c_38, c_45, (eq_true c_75)]) ?_
            exact v_mx (μ' := μ) (by rfl) ih1
  · obtain ⟨q, hq⟩ : ∃ q, q = K_fl1 μ tb.1 a b G := ⟨_, rfl⟩
    refine v_le (lv' := [some (.ref (lay (3, 0))), some (.int (nI a)), some (.int (nI b)), some (.int q.1), some (.int q.2), some (.int (nI G)), none, none]) (by simp [xle, hq]) ?_
    refine v_iload X (xdec_at tX2_firstLegOf_0 6 rfl) rfl ?_
    refine v_aload_n X (xdec_at tX2_firstLegOf_0 7 rfl) rfl rfl ?_
    refine x_get (v := .int (μ.1 10 0)) X hinX2 (3, 0) cX_R rfl 4 (by decide) (xw_at tW_2 6 rfl) rfl rfl rfl (xdec_at tX2_firstLegOf_0 8 rfl) ?_
    refine v_icmp_ge (tgt := 91) X (xdec_at tX2_firstLegOf_0 9 rfl) (by decide) (fun c_15 => ?_) (fun c_15 => ?_)
    · refine v_iload_n X (xdec_at tX2_firstLegOf_1 7 rfl) rfl rfl ?_
      exact v_iret X hr (xdec_at tX2_firstLegOf_1 8 rfl) (Nat.le_of_ble_eq_true rfl) (Nat.le_of_ble_eq_true rfl) ⟨rfl, by rw [hGn, hq], rfl⟩
    · exact absurd (show μ.1 10 0 ≤ nI G by rw [eG]; exact Int32.le_refl _) c_15
