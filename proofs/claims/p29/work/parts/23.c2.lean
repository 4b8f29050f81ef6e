set_option maxRecDepth 100000 in
set_option maxHeartbeats 4000000 in
theorem kyX4_postOf (l : Launch) (hl0 : l.stackTraces = false) (Z : xZ) (B0 : Nat) (lay : xK → Nat) (μ : Mu) (tb : Tb) (r : xK → Option xE)  (hI : RI μ) (p : Int32) : YX l yX4_postOf cX4_postOf 2 ((some (FieldType.object "Postunion$Post"))) 6 90 1 6 Z B0 [.ref (lay (0, 0)), .int p] lay (cX Z lay μ tb r) (fun v lay' C' => lay = lay' ∧ v = some (.ref (lay (10, ix p))) ∧ C' = cX Z lay μ tb r ∧ isP μ p) (fun E => E = eO ∧ ¬ isP μ p) := by
  refine YX_of myX4_postOf.2.2 RX4 rfl [some (.ref (lay (0, 0))), some (.int p)] rfl (Nat.le_of_ble_eq_true rfl) ?_
  intro P1 P2 P3 P4 P5 P6 P7 P8 X hr hE
  refine v_iload_n X (xdec_at tX4_postOf_0 0 rfl) rfl rfl ?_
  refine v_if_lt (tgt := 12) X (xdec_at tX4_postOf_0 1 rfl) (by decide) (fun c_1 => ?_) (fun c_1 => ?_)
  · exact v_throw X hE hl0 (text := "no such post") xinO xkO xiO (List.mem_of_getElem? (i := 1) rfl) xfO (xdec_at tX4_postOf_0 6 rfl) (xdec_at tX4_postOf_0 7 rfl) (xdec_at tX4_postOf_0 8 rfl) (xdec_at tX4_postOf_0 9 rfl) (xdec_at tX4_postOf_0 10 rfl) ⟨(Nat.le_of_ble_eq_true rfl), (Nat.le_of_ble_eq_true rfl), (Nat.le_of_ble_eq_true rfl), (Nat.le_of_ble_eq_true rfl)⟩ ⟨(Nat.le_of_ble_eq_true rfl), (Nat.le_of_ble_eq_true rfl)⟩ ⟨rfl, fun z => absurd c_1 (isP_lt hI z).2.1⟩
  · refine v_iload_n X (xdec_at tX4_postOf_0 2 rfl) rfl rfl ?_
    refine v_aload_n X (xdec_at tX4_postOf_0 3 rfl) rfl rfl ?_
    refine x_get (v := .int (μ.1 0 0)) X hinX4 (0, 0) cX_X rfl 3 (by decide) (xw_at tW_2 16 rfl) rfl rfl rfl (xdec_at tX4_postOf_0 4 rfl) ?_
    refine v_icmp_lt (tgt := 22) X (xdec_at tX4_postOf_0 5 rfl) (by decide) (fun c_9 => ?_) (fun c_9 => ?_)
    · refine v_aload_n X (xdec_at tX4_postOf_0 11 rfl) rfl rfl ?_
      refine x_get (v := .ref (lay (1, 0))) X hinX4 (0, 0) cX_X rfl 0 (by decide) (xw_at tW_2 13 rfl) rfl rfl rfl (xdec_at tX4_postOf_0 12 rfl) ?_
      refine v_iload_n X (xdec_at tX4_postOf_0 13 rfl) rfl rfl ?_
      refine x_aald3 (v := .ref (lay (10, ix p))) X (1, 0) cX_ps (hI.P (isP_of hI c_1 c_9)) rfl (by simp only []; rw [if_pos (isP_lt hI (isP_of hI c_1 c_9)).1]; rfl) (xdec_at tX4_postOf_0 14 rfl) ?_
      exact v_x (v_aret X hr (Or.inr ⟨_, rfl⟩) (xdec_at tX4_postOf_0 15 rfl) (Nat.le_of_ble_eq_true rfl) (Nat.le_of_ble_eq_true rfl) ⟨rfl, rfl, rfl, isP_of hI c_1 c_9⟩)
    · exact v_throw X hE hl0 (text := "no such post") xinO xkO xiO (List.mem_of_getElem? (i := 1) rfl) xfO (xdec_at tX4_postOf_0 6 rfl) (xdec_at tX4_postOf_0 7 rfl) (xdec_at tX4_postOf_0 8 rfl) (xdec_at tX4_postOf_0 9 rfl) (xdec_at tX4_postOf_0 10 rfl) ⟨(Nat.le_of_ble_eq_true rfl), (Nat.le_of_ble_eq_true rfl), (Nat.le_of_ble_eq_true rfl), (Nat.le_of_ble_eq_true rfl)⟩ ⟨(Nat.le_of_ble_eq_true rfl), (Nat.le_of_ble_eq_true rfl)⟩ ⟨rfl, fun z => absurd (isP_lt hI z).2.2 c_9⟩
set_option maxRecDepth 100000 in
set_option maxHeartbeats 4000000 in
theorem kyX4_thingOf (l : Launch) (hl0 : l.stackTraces = false) (Z : xZ) (B0 : Nat) (lay : xK → Nat) (μ : Mu) (tb : Tb) (r : xK → Option xE)  (hI : RI μ) (p : Int32) : YX l yX4_thingOf cX4_thingOf 2 ((some (FieldType.object "Postunion$Thing"))) 6 90 1 6 Z B0 [.ref (lay (0, 0)), .int p] lay (cX Z lay μ tb r) (fun v lay' C' => lay = lay' ∧ v = some (.ref (lay (30, ix p))) ∧ C' = cX Z lay μ tb r ∧ isT μ p) (fun E => E = eO ∧ ¬ isT μ p) := by
  refine YX_of myX4_thingOf.2.2 RX4 rfl [some (.ref (lay (0, 0))), some (.int p)] rfl (Nat.le_of_ble_eq_true rfl) ?_
  intro P1 P2 P3 P4 P5 P6 P7 P8 X hr hE
  refine v_iload_n X (xdec_at tX4_thingOf_0 0 rfl) rfl rfl ?_
  refine v_if_lt (tgt := 12) X (xdec_at tX4_thingOf_0 1 rfl) (by decide) (fun c_1 => ?_) (fun c_1 => ?_)
  · exact v_throw X hE hl0 (text := "no such thing") xinO xkO xiO (List.mem_of_getElem? (i := 8) rfl) xfO (xdec_at tX4_thingOf_0 6 rfl) (xdec_at tX4_thingOf_0 7 rfl) (xdec_at tX4_thingOf_0 8 rfl) (xdec_at tX4_thingOf_0 9 rfl) (xdec_at tX4_thingOf_0 10 rfl) ⟨(Nat.le_of_ble_eq_true rfl), (Nat.le_of_ble_eq_true rfl), (Nat.le_of_ble_eq_true rfl), (Nat.le_of_ble_eq_true rfl)⟩ ⟨(Nat.le_of_ble_eq_true rfl), (Nat.le_of_ble_eq_true rfl)⟩ ⟨rfl, fun z => absurd c_1 (isT_lt hI z).2.1⟩
  · refine v_iload_n X (xdec_at tX4_thingOf_0 2 rfl) rfl rfl ?_
    refine v_aload_n X (xdec_at tX4_thingOf_0 3 rfl) rfl rfl ?_
    refine x_get (v := .int (μ.1 16 0)) X hinX4 (0, 0) cX_X rfl 4 (by decide) (xw_at tW_2 17 rfl) rfl rfl rfl (xdec_at tX4_thingOf_0 4 rfl) ?_
    refine v_icmp_lt (tgt := 22) X (xdec_at tX4_thingOf_0 5 rfl) (by decide) (fun c_9 => ?_) (fun c_9 => ?_)
    · refine v_aload_n X (xdec_at tX4_thingOf_0 11 rfl) rfl rfl ?_
      refine x_get (v := .ref (lay (2, 0))) X hinX4 (0, 0) cX_X rfl 1 (by decide) (xw_at tW_2 14 rfl) rfl rfl rfl (xdec_at tX4_thingOf_0 12 rfl) ?_
      refine v_iload_n X (xdec_at tX4_thingOf_0 13 rfl) rfl rfl ?_
      refine x_aald4 (v := .ref (lay (30, ix p))) X (2, 0) cX_ts (hI.T (isT_of hI c_1 c_9)) rfl (by simp only []; rw [if_pos (isT_lt hI (isT_of hI c_1 c_9)).1]; rfl) (xdec_at tX4_thingOf_0 14 rfl) ?_
      exact v_x (v_aret X hr (Or.inr ⟨_, rfl⟩) (xdec_at tX4_thingOf_0 15 rfl) (Nat.le_of_ble_eq_true rfl) (Nat.le_of_ble_eq_true rfl) ⟨rfl, rfl, rfl, isT_of hI c_1 c_9⟩)
    · exact v_throw X hE hl0 (text := "no such thing") xinO xkO xiO (List.mem_of_getElem? (i := 8) rfl) xfO (xdec_at tX4_thingOf_0 6 rfl) (xdec_at tX4_thingOf_0 7 rfl) (xdec_at tX4_thingOf_0 8 rfl) (xdec_at tX4_thingOf_0 9 rfl) (xdec_at tX4_thingOf_0 10 rfl) ⟨(Nat.le_of_ble_eq_true rfl), (Nat.le_of_ble_eq_true rfl), (Nat.le_of_ble_eq_true rfl), (Nat.le_of_ble_eq_true rfl)⟩ ⟨(Nat.le_of_ble_eq_true rfl), (Nat.le_of_ble_eq_true rfl)⟩ ⟨rfl, fun z => absurd (isT_lt hI z).2.2 c_9⟩
set_option maxRecDepth 100000 in
set_option maxHeartbeats 4000000 in
theorem kyX4_demandWithin (l : Launch) (hl0 : l.stackTraces = false) (Z : xZ) (B0 : Nat) (lay : xK → Nat) (C : xK → Option xE) (a b c : Int32) : YX l yX4_demandWithin cX4_demandWithin 3 ((none : Option FieldType)) 6 90 1 6 Z B0 [.int a, .int b, .int c] lay C (fun v lay' C' => lay = lay' ∧ v = none ∧ C' = C ∧ inR a b c) (fun E => E = eA ∧ ¬ inR a b c) := by
  refine YX_of myX4_demandWithin.2 RX4 rfl [some (.int a), some (.int b), some (.int c)] rfl (Nat.le_of_ble_eq_true rfl) ?_
  intro P1 P2 P3 P4 P5 P6 P7 P8 X hr hE
  refine v_iload_n X (xdec_at tX4_demandWithin_0 0 rfl) rfl rfl ?_
  refine v_iload_n X (xdec_at tX4_demandWithin_0 1 rfl) rfl rfl ?_
  refine v_icmp_lt (tgt := 10) X (xdec_at tX4_demandWithin_0 2 rfl) (by decide) (fun c_2 => ?_) (fun c_2 => ?_)
  · exact v_throw X hE hl0 (text := "out of range") xinA xkA xiA (List.mem_of_getElem? (i := 2) rfl) xfA (xdec_at tX4_demandWithin_0 6 rfl) (xdec_at tX4_demandWithin_0 7 rfl) (xdec_at tX4_demandWithin_0 8 rfl) (xdec_at tX4_demandWithin_0 9 rfl) (xdec_at tX4_demandWithin_0 10 rfl) ⟨(Nat.le_of_ble_eq_true rfl), (Nat.le_of_ble_eq_true rfl), (Nat.le_of_ble_eq_true rfl), (Nat.le_of_ble_eq_true rfl)⟩ ⟨(Nat.le_of_ble_eq_true rfl), (Nat.le_of_ble_eq_true rfl)⟩ ⟨rfl, fun z => absurd z.1 (Int32.not_le.mpr c_2)⟩
  · refine v_iload_n X (xdec_at tX4_demandWithin_0 3 rfl) rfl rfl ?_
    refine v_iload_n X (xdec_at tX4_demandWithin_0 4 rfl) rfl rfl ?_
    refine v_icmp_le (tgt := 20) X (xdec_at tX4_demandWithin_0 5 rfl) (by decide) (fun c_7 => ?_) (fun c_7 => ?_)
    · exact v_x (v_vret X hr (xdec_at tX4_demandWithin_0 11 rfl) (Nat.le_of_ble_eq_true rfl) (Nat.le_of_ble_eq_true rfl) ⟨rfl, rfl, rfl, ⟨Int32.not_lt.mp c_2, c_7⟩⟩)
    · exact v_throw X hE hl0 (text := "out of range") xinA xkA xiA (List.mem_of_getElem? (i := 2) rfl) xfA (xdec_at tX4_demandWithin_0 6 rfl) (xdec_at tX4_demandWithin_0 7 rfl) (xdec_at tX4_demandWithin_0 8 rfl) (xdec_at tX4_demandWithin_0 9 rfl) (xdec_at tX4_demandWithin_0 10 rfl) ⟨(Nat.le_of_ble_eq_true rfl), (Nat.le_of_ble_eq_true rfl), (Nat.le_of_ble_eq_true rfl), (Nat.le_of_ble_eq_true rfl)⟩ ⟨(Nat.le_of_ble_eq_true rfl), (Nat.le_of_ble_eq_true rfl)⟩ ⟨rfl, fun z => absurd z.2 c_7⟩
set_option maxRecDepth 100000 in
set_option maxHeartbeats 4000000 in
theorem kyX4_demandKind (l : Launch) (hl0 : l.stackTraces = false) (Z : xZ) (B0 : Nat) (lay : xK → Nat) (C : xK → Option xE) (k : Int32) : YX l yX4_demandKind cX4_demandKind 1 ((none : Option FieldType)) 7 112 1 6 Z B0 [.int k] lay C (fun v lay' C' => lay = lay' ∧ v = none ∧ C' = C ∧ isK k) (fun E => E = eA ∧ ¬ isK k) := by
  refine YX_of myX4_demandKind.2 RX4 rfl [some (.int k)] rfl (Nat.le_of_ble_eq_true rfl) ?_
  intro P1 P2 P3 P4 P5 P6 P7 P8 X hr hE
  refine v_iload_n X (xdec_at tX4_demandKind_0 0 rfl) rfl rfl ?_
  refine v_iconst (v := 0) X (xdec_at tX4_demandKind_0 1 rfl) (by decide) ?_
  refine v_iconst (v := 2) X (xdec_at tX4_demandKind_0 2 rfl) (by decide) ?_
  refine v_xS X hE myX4_demandWithin [.int k, .int 0, .int 2] [] (kyX4_demandWithin l hl0 Z B0 lay C k 0 2) (xw_at tW_5 5 rfl) rfl rfl (by rfl) (Nat.le_of_ble_eq_true rfl) (xdec_at tX4_demandKind_0 3 rfl) ⟨(Nat.le_of_ble_eq_true rfl), (Nat.le_of_ble_eq_true rfl)⟩ ⟨(Nat.le_of_ble_eq_true rfl), (Nat.le_of_ble_eq_true rfl)⟩ ⟨(Nat.le_of_ble_eq_true rfl), (Nat.le_of_ble_eq_true rfl)⟩ (fun E h9 => h9) ?_
  rintro v9 lay9 C9 ⟨rfl, rfl, rfl, h_dw⟩
  exact v_x (v_vret X hr (xdec_at tX4_demandKind_0 4 rfl) (Nat.le_of_ble_eq_true rfl) (Nat.le_of_ble_eq_true rfl) ⟨rfl, rfl, rfl, h_dw⟩)
set_option maxRecDepth 100000 in
set_option maxHeartbeats 4000000 in
theorem kyX4_demandGrams (l : Launch) (hl0 : l.stackTraces = false) (Z : xZ) (B0 : Nat) (lay : xK → Nat) (C : xK → Option xE) (k g : Int32) : YX l yX4_demandGrams cX4_demandGrams 2 ((none : Option FieldType)) 7 112 1 6 Z B0 [.int k, .int g] lay C (fun v lay' C' => lay = lay' ∧ v = none ∧ C' = C ∧ arG k g) (fun E => E = eA ∧ ¬ arG k g) := by
  refine YX_of myX4_demandGrams.2 RX4 rfl [some (.int k), some (.int g)] rfl (Nat.le_of_ble_eq_true rfl) ?_
  intro P1 P2 P3 P4 P5 P6 P7 P8 X hr hE
  refine v_iload_n X (xdec_at tX4_demandGrams_0 0 rfl) rfl rfl ?_
  refine v_iconst (v := 1) X (xdec_at tX4_demandGrams_0 1 rfl) (by decide) ?_
  refine v_iload_n X (xdec_at tX4_demandGrams_0 2 rfl) rfl rfl ?_
  refine v_iconst (v := 1) X (xdec_at tX4_demandGrams_0 3 rfl) (by decide) ?_
  refine v_icmp_ne (tgt := 12) X (xdec_at tX4_demandGrams_0 4 rfl) (by decide) (fun c_4 => ?_) (fun c_4 => ?_)
  · refine v_sipush (v := 2000) X (xdec_at tX4_demandGrams_0 7 rfl) (by decide) ?_
    refine v_xS X hE myX4_demandWithin [.int g, .int 1, .int 2000] [] (kyX4_demandWithin l hl0 Z B0 lay C g 1 2000) (xw_at tW_5 5 rfl) rfl rfl (by rfl) (Nat.le_of_ble_eq_true rfl) (xdec_at tX4_demandGrams_0 8 rfl) ⟨(Nat.le_of_ble_eq_true rfl), (Nat.le_of_ble_eq_true rfl)⟩ ⟨(Nat.le_of_ble_eq_true rfl), (Nat.le_of_ble_eq_true rfl)⟩ ⟨(Nat.le_of_ble_eq_true rfl), (Nat.le_of_ble_eq_true rfl)⟩ (fun E h9 => ⟨h9.1, by simpa [arG, c_4] using h9.2⟩) ?_
    rintro v9 lay9 C9 ⟨rfl, rfl, rfl, h_dw⟩
    exact v_x (v_vret X hr (xdec_at tX4_demandGrams_0 9 rfl) (Nat.le_of_ble_eq_true rfl) (Nat.le_of_ble_eq_true rfl) ⟨rfl, rfl, rfl, (by simpa [arG, c_4] using h_dw)⟩)
  · refine v_bipush (v := 20) X (xdec_at tX4_demandGrams_0 5 rfl) (by decide) ?_
    refine v_goto (tgt := 15) X (xdec_at tX4_demandGrams_0 6 rfl) (by decide) ?_
    refine v_xS X hE myX4_demandWithin [.int g, .int 1, .int 20] [] (kyX4_demandWithin l hl0 Z B0 lay C g 1 20) (xw_at tW_5 5 rfl) rfl rfl (by rfl) (Nat.le_of_ble_eq_true rfl) (xdec_at tX4_demandGrams_0 8 rfl) ⟨(Nat.le_of_ble_eq_true rfl), (Nat.le_of_ble_eq_true rfl)⟩ ⟨(Nat.le_of_ble_eq_true rfl), (Nat.le_of_ble_eq_true rfl)⟩ ⟨(Nat.le_of_ble_eq_true rfl), (Nat.le_of_ble_eq_true rfl)⟩ (fun E h9 => ⟨h9.1, by simpa [arG, (eq_true c_4)] using h9.2⟩) ?_
    rintro v9 lay9 C9 ⟨rfl, rfl, rfl, h_dw⟩
    exact v_x (v_vret X hr (xdec_at tX4_demandGrams_0 9 rfl) (Nat.le_of_ble_eq_true rfl) (Nat.le_of_ble_eq_true rfl) ⟨rfl, rfl, rfl, (by simpa [arG, (eq_true c_4)] using h_dw)⟩)
set_option maxRecDepth 100000 in
set_option maxHeartbeats 4000000 in
theorem kyX4_demandChangeable (l : Launch) (hl0 : l.stackTraces = false) (Z : xZ) (B0 : Nat) (lay : xK → Nat) (μ : Mu) (tb : Tb) (r : xK → Option xE) (t : Nat) (ht : t < nT μ) : YX l yX4_demandChangeable cX4_demandChangeable 1 ((none : Option FieldType)) 6 90 1 6 Z B0 [.ref (lay (30, t))] lay (cX Z lay μ tb r) (fun v lay' C' => lay = lay' ∧ v = none ∧ C' = cX Z lay μ tb r ∧ (undW μ t ∧ μ.1 27 t = 0)) (fun E => E = eS ∧ ¬ (undW μ t ∧ μ.1 27 t = 0)) := by
  refine YX_of myX4_demandChangeable.2 RX4 rfl [some (.ref (lay (30, t)))] rfl (Nat.le_of_ble_eq_true rfl) ?_
  intro P1 P2 P3 P4 P5 P6 P7 P8 X hr hE
  refine v_aload_n X (xdec_at tX4_demandChangeable_0 0 rfl) rfl rfl ?_
  refine v_callV X myX3_isUnderWay [] [] (kyX3_isUnderWay l Z B0 lay μ tb r t ht) (xw_at tW_9 35 rfl) (30, t) (cX_T (μ := μ) ht) rfl rfl rfl rfl (by rfl) (Nat.le_of_ble_eq_true rfl) (xdec_at tX4_demandChangeable_0 1 rfl) ⟨(Nat.le_of_ble_eq_true rfl), (Nat.le_of_ble_eq_true rfl)⟩ ⟨(Nat.le_of_ble_eq_true rfl), (Nat.le_of_ble_eq_true rfl)⟩ ?_
  rintro v9 lay9 C9 ⟨rfl, rfl, ⟨rfl, q_1⟩ | ⟨rfl, q_1⟩⟩
  · refine v_if_eq (tgt := 14) X (xdec_at tX4_demandChangeable_0 2 rfl) (by decide) (fun h9 => absurd h9 (by decide)) (fun _ => ?_)
    refine v_aload_n X (xdec_at tX4_demandChangeable_0 3 rfl) rfl rfl ?_
    refine x_get (v := .int (μ.1 27 t)) X hinX3 (30, t) (cX_T (μ := μ) ht) rfl 11 (by decide) (xw_at tW_13 4 rfl) rfl rfl rfl (xdec_at tX4_demandChangeable_0 4 rfl) ?_
    refine v_if_eq (tgt := 24) X (xdec_at tX4_demandChangeable_0 5 rfl) (by decide) (fun c_11 => ?_) (fun c_11 => ?_)
    · exact v_x (v_vret X hr (xdec_at tX4_demandChangeable_0 11 rfl) (Nat.le_of_ble_eq_true rfl) (Nat.le_of_ble_eq_true rfl) ⟨rfl, rfl, rfl, ⟨q_1, c_11⟩⟩)
    · exact v_throw X hE hl0 (text := "the thing is not under way, or goes back") xinS xkS xiS (List.mem_of_getElem? (i := 10) rfl) xfS (xdec_at tX4_demandChangeable_0 6 rfl) (xdec_at tX4_demandChangeable_0 7 rfl) (xdec_at tX4_demandChangeable_0 8 rfl) (xdec_at tX4_demandChangeable_0 9 rfl) (xdec_at tX4_demandChangeable_0 10 rfl) ⟨(Nat.le_of_ble_eq_true rfl), (Nat.le_of_ble_eq_true rfl), (Nat.le_of_ble_eq_true rfl), (Nat.le_of_ble_eq_true rfl)⟩ ⟨(Nat.le_of_ble_eq_true rfl), (Nat.le_of_ble_eq_true rfl)⟩ ⟨rfl, fun z => absurd z.2 c_11⟩
  · refine v_if_eq (tgt := 14) X (xdec_at tX4_demandChangeable_0 2 rfl) (by decide) (fun _ => ?_) (fun h9 => absurd h9 (by decide))
    exact v_throw X hE hl0 (text := "the thing is not under way, or goes back") xinS xkS xiS (List.mem_of_getElem? (i := 10) rfl) xfS (xdec_at tX4_demandChangeable_0 6 rfl) (xdec_at tX4_demandChangeable_0 7 rfl) (xdec_at tX4_demandChangeable_0 8 rfl) (xdec_at tX4_demandChangeable_0 9 rfl) (xdec_at tX4_demandChangeable_0 10 rfl) ⟨(Nat.le_of_ble_eq_true rfl), (Nat.le_of_ble_eq_true rfl), (Nat.le_of_ble_eq_true rfl), (Nat.le_of_ble_eq_true rfl)⟩ ⟨(Nat.le_of_ble_eq_true rfl), (Nat.le_of_ble_eq_true rfl)⟩ ⟨rfl, fun z => absurd z.1 q_1⟩
