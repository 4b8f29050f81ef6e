set_option maxRecDepth 100000 in
set_option maxHeartbeats 4000000 in
theorem kyJ7_fill_53178 (l : Launch) (Z : xZ) (B0 : Nat) (lay : xK → Nat) (C : xK → Option xE) (k : xK) (n : Nat) (hn : n < 2 ^ 31) (f : Nat → Int32) (he : C k = some (.inl (Z.2 0, n, .inl f))) (v : Int32) : YM l yJ7_fill_53178 cJ7_fill_53178 4 ((none : Option FieldType)) 0 0 0 0 Z B0 [.ref (lay k), .int v] lay C (fun v9 lay' C' => lay = lay' ∧ v9 = none ∧ C' = (xup C k (.inl (Z.2 0, n, .inl (fun j => if j < n then v else f j))))) := by
  refine YM_of myJ7_fill_53178.2 RJ7 rfl [some (.ref (lay k)), some (.int v), none, none] rfl (Nat.le_of_ble_eq_true rfl) ?_
  intro P1 P2 P3 P4 P5 P6 P7 P8 X hr hnm
  refine v_iconst (v := 0) X (xdec_at tJ7_fill_53178_0 0 rfl) (by decide) ?_
  refine v_istore_n (lv' := [some (.ref (lay k)), some (.int v), some (.int 0), none]) X (xdec_at tJ7_fill_53178_0 1 rfl) rfl (by decide) rfl ?_
  refine v_aload_n X (xdec_at tJ7_fill_53178_0 2 rfl) rfl rfl ?_
  refine x_alen (v := nI n) X k 0 he rfl rfl rfl (xdec_at tJ7_fill_53178_0 3 rfl) ?_
  refine v_istore_n (lv' := [some (.ref (lay k)), some (.int v), some (.int 0), some (.int (nI n))]) X (xdec_at tJ7_fill_53178_0 4 rfl) rfl (by decide) rfl ?_
  refine v_c (C' := (xup C k (.inl (Z.2 0, n, .inl (fun j => if j < 0 then v else f j))))) (by rw [show (fun j => if j < 0 then v else f j) = f from funext fun j => if_neg (by omega), xup_id he]) ?_
  refine v_for n (fun j9 => (xup C k (.inl (Z.2 0, n, .inl (fun j => if j < j9 then v else f j))))) (fun j9 => [some (.ref (lay k)), some (.int v), some (.int (nI j9)), some (.int (nI n))]) 5 [] (fun i1 hi1 ih1 => ?_) ?_
  · refine v_iload_n X (xdec_at tJ7_fill_53178_0 5 rfl) rfl rfl ?_
    refine v_iload_n X (xdec_at tJ7_fill_53178_0 6 rfl) rfl rfl ?_
    refine v_icmp_ge (tgt := 20) X (xdec_at tJ7_fill_53178_0 7 rfl) (by decide) (fun c_7 => ?_) (fun c_7 => ?_)
    · exact absurd c_7 (nI_ge hi1 hn)
    · refine v_aload_n X (xdec_at tJ7_fill_53178_0 8 rfl) rfl rfl ?_
      refine v_iload_n X (xdec_at tJ7_fill_53178_0 9 rfl) rfl rfl ?_
      refine v_iload_n X (xdec_at tJ7_fill_53178_0 10 rfl) rfl rfl ?_
      refine x_iast (C' := (xup C k (.inl (Z.2 0, n, .inl (fun j => if j < (i1 + 1) then v else f j))))) X k (xup_at C k _) (fun q => by rcases q with q | q; exact nI_pos (by omega) q; rw [nI_clamp (by omega)] at q; omega) rfl (fun j => by rw [show (nI i1).toNatClampNeg = i1 from ix_nI (by omega), fill_step, xup_xup]) (xdec_at tJ7_fill_53178_0 11 rfl) ?_
      refine v_iinc (v := (nI (i1 + 1))) (lv' := [some (.ref (lay k)), some (.int v), some (.int (nI (i1 + 1))), some (.int (nI n))]) X (xdec_at tJ7_fill_53178_0 12 rfl) rfl (nI_1 _) (by decide) rfl ?_
      refine v_goto (tgt := 5) X (xdec_at tJ7_fill_53178_0 13 rfl) (by decide) ?_
      refine v_le (lv' := [some (.ref (lay k)), some (.int v), some (.int (nI (i1 + 1))), some (.int (nI n))]) (by simp [xle]) ?_
      exact v_c (C' := (xup C k (.inl (Z.2 0, n, .inl (fun j => if j < (i1 + 1) then v else f j))))) (by rfl) ih1
  · refine v_iload_n X (xdec_at tJ7_fill_53178_0 5 rfl) rfl rfl ?_
    refine v_iload_n X (xdec_at tJ7_fill_53178_0 6 rfl) rfl rfl ?_
    refine v_icmp_ge (tgt := 20) X (xdec_at tJ7_fill_53178_0 7 rfl) (by decide) (fun c_7 => ?_) (fun c_7 => ?_)
    · exact v_vret X hr (xdec_at tJ7_fill_53178_0 14 rfl) (Nat.le_of_ble_eq_true rfl) (Nat.le_of_ble_eq_true rfl) ⟨rfl, rfl, rfl⟩
    · exact absurd (Int32.le_refl (nI n)) c_7
set_option maxRecDepth 100000 in
set_option maxHeartbeats 4000000 in
theorem kyX2_reckonDirect (l : Launch) (Z : xZ) (B0 : Nat) (lay : xK → Nat) (μ : Mu) (tb : Tb) (r : xK → Option xE) (hI : RI μ) (hL : KL μ) : YM l yX2_reckonDirect cX2_reckonDirect 3 ((none : Option FieldType)) 2 63 0 0 Z B0 [.ref (lay (3, 0))] lay (cX Z lay μ tb r) (fun v lay' C' => lay = lay' ∧ v = none ∧ C' = (cX Z lay μ (K_dir μ tb.1, tb.2) r)) := by
  refine YM_of myX2_reckonDirect.2.2 RX2 rfl [some (.ref (lay (3, 0))), none, none] rfl (Nat.le_of_ble_eq_true rfl) ?_
  intro P1 P2 P3 P4 P5 P6 P7 P8 X hr hnm
  obtain ⟨G, hG20, eG⟩ := hI.2.1
  have hGn := nG_of hG20 eG
  refine v_aload_n X (xdec_at tX2_reckonDirect_0 0 rfl) rfl rfl ?_
  refine x_get (v := .ref (lay (5, 0))) X hinX2 (3, 0) cX_R rfl 1 (by decide) (xw_at tW_2 3 rfl) rfl rfl rfl (xdec_at tX2_reckonDirect_0 1 rfl) ?_
  refine v_ldc (v := 1000000) X (xw_at tW_1 13 rfl) (xdec_at tX2_reckonDirect_0 2 rfl) ?_
  refine v_callSO X mJfill [.ref (lay (5, 0)), .int 1000000] [] (kyJ7_fill_53178 l Z B0 lay (cX Z lay μ tb r) (5, 0) 64 (by decide) (tb.1 0) cX_t0 1000000) (xw_at tW_1 14 rfl) rfl (by rfl) (Nat.le_of_ble_eq_true rfl) (xdec_at tX2_reckonDirect_0 3 rfl) ⟨(Nat.le_of_ble_eq_true rfl), (Nat.le_of_ble_eq_true rfl)⟩ ⟨(Nat.le_of_ble_eq_true rfl), (Nat.le_of_ble_eq_true rfl)⟩ ?_
  rintro v9 lay9 C9 ⟨rfl, rfl, rfl⟩
  rw [fill_world]
  refine v_iconst (v := 0) X (xdec_at tX2_reckonDirect_0 4 rfl) (by decide) ?_
  refine v_istore_n (lv' := [some (.ref (lay (3, 0))), some (.int 0), none]) X (xdec_at tX2_reckonDirect_0 5 rfl) rfl (by decide) rfl ?_
  refine v_for G (fun j9 => (cX Z lay μ ((K_d1 μ j9 (T_fill tb.1 1000000)), tb.2) r)) (fun j9 => [some (.ref (lay (3, 0))), some (.int (nI j9)), none]) 11 [] (fun i1 hi1 ih1 => ?_) ?_
  · obtain ⟨T, hT⟩ : ∃ z, z = (K_d1 μ i1 (T_fill tb.1 1000000)) := ⟨_, rfl⟩
    refine v_c (C' := (cX Z lay μ (T, tb.2) r)) (by rw [hT]) ?_
    have hg1 : i1 < nG μ := by rw [hGn]; exact hi1
    refine v_iload_n X (xdec_at tX2_reckonDirect_0 6 rfl) rfl rfl ?_
    refine v_aload_n X (xdec_at tX2_reckonDirect_0 7 rfl) rfl rfl ?_
    refine x_get (v := .int (μ.1 10 0)) X hinX2 (3, 0) cX_R rfl 4 (by decide) (xw_at tW_2 6 rfl) rfl rfl rfl (xdec_at tX2_reckonDirect_0 8 rfl) ?_
    refine v_icmp_ge (tgt := 83) X (xdec_at tX2_reckonDirect_0 9 rfl) (by decide) (fun c_16 => ?_) (fun c_16 => ?_)
    · exact absurd c_16 (by rw [eG]; exact nI_ge hi1 (by omega))
    · refine v_aload_n X (xdec_at tX2_reckonDirect_0 10 rfl) rfl rfl ?_
      refine x_get (v := .ref (lay (4, 0))) X hinX2 (3, 0) cX_R rfl 0 (by decide) (xw_at tW_2 2 rfl) rfl rfl rfl (xdec_at tX2_reckonDirect_0 11 rfl) ?_
      refine v_iload_n X (xdec_at tX2_reckonDirect_0 12 rfl) rfl rfl ?_
      refine x_aald5 (v := .ref (lay (20, i1))) X (4, 0) cX_gs (vp_in_nI (n := i1) (N := 20) (by omega) (by decide)) rfl (aq_rf (f := fun i => lay (20, i)) (ix_nI (by omega)) hg1) (xdec_at tX2_reckonDirect_0 13 rfl) ?_
      refine v_astore_n (lv' := [some (.ref (lay (3, 0))), some (.int (nI i1)), some (.ref (lay (20, i1)))]) X (xdec_at tX2_reckonDirect_0 14 rfl) rfl (by decide) rfl ?_
      refine v_aload_n X (xdec_at tX2_reckonDirect_0 15 rfl) rfl rfl ?_
      refine x_get (v := .int (μ.1 14 i1)) X hinX0 (20, i1) (cX_G (μ := μ) hg1) rfl 3 (by decide) (xw_at tW_9 0 rfl) rfl rfl rfl (xdec_at tX2_reckonDirect_0 16 rfl) ?_
      refine v_if_ne (tgt := 77) X (xdec_at tX2_reckonDirect_0 17 rfl) (by decide) (fun c_30 => ?_) (fun c_30 => ?_)
      · refine v_iinc (v := (nI (i1 + 1))) (lv' := [some (.ref (lay (3, 0))), some (.int (nI (i1 + 1))), some (.ref (lay (20, i1)))]) X (xdec_at tX2_reckonDirect_0 38 rfl) rfl (nI_1 _) (by decide) rfl ?_
        refine v_goto (tgt := 11) X (xdec_at tX2_reckonDirect_0 39 rfl) (by decide) ?_
        refine v_le (lv' := [some (.ref (lay (3, 0))), some (.int (nI (i1 + 1))), none]) (by simp [xle]) ?_
        exact v_c (C' := (cX Z lay μ ((K_d1 μ (i1 + 1) (T_fill tb.1 1000000)), tb.2) r)) (by rw [K_d1, ← hT]; simp [K_ds, c_30]) ih1
      · refine v_aload_n X (xdec_at tX2_reckonDirect_0 18 rfl) rfl rfl ?_
        refine v_aload_n X (xdec_at tX2_reckonDirect_0 19 rfl) rfl rfl ?_
        refine x_get (v := .ref (lay (10, ix (μ.1 11 i1)))) X hinX0 (20, i1) (cX_G (μ := μ) hg1) rfl 0 (by decide) (xw_at tW_8 31 rfl) rfl rfl rfl (xdec_at tX2_reckonDirect_0 20 rfl) ?_
        refine x_get (v := .int (nI (ix (μ.1 11 i1)))) X hinX1 (10, ix (μ.1 11 i1)) (cX_P (μ := μ) (hL i1 hg1).1) rfl 0 (by decide) (xw_at tW_7 4 rfl) rfl rfl rfl (xdec_at tX2_reckonDirect_0 21 rfl) ?_
        refine v_aload_n X (xdec_at tX2_reckonDirect_0 22 rfl) rfl rfl ?_
        refine x_get (v := .ref (lay (10, ix (μ.1 12 i1)))) X hinX0 (20, i1) (cX_G (μ := μ) hg1) rfl 1 (by decide) (xw_at tW_8 34 rfl) rfl rfl rfl (xdec_at tX2_reckonDirect_0 23 rfl) ?_
        refine x_get (v := .int (nI (ix (μ.1 12 i1)))) X hinX1 (10, ix (μ.1 12 i1)) (cX_P (μ := μ) (hL i1 hg1).2.1) rfl 0 (by decide) (xw_at tW_7 4 rfl) rfl rfl rfl (xdec_at tX2_reckonDirect_0 24 rfl) ?_
        refine v_aload_n X (xdec_at tX2_reckonDirect_0 25 rfl) rfl rfl ?_
        refine x_get (v := .int (μ.1 13 i1)) X hinX0 (20, i1) (cX_G (μ := μ) hg1) rfl 2 (by decide) (xw_at tW_8 38 rfl) rfl rfl rfl (xdec_at tX2_reckonDirect_0 26 rfl) ?_
        refine v_callV X myX2_shorten [.int (nI (ix (μ.1 11 i1))), .int (nI (ix (μ.1 12 i1))), .int (μ.1 13 i1)] [] (kyX2_shorten l Z B0 lay μ (T, tb.2) r (ix (μ.1 11 i1)) (ix (μ.1 12 i1)) (by have h1 := (hL i1 hg1).1; have h2 := (hL i1 hg1).2.1; have h3 := nP8 hI; omega) (by have h1 := (hL i1 hg1).1; have h2 := (hL i1 hg1).2.1; have h3 := nP8 hI; omega) (μ.1 13 i1)) (xw_at tW_1 17 rfl) (3, 0) cX_R rfl rfl rfl rfl (by rfl) (Nat.le_of_ble_eq_true rfl) (xdec_at tX2_reckonDirect_0 27 rfl) ⟨(Nat.le_of_ble_eq_true rfl), (Nat.le_of_ble_eq_true rfl)⟩ ⟨(Nat.le_of_ble_eq_true rfl), (Nat.le_of_ble_eq_true rfl)⟩ ?_
        rintro v9 lay9 C9 ⟨rfl, rfl, rfl⟩
        refine v_aload_n X (xdec_at tX2_reckonDirect_0 28 rfl) rfl rfl ?_
        refine v_aload_n X (xdec_at tX2_reckonDirect_0 29 rfl) rfl rfl ?_
        refine x_get (v := .ref (lay (10, ix (μ.1 12 i1)))) X hinX0 (20, i1) (cX_G (μ := μ) hg1) rfl 1 (by decide) (xw_at tW_8 34 rfl) rfl rfl rfl (xdec_at tX2_reckonDirect_0 30 rfl) ?_
        refine x_get (v := .int (nI (ix (μ.1 12 i1)))) X hinX1 (10, ix (μ.1 12 i1)) (cX_P (μ := μ) (hL i1 hg1).2.1) rfl 0 (by decide) (xw_at tW_7 4 rfl) rfl rfl rfl (xdec_at tX2_reckonDirect_0 31 rfl) ?_
        refine v_aload_n X (xdec_at tX2_reckonDirect_0 32 rfl) rfl rfl ?_
        refine x_get (v := .ref (lay (10, ix (μ.1 11 i1)))) X hinX0 (20, i1) (cX_G (μ := μ) hg1) rfl 0 (by decide) (xw_at tW_8 31 rfl) rfl rfl rfl (xdec_at tX2_reckonDirect_0 33 rfl) ?_
        refine x_get (v := .int (nI (ix (μ.1 11 i1)))) X hinX1 (10, ix (μ.1 11 i1)) (cX_P (μ := μ) (hL i1 hg1).1) rfl 0 (by decide) (xw_at tW_7 4 rfl) rfl rfl rfl (xdec_at tX2_reckonDirect_0 34 rfl) ?_
        refine v_aload_n X (xdec_at tX2_reckonDirect_0 35 rfl) rfl rfl ?_
        refine x_get (v := .int (μ.1 13 i1)) X hinX0 (20, i1) (cX_G (μ := μ) hg1) rfl 2 (by decide) (xw_at tW_8 38 rfl) rfl rfl rfl (xdec_at tX2_reckonDirect_0 36 rfl) ?_
        refine v_callV X myX2_shorten [.int (nI (ix (μ.1 12 i1))), .int (nI (ix (μ.1 11 i1))), .int (μ.1 13 i1)] [] (kyX2_shorten l Z B0 lay μ ((K_sh T (ix (μ.1 11 i1)) (ix (μ.1 12 i1)) (μ.1 13 i1)), tb.2) r (ix (μ.1 12 i1)) (ix (μ.1 11 i1)) (by have h1 := (hL i1 hg1).1; have h2 := (hL i1 hg1).2.1; have h3 := nP8 hI; omega) (by have h1 := (hL i1 hg1).1; have h2 := (hL i1 hg1).2.1; have h3 := nP8 hI; omega) (μ.1 13 i1)) (xw_at tW_1 17 rfl) (3, 0) cX_R rfl rfl rfl rfl (by rfl) (Nat.le_of_ble_eq_true rfl) (xdec_at tX2_reckonDirect_0 37 rfl) ⟨(Nat.le_of_ble_eq_true rfl), (Nat.le_of_ble_eq_true rfl)⟩ ⟨(Nat.le_of_ble_eq_true rfl), (Nat.le_of_ble_eq_true rfl)⟩ ?_
        rintro v9 lay9 C9 ⟨rfl, rfl, rfl⟩
        refine v_iinc (v := (nI (i1 + 1))) (lv' := [some (.ref (lay (3, 0))), some (.int (nI (i1 + 1))), some (.ref (lay (20, i1)))]) X (xdec_at tX2_reckonDirect_0 38 rfl) rfl (nI_1 _) (by decide) rfl ?_
        refine v_goto (tgt := 11) X (xdec_at tX2_reckonDirect_0 39 rfl) (by decide) ?_
        refine v_le (lv' := [some (.ref (lay (3, 0))), some (.int (nI (i1 + 1))), none]) (by simp [xle]) ?_
        exact v_c (C' := (cX Z lay μ ((K_d1 μ (i1 + 1) (T_fill tb.1 1000000)), tb.2) r)) (by rw [K_d1, ← hT]; simp [K_ds, (eq_true c_30)]) ih1
  · obtain ⟨T, hT⟩ : ∃ z, z = (K_d1 μ G (T_fill tb.1 1000000)) := ⟨_, rfl⟩
    refine v_c (C' := (cX Z lay μ (T, tb.2) r)) (by rw [hT]) ?_
    refine v_iload_n X (xdec_at tX2_reckonDirect_0 6 rfl) rfl rfl ?_
    refine v_aload_n X (xdec_at tX2_reckonDirect_0 7 rfl) rfl rfl ?_
    refine x_get (v := .int (μ.1 10 0)) X hinX2 (3, 0) cX_R rfl 4 (by decide) (xw_at tW_2 6 rfl) rfl rfl rfl (xdec_at tX2_reckonDirect_0 8 rfl) ?_
    refine v_icmp_ge (tgt := 83) X (xdec_at tX2_reckonDirect_0 9 rfl) (by decide) (fun c_16 => ?_) (fun c_16 => ?_)
    · exact v_vret X hr (xdec_at tX2_reckonDirect_1 0 rfl) (Nat.le_of_ble_eq_true rfl) (Nat.le_of_ble_eq_true rfl) ⟨rfl, rfl, by rw [hT, K_dir, hGn]⟩
    · exact absurd (show μ.1 10 0 ≤ nI G by rw [eG]; exact Int32.le_refl _) c_16
set_option maxRecDepth 100000 in
set_option maxHeartbeats 4000000 in
theorem kyX2_reckonLeast (l : Launch) (Z : xZ) (B0 : Nat) (lay : xK → Nat) (μ : Mu) (tb : Tb) (r : xK → Option xE)  : YM l yX2_reckonLeast cX2_reckonLeast 5 ((none : Option FieldType)) 2 60 0 0 Z B0 [.ref (lay (3, 0))] lay (cX Z lay μ tb r) (fun v lay' C' => lay = lay' ∧ v = none ∧ C' = (cX Z lay μ (K_least tb.1, tb.2) r)) := by
  refine YM_of myX2_reckonLeast.2.2 RX2 rfl [some (.ref (lay (3, 0))), none, none, none, none] rfl (Nat.le_of_ble_eq_true rfl) ?_
  intro P1 P2 P3 P4 P5 P6 P7 P8 X hr hnm
  refine v_aload_n X (xdec_at tX2_reckonLeast_0 0 rfl) rfl rfl ?_
  refine x_get (v := .ref (lay (5, 0))) X hinX2 (3, 0) cX_R rfl 1 (by decide) (xw_at tW_2 3 rfl) rfl rfl rfl (xdec_at tX2_reckonLeast_0 1 rfl) ?_
  refine v_iconst (v := 0) X (xdec_at tX2_reckonLeast_0 2 rfl) (by decide) ?_
  refine v_aload_n X (xdec_at tX2_reckonLeast_0 3 rfl) rfl rfl ?_
  refine x_get (v := .ref (lay (6, 0))) X hinX2 (3, 0) cX_R rfl 2 (by decide) (xw_at tW_2 4 rfl) rfl rfl rfl (xdec_at tX2_reckonLeast_0 4 rfl) ?_
  refine v_iconst (v := 0) X (xdec_at tX2_reckonLeast_0 5 rfl) (by decide) ?_
  refine v_aload_n X (xdec_at tX2_reckonLeast_0 6 rfl) rfl rfl ?_
  refine x_get (v := .ref (lay (5, 0))) X hinX2 (3, 0) cX_R rfl 1 (by decide) (xw_at tW_2 3 rfl) rfl rfl rfl (xdec_at tX2_reckonLeast_0 7 rfl) ?_
  refine x_alen (v := 64) X (5, 0) 0 (cX_t0 (tb := tb)) rfl rfl rfl (xdec_at tX2_reckonLeast_0 8 rfl) ?_
  refine x_copyi (C' := (cX Z lay μ (T_copy tb.1, tb.2) r)) X (xw_at tW_1 29 rfl) (5, 0) (6, 0) cX_t0 cX_t1 rfl rfl (by decide) (by decide) (by decide) (fun j => by rw [copy_world]; rfl) (Nat.le_of_ble_eq_true rfl) (Nat.le_of_ble_eq_true rfl) (xdec_at tX2_reckonLeast_0 9 rfl) ?_
  refine v_iconst (v := 0) X (xdec_at tX2_reckonLeast_0 10 rfl) (by decide) ?_
  refine v_istore_n (lv' := [some (.ref (lay (3, 0))), some (.int 0), none, none, none]) X (xdec_at tX2_reckonLeast_0 11 rfl) rfl (by decide) rfl ?_
  refine v_for 8 (fun j9 => (cX Z lay μ ((K_l1 j9 (T_copy tb.1)), tb.2) r)) (fun j9 => [some (.ref (lay (3, 0))), some (.int (nI j9)), none, none, none]) 20 [] (fun i1 hi1 ih1 => ?_) ?_
  · obtain ⟨A, hA⟩ : ∃ z, z = (K_l1 i1 (T_copy tb.1)) := ⟨_, rfl⟩
    refine v_c (C' := (cX Z lay μ (A, tb.2) r)) (by rw [hA]) ?_
    refine v_iload_n X (xdec_at tX2_reckonLeast_0 12 rfl) rfl rfl ?_
    refine v_bipush (v := 8) X (xdec_at tX2_reckonLeast_0 13 rfl) (by decide) ?_
    refine v_icmp_ge (tgt := 43) X (xdec_at tX2_reckonLeast_0 14 rfl) (by decide) (fun c_23 => ?_) (fun c_23 => ?_)
    · exact absurd c_23 (nI_ge (b := 8) hi1 (by decide))
    · refine v_aload_n X (xdec_at tX2_reckonLeast_0 15 rfl) rfl rfl ?_
      refine x_get (v := .ref (lay (6, 0))) X hinX2 (3, 0) cX_R rfl 2 (by decide) (xw_at tW_2 4 rfl) rfl rfl rfl (xdec_at tX2_reckonLeast_0 16 rfl) ?_
      refine v_iload_n X (xdec_at tX2_reckonLeast_0 17 rfl) rfl rfl ?_
      refine v_iload_n X (xdec_at tX2_reckonLeast_0 18 rfl) rfl rfl ?_
      refine v_callS X myX2_cell [.int (nI i1), .int (nI i1)] [.ref (lay (6, 0))] (kyX2_cell l Z B0 lay (cX Z lay μ (A, tb.2) r) (nI i1) (nI i1)) (xw_at tW_1 20 rfl) rfl rfl (by rfl) (Nat.le_of_ble_eq_true rfl) (xdec_at tX2_reckonLeast_0 19 rfl) ⟨(Nat.le_of_ble_eq_true rfl), (Nat.le_of_ble_eq_true rfl)⟩ ⟨(Nat.le_of_ble_eq_true rfl), (Nat.le_of_ble_eq_true rfl)⟩ ?_
      rintro v9 lay9 C9 ⟨rfl, rfl, rfl⟩
      rw [cell_nI i1 i1]
      refine v_iconst (v := 0) X (xdec_at tX2_reckonLeast_0 20 rfl) (by decide) ?_
      refine x_iast (C' := (cX Z lay μ ((up2 A 1 (8 * i1 + i1) 0), tb.2) r)) X (6, 0) (cX_t1 (tb := (A, tb.2))) (vp_in_nI (by omega) (by decide)) rfl (by rw [show (nI (8 * i1 + i1)).toNatClampNeg = (8 * i1 + i1) from ix_nI (by omega)]; exact cw_t1 (tb := (A, tb.2))) (xdec_at tX2_reckonLeast_0 21 rfl) ?_
      refine v_iinc (v := (nI (i1 + 1))) (lv' := [some (.ref (lay (3, 0))), some (.int (nI (i1 + 1))), none, none, none]) X (xdec_at tX2_reckonLeast_0 22 rfl) rfl (nI_1 _) (by decide) rfl ?_
      refine v_goto (tgt := 20) X (xdec_at tX2_reckonLeast_0 23 rfl) (by decide) ?_
      refine v_le (lv' := [some (.ref (lay (3, 0))), some (.int (nI (i1 + 1))), none, none, none]) (by simp [xle]) ?_
      exact v_c (C' := (cX Z lay μ ((K_l1 (i1 + 1) (T_copy tb.1)), tb.2) r)) (by rw [K_l1, ← hA]) ih1
  · refine v_iload_n X (xdec_at tX2_reckonLeast_0 12 rfl) rfl rfl ?_
    refine v_bipush (v := 8) X (xdec_at tX2_reckonLeast_0 13 rfl) (by decide) ?_
    refine v_icmp_ge (tgt := 43) X (xdec_at tX2_reckonLeast_0 14 rfl) (by decide) (fun c_23 => ?_) (fun c_23 => ?_)
    · refine v_iconst (v := 0) X (xdec_at tX2_reckonLeast_0 24 rfl) (by decide) ?_
      refine v_istore_n (lv' := [some (.ref (lay (3, 0))), some (.int 0), none, none, none]) X (xdec_at tX2_reckonLeast_0 25 rfl) rfl (by decide) rfl ?_
      refine v_for 8 (fun j9 => (cX Z lay μ ((K_f3 j9 (K_l1 8 (T_copy tb.1))), tb.2) r)) (fun j9 => [some (.ref (lay (3, 0))), some (.int (nI j9)), none, none, none]) 45 [] (fun i2 hi2 ih2 => ?_) ?_
      · obtain ⟨A, hA⟩ : ∃ z, z = (K_f3 i2 (K_l1 8 (T_copy tb.1))) := ⟨_, rfl⟩
        refine v_c (C' := (cX Z lay μ (A, tb.2) r)) (by rw [hA]) ?_
        refine v_iload_n X (xdec_at tX2_reckonLeast_0 26 rfl) rfl rfl ?_
        refine v_bipush (v := 8) X (xdec_at tX2_reckonLeast_0 27 rfl) (by decide) ?_
        refine v_icmp_ge (tgt := 133) X (xdec_at tX2_reckonLeast_0 28 rfl) (by decide) (fun c_48 => ?_) (fun c_48 => ?_)
        · exact absurd c_48 (nI_ge (b := 8) hi2 (by decide))
        · refine v_iconst (v := 0) X (xdec_at tX2_reckonLeast_0 29 rfl) (by decide) ?_
          refine v_istore_n (lv' := [some (.ref (lay (3, 0))), some (.int (nI i2)), some (.int 0), none, none]) X (xdec_at tX2_reckonLeast_0 30 rfl) rfl (by decide) rfl ?_
          refine v_for 8 (fun j9 => (cX Z lay μ ((K_f2 i2 j9 A), tb.2) r)) (fun j9 => [some (.ref (lay (3, 0))), some (.int (nI i2)), some (.int (nI j9)), none, none]) 53 [] (fun i3 hi3 ih3 => ?_) ?_
          · obtain ⟨B, hB⟩ : ∃ z, z = (K_f2 i2 i3 A) := ⟨_, rfl⟩
            refine v_c (C' := (cX Z lay μ (B, tb.2) r)) (by rw [hB]) ?_
            refine v_iload_n X (xdec_at tX2_reckonLeast_0 31 rfl) rfl rfl ?_
            refine v_bipush (v := 8) X (xdec_at tX2_reckonLeast_0 32 rfl) (by decide) ?_
            refine v_icmp_ge (tgt := 127) X (xdec_at tX2_reckonLeast_0 33 rfl) (by decide) (fun c_56 => ?_) (fun c_56 => ?_)
            · exact absurd c_56 (nI_ge (b := 8) hi3 (by decide))
            · refine v_iconst (v := 0) X (xdec_at tX2_reckonLeast_0 34 rfl) (by decide) ?_
              refine v_istore_n (lv' := [some (.ref (lay (3, 0))), some (.int (nI i2)), some (.int (nI i3)), some (.int 0), none]) X (xdec_at tX2_reckonLeast_0 35 rfl) rfl (by decide) rfl ?_
              refine v_for 8 (fun j9 => (cX Z lay μ ((K_f1 i2 i3 j9 B), tb.2) r)) (fun j9 => [some (.ref (lay (3, 0))), some (.int (nI i2)), some (.int (nI i3)), some (.int (nI j9)), none]) 61 [] (fun i4 hi4 ih4 => ?_) ?_
              · obtain ⟨D, hD⟩ : ∃ z, z = (K_f1 i2 i3 i4 B) := ⟨_, rfl⟩
                refine v_c (C' := (cX Z lay μ (D, tb.2) r)) (by rw [hD]) ?_
                refine v_iload_n X (xdec_at tX2_reckonLeast_0 36 rfl) rfl rfl ?_
                refine v_bipush (v := 8) X (xdec_at tX2_reckonLeast_0 37 rfl) (by decide) ?_
                refine v_icmp_ge (tgt := 121) X (xdec_at tX2_reckonLeast_0 38 rfl) (by decide) (fun c_64 => ?_) (fun c_64 => ?_)
                · exact absurd c_64 (nI_ge (b := 8) hi4 (by decide))
                · refine v_aload_n X (xdec_at tX2_reckonLeast_0 39 rfl) rfl rfl ?_
                  refine x_get (v := .ref (lay (6, 0))) X hinX2 (3, 0) cX_R rfl 2 (by decide) (xw_at tW_2 4 rfl) rfl rfl rfl (xdec_at tX2_reckonLeast_1 0 rfl) ?_
                  refine v_iload_n X (xdec_at tX2_reckonLeast_1 1 rfl) rfl rfl ?_
                  refine v_iload_n X (xdec_at tX2_reckonLeast_1 2 rfl) rfl rfl ?_
                  refine v_callS X myX2_cell [.int (nI i3), .int (nI i2)] [.ref (lay (6, 0))] (kyX2_cell l Z B0 lay (cX Z lay μ (D, tb.2) r) (nI i3) (nI i2)) (xw_at tW_1 20 rfl) rfl rfl (by rfl) (Nat.le_of_ble_eq_true rfl) (xdec_at tX2_reckonLeast_1 3 rfl) ⟨(Nat.le_of_ble_eq_true rfl), (Nat.le_of_ble_eq_true rfl)⟩ ⟨(Nat.le_of_ble_eq_true rfl), (Nat.le_of_ble_eq_true rfl)⟩ ?_
                  rintro v9 lay9 C9 ⟨rfl, rfl, rfl⟩
                  rw [cell_nI i3 i2]
                  refine x_iald (v := (D 1 (8 * i3 + i2))) X (6, 0) (cX_t1 (tb := (D, tb.2))) (vp_in_nI (by omega) (by decide)) rfl (congrArg (D 1) (ix_nI (by omega))) (xdec_at tX2_reckonLeast_1 4 rfl) ?_
                  refine v_aload_n X (xdec_at tX2_reckonLeast_1 5 rfl) rfl rfl ?_
                  refine x_get (v := .ref (lay (6, 0))) X hinX2 (3, 0) cX_R rfl 2 (by decide) (xw_at tW_2 4 rfl) rfl rfl rfl (xdec_at tX2_reckonLeast_1 6 rfl) ?_
                  refine v_iload_n X (xdec_at tX2_reckonLeast_1 7 rfl) rfl rfl ?_
                  refine v_iload_n X (xdec_at tX2_reckonLeast_1 8 rfl) rfl rfl ?_
                  refine v_callS X myX2_cell [.int (nI i2), .int (nI i4)] [.ref (lay (6, 0)), .int (D 1 (8 * i3 + i2))] (kyX2_cell l Z B0 lay (cX Z lay μ (D, tb.2) r) (nI i2) (nI i4)) (xw_at tW_1 20 rfl) rfl rfl (by rfl) (Nat.le_of_ble_eq_true rfl) (xdec_at tX2_reckonLeast_1 9 rfl) ⟨(Nat.le_of_ble_eq_true rfl), (Nat.le_of_ble_eq_true rfl)⟩ ⟨(Nat.le_of_ble_eq_true rfl), (Nat.le_of_ble_eq_true rfl)⟩ ?_
                  rintro v9 lay9 C9 ⟨rfl, rfl, rfl⟩
                  rw [cell_nI i2 i4]
                  refine x_iald (v := (D 1 (8 * i2 + i4))) X (6, 0) (cX_t1 (tb := (D, tb.2))) (vp_in_nI (by omega) (by decide)) rfl (congrArg (D 1) (ix_nI (by omega))) (xdec_at tX2_reckonLeast_1 10 rfl) ?_
                  refine v_iadd X (xdec_at tX2_reckonLeast_1 11 rfl) ?_
                  refine v_istore (lv' := [some (.ref (lay (3, 0))), some (.int (nI i2)), some (.int (nI i3)), some (.int (nI i4)), some (.int ((D 1 (8 * i3 + i2)) + (D 1 (8 * i2 + i4))))]) X (xdec_at tX2_reckonLeast_1 12 rfl) (by decide) rfl ?_
                  refine v_aload_n X (xdec_at tX2_reckonLeast_1 13 rfl) rfl rfl ?_
                  refine x_get (v := .ref (lay (6, 0))) X hinX2 (3, 0) cX_R rfl 2 (by decide) (xw_at tW_2 4 rfl) rfl rfl rfl (xdec_at tX2_reckonLeast_1 14 rfl) ?_
                  refine v_iload_n X (xdec_at tX2_reckonLeast_1 15 rfl) rfl rfl ?_
                  refine v_iload_n X (xdec_at tX2_reckonLeast_1 16 rfl) rfl rfl ?_
                  refine v_callS X myX2_cell [.int (nI i3), .int (nI i4)] [.ref (lay (6, 0))] (kyX2_cell l Z B0 lay (cX Z lay μ (D, tb.2) r) (nI i3) (nI i4)) (xw_at tW_1 20 rfl) rfl rfl (by rfl) (Nat.le_of_ble_eq_true rfl) (xdec_at tX2_reckonLeast_1 17 rfl) ⟨(Nat.le_of_ble_eq_true rfl), (Nat.le_of_ble_eq_true rfl)⟩ ⟨(Nat.le_of_ble_eq_true rfl), (Nat.le_of_ble_eq_true rfl)⟩ ?_
                  rintro v9 lay9 C9 ⟨rfl, rfl, rfl⟩
                  rw [cell_nI i3 i4]
                  refine v_aload_n X (xdec_at tX2_reckonLeast_1 18 rfl) rfl rfl ?_
                  refine x_get (v := .ref (lay (6, 0))) X hinX2 (3, 0) cX_R rfl 2 (by decide) (xw_at tW_2 4 rfl) rfl rfl rfl (xdec_at tX2_reckonLeast_1 19 rfl) ?_
                  refine v_iload_n X (xdec_at tX2_reckonLeast_1 20 rfl) rfl rfl ?_
                  refine v_iload_n X (xdec_at tX2_reckonLeast_1 21 rfl) rfl rfl ?_
                  refine v_callS X myX2_cell [.int (nI i3), .int (nI i4)] [.ref (lay (6, 0)), .int (nI (8 * i3 + i4)), .ref (lay (6, 0))] (kyX2_cell l Z B0 lay (cX Z lay μ (D, tb.2) r) (nI i3) (nI i4)) (xw_at tW_1 20 rfl) rfl rfl (by rfl) (Nat.le_of_ble_eq_true rfl) (xdec_at tX2_reckonLeast_1 22 rfl) ⟨(Nat.le_of_ble_eq_true rfl), (Nat.le_of_ble_eq_true rfl)⟩ ⟨(Nat.le_of_ble_eq_true rfl), (Nat.le_of_ble_eq_true rfl)⟩ ?_
                  rintro v9 lay9 C9 ⟨rfl, rfl, rfl⟩
                  rw [cell_nI i3 i4]
                  refine x_iald (v := (D 1 (8 * i3 + i4))) X (6, 0) (cX_t1 (tb := (D, tb.2))) (vp_in_nI (by omega) (by decide)) rfl (congrArg (D 1) (ix_nI (by omega))) (xdec_at tX2_reckonLeast_1 23 rfl) ?_
                  refine v_iload X (xdec_at tX2_reckonLeast_1 24 rfl) rfl ?_
                  refine v_min X (xw_at tW_1 23 rfl) ⟨(Nat.le_of_ble_eq_true rfl), (Nat.le_of_ble_eq_true rfl)⟩ ⟨(Nat.le_of_ble_eq_true rfl), (Nat.le_of_ble_eq_true rfl)⟩ (xdec_at tX2_reckonLeast_1 25 rfl) ?_
                  refine x_iast (C' := (cX Z lay μ ((up2 D 1 (8 * i3 + i4) (K_min (D 1 (8 * i3 + i4)) ((D 1 (8 * i3 + i2)) + (D 1 (8 * i2 + i4))))), tb.2) r)) X (6, 0) (cX_t1 (tb := (D, tb.2))) (vp_in_nI (by omega) (by decide)) rfl (by rw [show (nI (8 * i3 + i4)).toNatClampNeg = (8 * i3 + i4) from ix_nI (by omega)]; exact cw_t1 (tb := (D, tb.2))) (xdec_at tX2_reckonLeast_1 26 rfl) ?_
                  refine v_iinc (v := (nI (i4 + 1))) (lv' := [some (.ref (lay (3, 0))), some (.int (nI i2)), some (.int (nI i3)), some (.int (nI (i4 + 1))), some (.int ((D 1 (8 * i3 + i2)) + (D 1 (8 * i2 + i4))))]) X (xdec_at tX2_reckonLeast_1 27 rfl) rfl (nI_1 _) (by decide) rfl ?_
                  refine v_goto (tgt := 61) X (xdec_at tX2_reckonLeast_1 28 rfl) (by decide) ?_
                  refine v_le (lv' := [some (.ref (lay (3, 0))), some (.int (nI i2)), some (.int (nI i3)), some (.int (nI (i4 + 1))), none]) (by simp [xle]) ?_
                  exact v_c (C' := (cX Z lay μ ((K_f1 i2 i3 (i4 + 1) B), tb.2) r)) (by rw [K_f1, ← hD]) ih4
              · refine v_iload_n X (xdec_at tX2_reckonLeast_0 36 rfl) rfl rfl ?_
                refine v_bipush (v := 8) X (xdec_at tX2_reckonLeast_0 37 rfl) (by decide) ?_
                refine v_icmp_ge (tgt := 121) X (xdec_at tX2_reckonLeast_0 38 rfl) (by decide) (fun _ => ?_) (fun h9 => absurd c_23 h9)
                refine v_iinc (v := (nI (i3 + 1))) (lv' := [some (.ref (lay (3, 0))), some (.int (nI i2)), some (.int (nI (i3 + 1))), some (.int (nI 8)), none]) X (xdec_at tX2_reckonLeast_1 29 rfl) rfl (nI_1 _) (by decide) rfl ?_
                refine v_goto (tgt := 53) X (xdec_at tX2_reckonLeast_1 30 rfl) (by decide) ?_
                refine v_le (lv' := [some (.ref (lay (3, 0))), some (.int (nI i2)), some (.int (nI (i3 + 1))), none, none]) (by simp [xle]) ?_
                exact v_c (C' := (cX Z lay μ ((K_f2 i2 (i3 + 1) A), tb.2) r)) (by rw [K_f2, ← hB]) ih3
          · refine v_iload_n X (xdec_at tX2_reckonLeast_0 31 rfl) rfl rfl ?_
            refine v_bipush (v := 8) X (xdec_at tX2_reckonLeast_0 32 rfl) (by decide) ?_
            refine v_icmp_ge (tgt := 127) X (xdec_at tX2_reckonLeast_0 33 rfl) (by decide) (fun _ => ?_) (fun h9 => absurd c_23 h9)
            refine v_iinc (v := (nI (i2 + 1))) (lv' := [some (.ref (lay (3, 0))), some (.int (nI (i2 + 1))), some (.int (nI 8)), none, none]) X (xdec_at tX2_reckonLeast_1 31 rfl) rfl (nI_1 _) (by decide) rfl ?_
            refine v_goto (tgt := 45) X (xdec_at tX2_reckonLeast_1 32 rfl) (by decide) ?_
            refine v_le (lv' := [some (.ref (lay (3, 0))), some (.int (nI (i2 + 1))), none, none, none]) (by simp [xle]) ?_
            exact v_c (C' := (cX Z lay μ ((K_f3 (i2 + 1) (K_l1 8 (T_copy tb.1))), tb.2) r)) (by rw [K_f3, ← hA]) ih2
      · refine v_iload_n X (xdec_at tX2_reckonLeast_0 26 rfl) rfl rfl ?_
        refine v_bipush (v := 8) X (xdec_at tX2_reckonLeast_0 27 rfl) (by decide) ?_
        refine v_icmp_ge (tgt := 133) X (xdec_at tX2_reckonLeast_0 28 rfl) (by decide) (fun _ => ?_) (fun h9 => absurd c_23 h9)
        exact v_vret X hr (xdec_at tX2_reckonLeast_1 33 rfl) (Nat.le_of_ble_eq_true rfl) (Nat.le_of_ble_eq_true rfl) ⟨rfl, rfl, rfl⟩
    · exact absurd (show (8 : Int32) ≤ nI 8 by decide) c_23
set_option maxRecDepth 100000 in
set_option maxHeartbeats 4000000 in
theorem kyX2_reckonOnward (l : Launch) (Z : xZ) (B0 : Nat) (lay : xK → Nat) (μ : Mu) (tb : Tb) (r : xK → Option xE) (hI : RI μ) (hL : KL μ) : YM l yX2_reckonOnward cX2_reckonOnward 3 ((none : Option FieldType)) 2 48 0 0 Z B0 [.ref (lay (3, 0))] lay (cX Z lay μ tb r) (fun v lay' C' => lay = lay' ∧ v = none ∧ C' = (cX Z lay μ (K_o2 μ 8 tb.1, tb.2) r)) := by
  refine YM_of myX2_reckonOnward.2.2 RX2 rfl [some (.ref (lay (3, 0))), none, none] rfl (Nat.le_of_ble_eq_true rfl) ?_
  intro P1 P2 P3 P4 P5 P6 P7 P8 X hr hnm
  refine v_iconst (v := 0) X (xdec_at tX2_reckonOnward_0 0 rfl) (by decide) ?_
  refine v_istore_n (lv' := [some (.ref (lay (3, 0))), some (.int 0), none]) X (xdec_at tX2_reckonOnward_0 1 rfl) rfl (by decide) rfl ?_
  refine v_for 8 (fun j9 => (cX Z lay μ ((K_o2 μ j9 tb.1), tb.2) r)) (fun j9 => [some (.ref (lay (3, 0))), some (.int (nI j9)), none]) 2 [] (fun i1 hi1 ih1 => ?_) ?_
  · obtain ⟨A, hA⟩ : ∃ z, z = (K_o2 μ i1 tb.1) := ⟨_, rfl⟩
    refine v_c (C' := (cX Z lay μ (A, tb.2) r)) (by rw [hA]) ?_
    refine v_iload_n X (xdec_at tX2_reckonOnward_0 2 rfl) rfl rfl ?_
    refine v_bipush (v := 8) X (xdec_at tX2_reckonOnward_0 3 rfl) (by decide) ?_
    refine v_icmp_ge (tgt := 44) X (xdec_at tX2_reckonOnward_0 4 rfl) (by decide) (fun c_5 => ?_) (fun c_5 => ?_)
    · exact absurd c_5 (nI_ge (b := 8) hi1 (by decide))
    · refine v_iconst (v := 0) X (xdec_at tX2_reckonOnward_0 5 rfl) (by decide) ?_
      refine v_istore_n (lv' := [some (.ref (lay (3, 0))), some (.int (nI i1)), some (.int 0)]) X (xdec_at tX2_reckonOnward_0 6 rfl) rfl (by decide) rfl ?_
      refine v_for 8 (fun j9 => (cX Z lay μ ((K_o1 μ i1 j9 A), tb.2) r)) (fun j9 => [some (.ref (lay (3, 0))), some (.int (nI i1)), some (.int (nI j9))]) 10 [] (fun i2 hi2 ih2 => ?_) ?_
      · obtain ⟨B, hB⟩ : ∃ z, z = (K_o1 μ i1 i2 A) := ⟨_, rfl⟩
        refine v_c (C' := (cX Z lay μ (B, tb.2) r)) (by rw [hB]) ?_
        refine v_iload_n X (xdec_at tX2_reckonOnward_0 7 rfl) rfl rfl ?_
        refine v_bipush (v := 8) X (xdec_at tX2_reckonOnward_0 8 rfl) (by decide) ?_
        refine v_icmp_ge (tgt := 38) X (xdec_at tX2_reckonOnward_0 9 rfl) (by decide) (fun c_13 => ?_) (fun c_13 => ?_)
        · exact absurd c_13 (nI_ge (b := 8) hi2 (by decide))
        · refine v_aload_n X (xdec_at tX2_reckonOnward_0 10 rfl) rfl rfl ?_
          refine x_get (v := .ref (lay (7, 0))) X hinX2 (3, 0) cX_R rfl 3 (by decide) (xw_at tW_2 5 rfl) rfl rfl rfl (xdec_at tX2_reckonOnward_0 11 rfl) ?_
          refine v_iload_n X (xdec_at tX2_reckonOnward_0 12 rfl) rfl rfl ?_
          refine v_iload_n X (xdec_at tX2_reckonOnward_0 13 rfl) rfl rfl ?_
          refine v_callS X myX2_cell [.int (nI i1), .int (nI i2)] [.ref (lay (7, 0))] (kyX2_cell l Z B0 lay (cX Z lay μ (B, tb.2) r) (nI i1) (nI i2)) (xw_at tW_1 20 rfl) rfl rfl (by rfl) (Nat.le_of_ble_eq_true rfl) (xdec_at tX2_reckonOnward_0 14 rfl) ⟨(Nat.le_of_ble_eq_true rfl), (Nat.le_of_ble_eq_true rfl)⟩ ⟨(Nat.le_of_ble_eq_true rfl), (Nat.le_of_ble_eq_true rfl)⟩ ?_
          rintro v9 lay9 C9 ⟨rfl, rfl, rfl⟩
          rw [cell_nI i1 i2]
          refine v_aload_n X (xdec_at tX2_reckonOnward_0 15 rfl) rfl rfl ?_
          refine v_iload_n X (xdec_at tX2_reckonOnward_0 16 rfl) rfl rfl ?_
          refine v_iload_n X (xdec_at tX2_reckonOnward_0 17 rfl) rfl rfl ?_
          refine v_callV X myX2_firstLegOf [.int (nI i1), .int (nI i2)] [.int (nI (8 * i1 + i2)), .ref (lay (7, 0))] (kyX2_firstLegOf l Z B0 lay μ (B, tb.2) r hI hL i1 i2 hi1 hi2) (xw_at tW_1 35 rfl) (3, 0) cX_R rfl rfl rfl rfl (by rfl) (Nat.le_of_ble_eq_true rfl) (xdec_at tX2_reckonOnward_0 18 rfl) ⟨(Nat.le_of_ble_eq_true rfl), (Nat.le_of_ble_eq_true rfl)⟩ ⟨(Nat.le_of_ble_eq_true rfl), (Nat.le_of_ble_eq_true rfl)⟩ ?_
          rintro v9 lay9 C9 ⟨rfl, rfl, rfl⟩
          refine x_iast (C' := (cX Z lay μ ((up2 B 2 (8 * i1 + i2) ((K_fl1 μ B i1 i2 (nG μ)).1)), tb.2) r)) X (7, 0) (cX_t2 (tb := (B, tb.2))) (vp_in_nI (by omega) (by decide)) rfl (by rw [show (nI (8 * i1 + i2)).toNatClampNeg = (8 * i1 + i2) from ix_nI (by omega)]; exact cw_t2 (tb := (B, tb.2))) (xdec_at tX2_reckonOnward_0 19 rfl) ?_
          refine v_iinc (v := (nI (i2 + 1))) (lv' := [some (.ref (lay (3, 0))), some (.int (nI i1)), some (.int (nI (i2 + 1)))]) X (xdec_at tX2_reckonOnward_0 20 rfl) rfl (nI_1 _) (by decide) rfl ?_
          refine v_goto (tgt := 10) X (xdec_at tX2_reckonOnward_0 21 rfl) (by decide) ?_
          refine v_le (lv' := [some (.ref (lay (3, 0))), some (.int (nI i1)), some (.int (nI (i2 + 1)))]) (by simp [xle]) ?_
          exact v_c (C' := (cX Z lay μ ((K_o1 μ i1 (i2 + 1) A), tb.2) r)) (by rw [K_o1, ← hB]) ih2
      · refine v_iload_n X (xdec_at tX2_reckonOnward_0 7 rfl) rfl rfl ?_
        refine v_bipush (v := 8) X (xdec_at tX2_reckonOnward_0 8 rfl) (by decide) ?_
        refine v_icmp_ge (tgt := 38) X (xdec_at tX2_reckonOnward_0 9 rfl) (by decide) (fun c_13 => ?_) (fun c_13 => ?_)
        · refine v_iinc (v := (nI (i1 + 1))) (lv' := [some (.ref (lay (3, 0))), some (.int (nI (i1 + 1))), some (.int (nI 8))]) X (xdec_at tX2_reckonOnward_0 22 rfl) rfl (nI_1 _) (by decide) rfl ?_
          refine v_goto (tgt := 2) X (xdec_at tX2_reckonOnward_0 23 rfl) (by decide) ?_
          refine v_le (lv' := [some (.ref (lay (3, 0))), some (.int (nI (i1 + 1))), none]) (by simp [xle]) ?_
          exact v_c (C' := (cX Z lay μ ((K_o2 μ (i1 + 1) tb.1), tb.2) r)) (by rw [K_o2, ← hA]) ih1
        · exact absurd (show (8 : Int32) ≤ nI 8 by decide) c_13
  · refine v_iload_n X (xdec_at tX2_reckonOnward_0 2 rfl) rfl rfl ?_
    refine v_bipush (v := 8) X (xdec_at tX2_reckonOnward_0 3 rfl) (by decide) ?_
    refine v_icmp_ge (tgt := 44) X (xdec_at tX2_reckonOnward_0 4 rfl) (by decide) (fun c_5 => ?_) (fun c_5 => ?_)
    · exact v_vret X hr (xdec_at tX2_reckonOnward_0 24 rfl) (Nat.le_of_ble_eq_true rfl) (Nat.le_of_ble_eq_true rfl) ⟨rfl, rfl, rfl⟩
    · exact absurd (show (8 : Int32) ≤ nI 8 by decide) c_5
set_option maxRecDepth 100000 in
set_option maxHeartbeats 4000000 in
theorem kyX2_reckon (l : Launch) (Z : xZ) (B0 : Nat) (lay : xK → Nat) (μ : Mu) (tb : Tb) (r : xK → Option xE) (hI : RI μ) (hL : KL μ) : YM l yX2_reckon cX2_reckon 1 ((none : Option FieldType)) 3 85 0 0 Z B0 [.ref (lay (3, 0))] lay (cX Z lay μ tb r) (fun v lay' C' => lay = lay' ∧ v = none ∧ C' = (cX Z lay μ (K_reckon μ tb.1, tb.2) r)) := by
  refine YM_of myX2_reckon.2.2 RX2 rfl [some (.ref (lay (3, 0)))] rfl (Nat.le_of_ble_eq_true rfl) ?_
  intro P1 P2 P3 P4 P5 P6 P7 P8 X hr hnm
  refine v_aload_n X (xdec_at tX2_reckon_0 0 rfl) rfl rfl ?_
  refine v_callV X myX2_reckonDirect [] [] (kyX2_reckonDirect l Z B0 lay μ tb r hI hL) (xw_at tW_1 10 rfl) (3, 0) cX_R rfl rfl rfl rfl (by rfl) (Nat.le_of_ble_eq_true rfl) (xdec_at tX2_reckon_0 1 rfl) ⟨(Nat.le_of_ble_eq_true rfl), (Nat.le_of_ble_eq_true rfl)⟩ ⟨(Nat.le_of_ble_eq_true rfl), (Nat.le_of_ble_eq_true rfl)⟩ ?_
  rintro v9 lay9 C9 ⟨rfl, rfl, rfl⟩
  refine v_aload_n X (xdec_at tX2_reckon_0 2 rfl) rfl rfl ?_
  refine v_callV X myX2_reckonLeast [] [] (kyX2_reckonLeast l Z B0 lay μ ((K_dir μ tb.1), tb.2) r) (xw_at tW_1 26 rfl) (3, 0) cX_R rfl rfl rfl rfl (by rfl) (Nat.le_of_ble_eq_true rfl) (xdec_at tX2_reckon_0 3 rfl) ⟨(Nat.le_of_ble_eq_true rfl), (Nat.le_of_ble_eq_true rfl)⟩ ⟨(Nat.le_of_ble_eq_true rfl), (Nat.le_of_ble_eq_true rfl)⟩ ?_
  rintro v9 lay9 C9 ⟨rfl, rfl, rfl⟩
  refine v_aload_n X (xdec_at tX2_reckon_0 4 rfl) rfl rfl ?_
  refine v_callV X myX2_reckonOnward [] [] (kyX2_reckonOnward l Z B0 lay μ ((K_least (K_dir μ tb.1)), tb.2) r hI hL) (xw_at tW_1 32 rfl) (3, 0) cX_R rfl rfl rfl rfl (by rfl) (Nat.le_of_ble_eq_true rfl) (xdec_at tX2_reckon_0 5 rfl) ⟨(Nat.le_of_ble_eq_true rfl), (Nat.le_of_ble_eq_true rfl)⟩ ⟨(Nat.le_of_ble_eq_true rfl), (Nat.le_of_ble_eq_true rfl)⟩ ?_
  rintro v9 lay9 C9 ⟨rfl, rfl, rfl⟩
  exact v_vret X hr (xdec_at tX2_reckon_0 6 rfl) (Nat.le_of_ble_eq_true rfl) (Nat.le_of_ble_eq_true rfl) ⟨rfl, rfl, rfl⟩
