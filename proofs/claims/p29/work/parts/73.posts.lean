/-! the law's posts -/
theorem rt1 {μ : Mu} {p : Nat} {q f g : Int32} (hI : RI μ) (hp : p < nP μ) (hq : isK q) : M_rateOf (up2 (up2 μ.1 1 (3 * p + ix q) f) 2 (3 * p + ix q) g, μ.2) q (nI p) 1 0 = f := by
  rw [rates_at hI hp hq, show ((1 : Int32) - 1) / 20 = 0 by decide, Int32.mul_zero, Int32.add_zero, if_pos rfl, Int32.add_zero]
theorem rt20 {μ : Mu} {p : Nat} {q f g : Int32} (hI : RI μ) (hp : p < nP μ) (hq : isK q) : M_rateOf (up2 (up2 μ.1 1 (3 * p + ix q) f) 2 (3 * p + ix q) g, μ.2) q (nI p) 20 1 = f + 50 := by
  rw [rates_at hI hp hq, show ((20 : Int32) - 1) / 20 = 0 by decide, Int32.mul_zero, Int32.add_zero, if_neg (by decide)]
theorem rt45 {μ : Mu} {p : Nat} {q f g : Int32} (hI : RI μ) (hp : p < nP μ) (hq : isK q) : M_rateOf (up2 (up2 μ.1 1 (3 * p + ix q) f) 2 (3 * p + ix q) g, μ.2) q (nI p) 45 0 = f + 2 * g := by
  rw [rates_at hI hp hq, show ((45 : Int32) - 1) / 20 = 2 by decide, Int32.mul_comm g 2, if_pos rfl, Int32.add_zero]
theorem arG_1 (q : Int32) : arG q 1 := by
  unfold arG
  split <;> decide
theorem arG_45 {q : Int32} (h : ¬ q = 1) : arG q 45 := by
  unfold arG
  rw [if_neg h]
  decide
theorem u_at {A : Nat → Nat → Int32} {j i : Nat} {v : Int32} : up2 A j i v j i = v := by rw [up2_at, if_pos ⟨rfl, rfl⟩]
set_option maxRecDepth 100000 in
set_option maxHeartbeats 8000000 in
theorem c_posts {l : Launch} (hl0 : l.stackTraces = false) {Z : xZ} {B0 : Nat} {lay : xK → Nat} {μ : Mu} {tb : Tb} {k : Nat} (x z : Int32) (hL : LJ μ tb k) (hg : 0 < nG μ → 3 ≤ nP μ) : YL l yL_posts cL_posts 12 (some FieldType.boolean) 23 850 900 7000 Z B0 [.ref (lay (0, 0)), .ref (lay (500, 0)), .ref (lay (300, 0)), .int x, .int z] lay (W2 Z lay μ tb μ tb (dR Z (dv μ))) (LPo Z lay tb k) := by
  have hP8 := nP8 hL.I
  have hG20 := nG20 hL.I
  have hf := dv_F hL.I
  refine YL_of myL_posts.2 RL rfl [some (.ref (lay (0, 0))), some (.ref (lay (500, 0))), some (.ref (lay (300, 0))), some (.int x), some (.int z), none, none, none, none, none, none, none] rfl (Nat.le_of_ble_eq_true rfl) ?_
  intro P1 P2 P3 P4 P5 P6 P7 P8 X hr hE
  refine v_iload_n X (xdec_at tL_posts_0 0 rfl) rfl rfl ?_
  refine v_bipush (v := 14) X (xdec_at tL_posts_0 1 rfl) (by decide) ?_
  refine v_wL X hE myL_some [.int x, .int (nI 14)] [] (c_some x (n := 14) (by decide) (by decide)) (xw_at tW_2 29 rfl) rfl rfl (by rfl) (Nat.le_of_ble_eq_true rfl) (xdec_at tL_posts_0 2 rfl) ⟨(Nat.le_of_ble_eq_true rfl), (Nat.le_of_ble_eq_true rfl)⟩ ⟨(Nat.le_of_ble_eq_true rfl), (Nat.le_of_ble_eq_true rfl)⟩ ?_
  rintro v9 lay9 C9 ⟨rfl, rfl, u0, hu0, rfl⟩
  refine v_istore (lv' := [some (.ref (lay (0, 0))), some (.ref (lay (500, 0))), some (.ref (lay (300, 0))), some (.int x), some (.int z), some (.int (nI u0)), none, none, none, none, none, none]) X (xdec_at tL_posts_0 3 rfl) (by decide) rfl ?_
  refine v_cutJ (lay' := lay) (C' := W2 Z lay μ tb μ tb (dR Z (dv μ))) (pc' := 21) (lv' := [some (.ref (lay (0, 0))), some (.ref (lay (500, 0))), some (.ref (lay (300, 0))), some (.int x), some (.int z), some (.int (nI u0)), none, none, none, none, none, none]) (st' := []) ?_ fun J21 => ?_
  · by_cases hP : nP μ < 8
    · have hP9 : nP μ + 1 ≤ 8 := by omega
      refine v_aload_n X (xdec_at tL_posts_0 12 rfl) rfl rfl ?_
      refine v_aload_n X (xdec_at tL_posts_0 13 rfl) rfl rfl ?_
      refine v_iconst (v := 0) X (xdec_at tL_posts_0 14 rfl) (by decide) ?_
      refine v_iconst (v := 0) X (xdec_at tL_posts_0 15 rfl) (by decide) ?_
      refine v_iconst (v := 0) X (xdec_at tL_posts_0 16 rfl) (by decide) ?_
      refine v_iconst (v := 0) X (xdec_at tL_posts_0 17 rfl) (by decide) ?_
      refine v_iconst (v := 0) X (xdec_at tL_posts_0 18 rfl) (by decide) ?_
      obtain ⟨eM, hJ⟩ := cm_post hL hP
      obtain ⟨n1, n2, n3⟩ := nP_post hL hP
      refine v_wL X hE myL_both [.ref (lay (0, 0)), .ref (lay (500, 0)), .int 0, .int 0, .int 0, .int 0, .int 0] [] (both_of rfl (ckS_post hl0 hL eM hJ.z)) (xw_at tW_6 11 rfl) rfl rfl (by rfl) (Nat.le_of_ble_eq_true rfl) (xdec_at tL_posts_0 19 rfl) ⟨(Nat.le_of_ble_eq_true rfl), (Nat.le_of_ble_eq_true rfl)⟩ ⟨(Nat.le_of_ble_eq_true rfl), (Nat.le_of_ble_eq_true rfl)⟩ ?_
      rintro v9 l1 C9 ⟨rfl, y_l1, rfl⟩
      rw [← y_l1.1, ← y_l1.2.1, ← y_l1.2.2 (300, 0) (by decide) (by decide)]
      refine v_istore (lv' := [some (.ref (l1 (0, 0))), some (.ref (l1 (500, 0))), some (.ref (l1 (300, 0))), some (.int x), some (.int z), some (.int (nI u0)), some (.int (nI (nP μ))), none, none, none, none, none]) X (xdec_at tL_posts_0 20 rfl) (by decide) rfl ?_
      refine v_aload_n X (xdec_at tL_posts_0 21 rfl) rfl rfl ?_
      refine v_iconst (v := 0) X (xdec_at tL_posts_0 22 rfl) (by decide) ?_
      refine v_dup2_11 X (xdec_at tL_posts_0 23 rfl) rfl rfl ?_
      refine x_iald (v := nI (nP μ)) X (300, 0) W2_d (vp_in_nI (n := 0) (N := 3) (by decide) (by decide)) rfl hf.1 (xdec_at tL_posts_0 24 rfl) ?_
      refine v_iload X (xdec_at tL_posts_0 25 rfl) rfl ?_
      refine v_if_lt (tgt := 46) X (xdec_at tL_posts_0 26 rfl) (by decide) (fun h9 => absurd h9 (nI_pos (n := nP μ) (by omega))) (fun _ => ?_)
      refine v_iconst (v := 1) X (xdec_at tL_posts_0 27 rfl) (by decide) ?_
      refine v_goto (tgt := 47) X (xdec_at tL_posts_0 28 rfl) (by decide) ?_
      refine v_iadd X (xdec_at tL_posts_0 30 rfl) ?_
      refine x_iast (C' := W2 Z l1 (up2 μ.1 0 0 (nI (nP μ + 1)), μ.2) tb (up2 μ.1 0 0 (nI (nP μ + 1)), μ.2) tb (dR Z (dv (up2 μ.1 0 0 (nI (nP μ + 1)), μ.2)))) X (300, 0) W2_d (vp_in_nI (n := 0) (N := 3) (by decide) (by decide)) rfl (W2_up (i := 0) (dv_0 (μ := μ) (ν := (up2 μ.1 0 0 (nI (nP μ + 1)), μ.2)) (show up2 μ.1 0 0 (nI (nP μ + 1)) 10 0 = μ.1 10 0 from by rw [up2_ne _ _ _ _ _ (by decide)]) (show up2 μ.1 0 0 (nI (nP μ + 1)) 16 0 = μ.1 16 0 from by rw [up2_ne _ _ _ _ _ (by decide)]) (show up2 μ.1 0 0 (nI (nP μ + 1)) 0 0 = nI (nP μ) + 1 from by rw [nI_1]; exact u_at))) (xdec_at tL_posts_0 31 rfl) ?_
      refine v_iload X (xdec_at tL_posts_0 32 rfl) rfl ?_
      refine v_ldc (v := -2000000003) X (xw_at tW_12 2 rfl) (xdec_at tL_posts_0 33 rfl) ?_
      refine v_icmp_ne (tgt := 72) X (xdec_at tL_posts_0 34 rfl) (by decide) (fun _ => ?_) (fun h9 => absurd h9 (notneg (n := nP μ) (by omega)))
      refine v_iload X (xdec_at tL_posts_1 4 rfl) rfl ?_
      refine v_aload_n X (xdec_at tL_posts_1 5 rfl) rfl rfl ?_
      refine v_iconst (v := 0) X (xdec_at tL_posts_1 6 rfl) (by decide) ?_
      refine x_iald (v := nI (nP μ + 1)) X (300, 0) W2_d (vp_in_nI (n := 0) (N := 3) (by decide) (by decide)) rfl (show up2 μ.1 0 0 (nI (nP μ + 1)) 0 0 = _ from u_at) (xdec_at tL_posts_1 7 rfl) ?_
      refine v_iconst (v := 1) X (xdec_at tL_posts_1 8 rfl) (by decide) ?_
      refine v_isub X (xdec_at tL_posts_1 9 rfl) ?_
      refine v_icmp_ne (tgt := 131) X (xdec_at tL_posts_1 10 rfl) (by decide) (fun h9 => absurd (show nI (nP μ) = nI (nP μ + 1) - 1 from (nI_pred _).symm) h9) (fun _ => ?_)
      refine v_aload_n X (xdec_at tL_posts_1 11 rfl) rfl rfl ?_
      refine v_iload X (xdec_at tL_posts_1 12 rfl) rfl ?_
      refine v_wN X hE myX4_account [.int (nI (nP μ))] [] (qy_account hl0 hJ.I (by omega)) (xw_at tW_2 35 rfl) (0, 0) cX_X rfl rfl rfl rfl (by rfl) (Nat.le_of_ble_eq_true rfl) (xdec_at tL_posts_1 13 rfl) ⟨(Nat.le_of_ble_eq_true rfl), (Nat.le_of_ble_eq_true rfl)⟩ ⟨(Nat.le_of_ble_eq_true rfl), (Nat.le_of_ble_eq_true rfl)⟩ ?_
      rintro v9 lay9 C9 ⟨rfl, rfl, rfl⟩
      refine v_lconst (v := 0) X (xdec_at tL_posts_1 14 rfl) (by decide) ?_
      refine v_lcmp X (xdec_at tL_posts_1 15 rfl) ?_
      refine v_if_ne (tgt := 131) X (xdec_at tL_posts_1 16 rfl) (by decide) (fun h9 => absurd (lcz (hL.K.2.2.2.2.1 (nP μ) (Nat.le_refl _)).2.1.1) h9) (fun _ => ?_)
      refine v_aload_n X (xdec_at tL_posts_1 17 rfl) rfl rfl ?_
      refine v_iload X (xdec_at tL_posts_1 18 rfl) rfl ?_
      refine v_wN X hE myX4_till [.int (nI (nP μ))] [] (qy_till hl0 hJ.I (by omega)) (xw_at tW_4 9 rfl) (0, 0) cX_X rfl rfl rfl rfl (by rfl) (Nat.le_of_ble_eq_true rfl) (xdec_at tL_posts_1 19 rfl) ⟨(Nat.le_of_ble_eq_true rfl), (Nat.le_of_ble_eq_true rfl)⟩ ⟨(Nat.le_of_ble_eq_true rfl), (Nat.le_of_ble_eq_true rfl)⟩ ?_
      rintro v9 lay9 C9 ⟨rfl, rfl, rfl⟩
      refine v_lconst (v := 0) X (xdec_at tL_posts_1 20 rfl) (by decide) ?_
      refine v_lcmp X (xdec_at tL_posts_1 21 rfl) ?_
      refine v_if_ne (tgt := 131) X (xdec_at tL_posts_1 22 rfl) (by decide) (fun h9 => absurd (lcz (hL.K.2.2.2.2.1 (nP μ) (Nat.le_refl _)).2.1.2) h9) (fun _ => ?_)
      refine v_aload_n X (xdec_at tL_posts_1 23 rfl) rfl rfl ?_
      refine v_iload X (xdec_at tL_posts_1 24 rfl) rfl ?_
      refine v_iload X (xdec_at tL_posts_1 25 rfl) rfl ?_
      refine v_wN X hE myX4_days [.int (nI (nP μ)), .int (nI (nP μ))] [] (qy_days hl0 hJ.I hJ.S (by omega) (by omega)) (xw_at tW_4 14 rfl) (0, 0) cX_X rfl rfl rfl rfl (by rfl) (Nat.le_of_ble_eq_true rfl) (xdec_at tL_posts_1 26 rfl) ⟨(Nat.le_of_ble_eq_true rfl), (Nat.le_of_ble_eq_true rfl)⟩ ⟨(Nat.le_of_ble_eq_true rfl), (Nat.le_of_ble_eq_true rfl)⟩ ?_
      rintro v9 lay9 C9 ⟨rfl, rfl, rfl⟩
      refine v_if_ne (tgt := 131) X (xdec_at tL_posts_1 27 rfl) (by decide) (fun h9 => absurd ((w2 hJ.I hJ.K.1 (p := nP μ) (q := nP μ) (by omega) (by omega)).mpr rfl) h9) (fun _ => ?_)
      refine v_aload_n X (xdec_at tL_posts_1 28 rfl) rfl rfl ?_
      refine v_iload X (xdec_at tL_posts_1 29 rfl) rfl ?_
      refine v_iload X (xdec_at tL_posts_1 30 rfl) rfl ?_
      refine v_wN X hE myX4_next [.int (nI (nP μ)), .int (nI (nP μ))] [] (qy_next hl0 hJ.I hJ.S (by omega) (by omega)) (xw_at tW_4 25 rfl) (0, 0) cX_X rfl rfl rfl rfl (by rfl) (Nat.le_of_ble_eq_true rfl) (xdec_at tL_posts_1 31 rfl) ⟨(Nat.le_of_ble_eq_true rfl), (Nat.le_of_ble_eq_true rfl)⟩ ⟨(Nat.le_of_ble_eq_true rfl), (Nat.le_of_ble_eq_true rfl)⟩ ?_
      rintro v9 lay9 C9 ⟨rfl, rfl, rfl⟩
      refine v_iconst (v := (-1)) X (xdec_at tL_posts_1 32 rfl) (by decide) ?_
      refine v_icmp_ne (tgt := 131) X (xdec_at tL_posts_1 33 rfl) (by decide) (fun h9 => absurd (nX_self _ _) h9) (fun _ => ?_)
      refine v_iconst (v := 1) X (xdec_at tL_posts_1 34 rfl) (by decide) ?_
      refine v_goto (tgt := 132) X (xdec_at tL_posts_1 35 rfl) (by decide) ?_
      exact v_xr (v_zret X hr (xdec_at tL_posts_1 37 rfl) (Nat.le_of_ble_eq_true rfl) (Nat.le_of_ble_eq_true rfl) (by rfl) ⟨rfl, y_l1, (up2 μ.1 0 0 (nI (nP μ + 1)), μ.2), tb, rfl, hJ.up, (fun z => by have := hg (by omega); omega), Nat.le_refl _⟩)
    · have hP9 : nP μ = 8 := by omega
      refine v_aload_n X (xdec_at tL_posts_0 12 rfl) rfl rfl ?_
      refine v_aload_n X (xdec_at tL_posts_0 13 rfl) rfl rfl ?_
      refine v_iconst (v := 0) X (xdec_at tL_posts_0 14 rfl) (by decide) ?_
      refine v_iconst (v := 0) X (xdec_at tL_posts_0 15 rfl) (by decide) ?_
      refine v_iconst (v := 0) X (xdec_at tL_posts_0 16 rfl) (by decide) ?_
      refine v_iconst (v := 0) X (xdec_at tL_posts_0 17 rfl) (by decide) ?_
      refine v_iconst (v := 0) X (xdec_at tL_posts_0 18 rfl) (by decide) ?_
      refine v_wL X hE myL_both [.ref (lay (0, 0)), .ref (lay (500, 0)), .int 0, .int 0, .int 0, .int 0, .int 0] [] (both_of rfl (ckE_post_1 hl0 hL (cm_post8 hL hP9))) (xw_at tW_6 11 rfl) rfl rfl (by rfl) (Nat.le_of_ble_eq_true rfl) (xdec_at tL_posts_0 19 rfl) ⟨(Nat.le_of_ble_eq_true rfl), (Nat.le_of_ble_eq_true rfl)⟩ ⟨(Nat.le_of_ble_eq_true rfl), (Nat.le_of_ble_eq_true rfl)⟩ ?_
      rintro v9 l2 C9 ⟨rfl, y_l2, rfl⟩
      rw [← y_l2.1, ← y_l2.2.1, ← y_l2.2.2 (300, 0) (by decide) (by decide)]
      refine v_istore (lv' := [some (.ref (l2 (0, 0))), some (.ref (l2 (500, 0))), some (.ref (l2 (300, 0))), some (.int x), some (.int z), some (.int (nI u0)), some (.int (-2000000003)), none, none, none, none, none]) X (xdec_at tL_posts_0 20 rfl) (by decide) rfl ?_
      refine v_aload_n X (xdec_at tL_posts_0 21 rfl) rfl rfl ?_
      refine v_iconst (v := 0) X (xdec_at tL_posts_0 22 rfl) (by decide) ?_
      refine v_dup2_11 X (xdec_at tL_posts_0 23 rfl) rfl rfl ?_
      refine x_iald (v := nI (nP μ)) X (300, 0) W2_d (vp_in_nI (n := 0) (N := 3) (by decide) (by decide)) rfl hf.1 (xdec_at tL_posts_0 24 rfl) ?_
      refine v_iload X (xdec_at tL_posts_0 25 rfl) rfl ?_
      refine v_if_lt (tgt := 46) X (xdec_at tL_posts_0 26 rfl) (by decide) (fun _ => ?_) (fun h9 => absurd (by decide) h9)
      refine v_iconst (v := 0) X (xdec_at tL_posts_0 29 rfl) (by decide) ?_
      refine v_iadd X (xdec_at tL_posts_0 30 rfl) ?_
      refine x_iast (C' := W2 Z l2 μ tb μ tb (dR Z (dv μ))) X (300, 0) W2_d (vp_in_nI (n := 0) (N := 3) (by decide) (by decide)) rfl (W2_up (i := 0) (dv_0 rfl rfl (by rw [Int32.add_zero]; exact hf.1))) (xdec_at tL_posts_0 31 rfl) ?_
      refine v_iload X (xdec_at tL_posts_0 32 rfl) rfl ?_
      refine v_ldc (v := -2000000003) X (xw_at tW_12 2 rfl) (xdec_at tL_posts_0 33 rfl) ?_
      refine v_icmp_ne (tgt := 72) X (xdec_at tL_posts_0 34 rfl) (by decide) (fun h9 => absurd h9 (by decide)) (fun _ => ?_)
      refine v_aload_n X (xdec_at tL_posts_0 35 rfl) rfl rfl ?_
      refine v_iconst (v := 0) X (xdec_at tL_posts_0 36 rfl) (by decide) ?_
      refine x_iald (v := nI (nP μ)) X (300, 0) W2_d (vp_in_nI (n := 0) (N := 3) (by decide) (by decide)) rfl hf.1 (xdec_at tL_posts_0 37 rfl) ?_
      refine v_bipush (v := 8) X (xdec_at tL_posts_0 38 rfl) (by decide) ?_
      refine v_icmp_ne (tgt := 68) X (xdec_at tL_posts_0 39 rfl) (by decide) (fun h9 => absurd (show nI (nP μ) = 8 from by rw [hP9]; rfl) h9) (fun _ => ?_)
      refine v_iconst (v := 1) X (xdec_at tL_posts_1 0 rfl) (by decide) ?_
      refine v_goto (tgt := 132) X (xdec_at tL_posts_1 1 rfl) (by decide) ?_
      exact v_xr (v_zret X hr (xdec_at tL_posts_1 37 rfl) (Nat.le_of_ble_eq_true rfl) (Nat.le_of_ble_eq_true rfl) (by rfl) ⟨rfl, y_l2, μ, tb, rfl, hL.up.up, hg, Nat.le_refl _⟩)
  · refine v_iload X (xdec_at tL_posts_0 4 rfl) rfl ?_
    refine v_iconst (v := 2) X (xdec_at tL_posts_0 5 rfl) (by decide) ?_
    refine v_icmp_lt (tgt := 21) X (xdec_at tL_posts_0 6 rfl) (by decide) (fun c_11 => ?_) (fun c_11 => ?_)
    · exact J21
    · refine v_aload_n X (xdec_at tL_posts_0 7 rfl) rfl rfl ?_
      refine v_iconst (v := 0) X (xdec_at tL_posts_0 8 rfl) (by decide) ?_
      refine x_iald (v := nI (nP μ)) X (300, 0) W2_d (vp_in_nI (n := 0) (N := 3) (by decide) (by decide)) rfl hf.1 (xdec_at tL_posts_0 9 rfl) ?_
      refine v_iconst (v := 3) X (xdec_at tL_posts_0 10 rfl) (by decide) ?_
      refine v_icmp_ge (tgt := 133) X (xdec_at tL_posts_0 11 rfl) (by decide) (fun c_18 => ?_) (fun c_18 => ?_)
      · have hP3 : 3 ≤ nP μ := (nI_leI (a := 3) (by decide) (by omega)).mp c_18
        refine v_iload X (xdec_at tL_posts_1 38 rfl) rfl ?_
        refine v_aload_n X (xdec_at tL_posts_1 39 rfl) rfl rfl ?_
        refine v_iconst (v := 0) X (xdec_at tL_posts_2 0 rfl) (by decide) ?_
        refine x_iald (v := nI (nP μ)) X (300, 0) W2_d (vp_in_nI (n := 0) (N := 3) (by decide) (by decide)) rfl hf.1 (xdec_at tL_posts_2 1 rfl) ?_
        refine v_wL X hE myL_some [.int z, .int (nI (nP μ))] [] (c_some z (n := nP μ) (by omega) (by omega)) (xw_at tW_2 29 rfl) rfl rfl (by rfl) (Nat.le_of_ble_eq_true rfl) (xdec_at tL_posts_2 2 rfl) ⟨(Nat.le_of_ble_eq_true rfl), (Nat.le_of_ble_eq_true rfl)⟩ ⟨(Nat.le_of_ble_eq_true rfl), (Nat.le_of_ble_eq_true rfl)⟩ ?_
        rintro v9 lay9 C9 ⟨rfl, rfl, u1, hu1, rfl⟩
        refine v_istore (lv' := [some (.ref (lay (0, 0))), some (.ref (lay (500, 0))), some (.ref (lay (300, 0))), some (.int x), some (.int z), some (.int (nI u0)), some (.int (nI u1)), none, none, none, none, none]) X (xdec_at tL_posts_2 3 rfl) (by decide) rfl ?_
        refine v_iload X (xdec_at tL_posts_2 4 rfl) rfl ?_
        refine v_iconst (v := 4) X (xdec_at tL_posts_2 5 rfl) (by decide) ?_
        refine v_ishr X (xdec_at tL_posts_2 6 rfl) fun u2 => ?_
        refine v_iconst (v := 3) X (xdec_at tL_posts_2 7 rfl) (by decide) ?_
        refine v_wL X hE myL_some [.int u2, .int (nI 3)] [] (c_some u2 (n := 3) (by decide) (by decide)) (xw_at tW_2 29 rfl) rfl rfl (by rfl) (Nat.le_of_ble_eq_true rfl) (xdec_at tL_posts_2 8 rfl) ⟨(Nat.le_of_ble_eq_true rfl), (Nat.le_of_ble_eq_true rfl)⟩ ⟨(Nat.le_of_ble_eq_true rfl), (Nat.le_of_ble_eq_true rfl)⟩ ?_
        rintro v9 lay9 C9 ⟨rfl, rfl, u3, hu3, rfl⟩
        refine v_istore (lv' := [some (.ref (lay (0, 0))), some (.ref (lay (500, 0))), some (.ref (lay (300, 0))), some (.int x), some (.int z), some (.int (nI u0)), some (.int (nI u1)), some (.int (nI u3)), none, none, none, none]) X (xdec_at tL_posts_2 9 rfl) (by decide) rfl ?_
        refine v_iload X (xdec_at tL_posts_2 10 rfl) rfl ?_
        refine v_iconst (v := 4) X (xdec_at tL_posts_2 11 rfl) (by decide) ?_
        refine v_icmp_ge (tgt := 284) X (xdec_at tL_posts_2 12 rfl) (by decide) (fun c_156 => ?_) (fun c_156 => ?_)
        · refine v_iload X (xdec_at tL_posts_3 39 rfl) rfl ?_
          refine v_bipush (v := 7) X (xdec_at tL_posts_4 0 rfl) (by decide) ?_
          refine v_icmp_ge (tgt := 404) X (xdec_at tL_posts_4 1 rfl) (by decide) (fun c_288 => ?_) (fun c_288 => ?_)
          · refine v_iload X (xdec_at tL_posts_5 24 rfl) rfl ?_
            refine v_bipush (v := 8) X (xdec_at tL_posts_5 25 rfl) (by decide) ?_
            refine v_icmp_ge (tgt := 478) X (xdec_at tL_posts_5 26 rfl) (by decide) (fun c_408 => ?_) (fun c_408 => ?_)
            · refine v_cutJ (lay' := lay) (C' := W2 Z lay μ tb μ tb (dR Z (dv μ))) (pc' := 491) (lv' := [some (.ref (lay (0, 0))), some (.ref (lay (500, 0))), some (.ref (lay (300, 0))), some (.int x), some (.int z), some (.int (nI u0)), some (.int (nI u1)), some (.int (nI u3)), none, none, none, none]) (st' := []) ?_ fun J491 => ?_
              · refine v_iload X (xdec_at tL_posts_6 32 rfl) rfl ?_
                refine v_iconst (v := 1) X (xdec_at tL_posts_6 33 rfl) (by decide) ?_
                refine v_iadd X (xdec_at tL_posts_6 34 rfl) ?_
                refine v_st (st' := [.int (nI (u1 + 1))]) (by rw [nI_1]) ?_
                refine v_iload X (xdec_at tL_posts_6 35 rfl) rfl ?_
                refine v_iconst (v := 4) X (xdec_at tL_posts_6 36 rfl) (by decide) ?_
                refine v_ishr X (xdec_at tL_posts_6 37 rfl) fun u4 => ?_
                refine v_aload_n X (xdec_at tL_posts_6 38 rfl) rfl rfl ?_
                refine v_iconst (v := 0) X (xdec_at tL_posts_6 39 rfl) (by decide) ?_
                refine x_iald (v := nI (nP μ)) X (300, 0) W2_d (vp_in_nI (n := 0) (N := 3) (by decide) (by decide)) rfl hf.1 (xdec_at tL_posts_7 0 rfl) ?_
                refine v_iconst (v := 1) X (xdec_at tL_posts_7 1 rfl) (by decide) ?_
                refine v_isub X (xdec_at tL_posts_7 2 rfl) ?_
                refine v_st (st' := [.int (nI ((nP μ) - 1)), .int u4, .int (nI (u1 + 1))]) (by rw [show nI (nP μ) - 1 = nI ((nP μ) - 1) from pk_sub (b := 1) (by omega)]) ?_
                refine v_wL X hE myL_some [.int u4, .int (nI ((nP μ) - 1))] [.int (nI (u1 + 1))] (c_some u4 (n := (nP μ) - 1) (by omega) (by omega)) (xw_at tW_2 29 rfl) rfl rfl (by rfl) (Nat.le_of_ble_eq_true rfl) (xdec_at tL_posts_7 3 rfl) ⟨(Nat.le_of_ble_eq_true rfl), (Nat.le_of_ble_eq_true rfl)⟩ ⟨(Nat.le_of_ble_eq_true rfl), (Nat.le_of_ble_eq_true rfl)⟩ ?_
                rintro v9 lay9 C9 ⟨rfl, rfl, u5, hu5, rfl⟩
                refine v_iadd X (xdec_at tL_posts_7 4 rfl) ?_
                refine v_st (st' := [.int (nI (u1 + 1 + u5))]) (by rw [nI_add]) ?_
                refine v_aload_n X (xdec_at tL_posts_7 5 rfl) rfl rfl ?_
                refine v_iconst (v := 0) X (xdec_at tL_posts_7 6 rfl) (by decide) ?_
                refine x_iald (v := nI (nP μ)) X (300, 0) W2_d (vp_in_nI (n := 0) (N := 3) (by decide) (by decide)) rfl hf.1 (xdec_at tL_posts_7 7 rfl) ?_
                refine v_irem X (xdec_at tL_posts_7 8 rfl) (nI_ne0 (by omega) (by omega)) ?_
                obtain ⟨o_, ho_⟩ : ∃ o_, o_ = (u1 + 1 + u5) % (nP μ) := ⟨_, rfl⟩
                have ho := oth_ne (p := u1) (j := u5) (P := nP μ) (by omega) (by omega)
                rw [← ho_] at ho
                refine v_st (st' := [.int (nI o_)]) (by rw [pk_rem (by omega) (by omega) (by omega), ho_]) ?_
                refine v_istore (lv' := [some (.ref (lay (0, 0))), some (.ref (lay (500, 0))), some (.ref (lay (300, 0))), some (.int x), some (.int z), some (.int (nI u0)), some (.int (nI u1)), some (.int (nI u3)), some (.int (nI o_)), none, none, none]) X (xdec_at tL_posts_7 9 rfl) (by decide) rfl ?_
                refine v_iconst (v := 1) X (xdec_at tL_posts_7 10 rfl) (by decide) ?_
                refine v_iload X (xdec_at tL_posts_7 11 rfl) rfl ?_
                refine v_bipush (v := 8) X (xdec_at tL_posts_7 12 rfl) (by decide) ?_
                refine v_ishr X (xdec_at tL_posts_7 13 rfl) fun u6 => ?_
                refine v_bipush (v := 6) X (xdec_at tL_posts_7 14 rfl) (by decide) ?_
                refine v_wL X hE myL_some [.int u6, .int (nI 6)] [.int 1] (c_some u6 (n := 6) (by decide) (by decide)) (xw_at tW_2 29 rfl) rfl rfl (by rfl) (Nat.le_of_ble_eq_true rfl) (xdec_at tL_posts_7 15 rfl) ⟨(Nat.le_of_ble_eq_true rfl), (Nat.le_of_ble_eq_true rfl)⟩ ⟨(Nat.le_of_ble_eq_true rfl), (Nat.le_of_ble_eq_true rfl)⟩ ?_
                rintro v9 lay9 C9 ⟨rfl, rfl, u7, hu7, rfl⟩
                refine v_iadd X (xdec_at tL_posts_7 16 rfl) ?_
                refine v_st (st' := [.int (nI (1 + u7))]) (by rw [show nI u7 = nI u7 from rfl, show (1 : Int32) = nI 1 from rfl, nI_add]) ?_
                refine v_istore (lv' := [some (.ref (lay (0, 0))), some (.ref (lay (500, 0))), some (.ref (lay (300, 0))), some (.int x), some (.int z), some (.int (nI u0)), some (.int (nI u1)), some (.int (nI u3)), some (.int (nI o_)), some (.int (nI (1 + u7))), none, none]) X (xdec_at tL_posts_7 17 rfl) (by decide) rfl ?_
                refine v_aload_n X (xdec_at tL_posts_7 18 rfl) rfl rfl ?_
                refine v_aload_n X (xdec_at tL_posts_7 19 rfl) rfl rfl ?_
                refine v_bipush (v := 6) X (xdec_at tL_posts_7 20 rfl) (by decide) ?_
                refine v_iload X (xdec_at tL_posts_7 21 rfl) rfl ?_
                refine v_iload X (xdec_at tL_posts_7 22 rfl) rfl ?_
                refine v_iload X (xdec_at tL_posts_7 23 rfl) rfl ?_
                refine v_iconst (v := 0) X (xdec_at tL_posts_7 24 rfl) (by decide) ?_
                by_cases hG : nG μ < 20
                · obtain ⟨eM, hJ⟩ := cm_leg hL hu1 ho.1 ho.2 (d := nI (1 + u7)) (inR_n (a := 1) (b := 100) (by omega) (by omega) (by decide)) hG
                  obtain ⟨n1, n2, n3⟩ := nuL_n hL (a := nI u1) (b := nI o_) (d := nI (1 + u7)) hG
                  have hW := leg_days hL hu1 ho.1 ho.2 (d := 1 + u7) (by omega) (by omega) hG hJ
                  refine v_wL X hE myL_both [.ref (lay (0, 0)), .ref (lay (500, 0)), .int 6, .int (nI u1), .int (nI o_), .int (nI (1 + u7)), .int 0] [] (both_of rfl (ckS_leg hl0 hL eM hJ.z)) (xw_at tW_6 11 rfl) rfl rfl (by rfl) (Nat.le_of_ble_eq_true rfl) (xdec_at tL_posts_7 25 rfl) ⟨(Nat.le_of_ble_eq_true rfl), (Nat.le_of_ble_eq_true rfl)⟩ ⟨(Nat.le_of_ble_eq_true rfl), (Nat.le_of_ble_eq_true rfl)⟩ ?_
                  rintro v9 l3 C9 ⟨rfl, y_l3, rfl⟩
                  rw [← y_l3.1, ← y_l3.2.1, ← y_l3.2.2 (300, 0) (by decide) (by decide)]
                  refine v_istore (lv' := [some (.ref (l3 (0, 0))), some (.ref (l3 (500, 0))), some (.ref (l3 (300, 0))), some (.int x), some (.int z), some (.int (nI u0)), some (.int (nI u1)), some (.int (nI u3)), some (.int (nI o_)), some (.int (nI (1 + u7))), some (.int (nI (nG μ))), none]) X (xdec_at tL_posts_7 26 rfl) (by decide) rfl ?_
                  refine v_iload X (xdec_at tL_posts_7 27 rfl) rfl ?_
                  refine v_ldc (v := -2000000003) X (xw_at tW_12 2 rfl) (xdec_at tL_posts_7 28 rfl) ?_
                  refine v_icmp_ne (tgt := 565) X (xdec_at tL_posts_7 29 rfl) (by decide) (fun _ => ?_) (fun h9 => absurd h9 (notneg (n := nG μ) (by omega)))
                  refine v_aload_n X (xdec_at tL_posts_7 39 rfl) rfl rfl ?_
                  refine v_iconst (v := 1) X (xdec_at tL_posts_8 0 rfl) (by decide) ?_
                  refine v_dup2_11 X (xdec_at tL_posts_8 1 rfl) rfl rfl ?_
                  refine x_iald (v := nI (nG μ)) X (300, 0) W2_d (vp_in_nI (n := 1) (N := 3) (by decide) (by decide)) rfl hf.2.1 (xdec_at tL_posts_8 2 rfl) ?_
                  refine v_iconst (v := 1) X (xdec_at tL_posts_8 3 rfl) (by decide) ?_
                  refine v_iadd X (xdec_at tL_posts_8 4 rfl) ?_
                  refine x_iast (C' := W2 Z l3 (nuL μ (nI u1) (nI o_) (nI (1 + u7))) (K_reckon (nuL μ (nI u1) (nI o_) (nI (1 + u7))) tb.1, tb.2) (nuL μ (nI u1) (nI o_) (nI (1 + u7))) (K_reckon (nuL μ (nI u1) (nI o_) (nI (1 + u7))) tb.1, tb.2) (dR Z (dv (nuL μ (nI u1) (nI o_) (nI (1 + u7)))))) X (300, 0) W2_d (vp_in_nI (n := 1) (N := 3) (by decide) (by decide)) rfl (W2_up (i := 1) (dv_1 (congrFun (nuL_f _ _ _ (by decide)) 0) (congrFun (nuL_f _ _ _ (by decide)) 0) (by rw [nI_1, nGe hJ.I, n2]))) (xdec_at tL_posts_8 5 rfl) ?_
                  refine v_aload_n X (xdec_at tL_posts_8 6 rfl) rfl rfl ?_
                  refine v_iload X (xdec_at tL_posts_8 7 rfl) rfl ?_
                  refine v_iload X (xdec_at tL_posts_8 8 rfl) rfl ?_
                  refine v_wN X hE myX4_days [.int (nI u1), .int (nI o_)] [] (qy_days hl0 hJ.I hJ.S (show u1 < nP (nuL μ (nI u1) (nI o_) (nI (1 + u7))) from by omega) (show o_ < nP (nuL μ (nI u1) (nI o_) (nI (1 + u7))) from by omega)) (xw_at tW_4 14 rfl) (0, 0) cX_X rfl rfl rfl rfl (by rfl) (Nat.le_of_ble_eq_true rfl) (xdec_at tL_posts_8 9 rfl) ⟨(Nat.le_of_ble_eq_true rfl), (Nat.le_of_ble_eq_true rfl)⟩ ⟨(Nat.le_of_ble_eq_true rfl), (Nat.le_of_ble_eq_true rfl)⟩ ?_
                  rintro v9 lay9 C9 ⟨rfl, rfl, rfl⟩
                  refine v_istore (lv' := [some (.ref (l3 (0, 0))), some (.ref (l3 (500, 0))), some (.ref (l3 (300, 0))), some (.int x), some (.int z), some (.int (nI u0)), some (.int (nI u1)), some (.int (nI u3)), some (.int (nI o_)), some (.int (nI (1 + u7))), some (.int (nI (nG μ))), some (.int (dY (nuL μ (nI u1) (nI o_) (nI (1 + u7))) u1 o_))]) X (xdec_at tL_posts_8 10 rfl) (by decide) rfl ?_
                  refine v_iload X (xdec_at tL_posts_8 11 rfl) rfl ?_
                  refine v_aload_n X (xdec_at tL_posts_8 12 rfl) rfl rfl ?_
                  refine v_iconst (v := 1) X (xdec_at tL_posts_8 13 rfl) (by decide) ?_
                  refine x_iald (v := nI (nG μ + 1)) X (300, 0) W2_d (vp_in_nI (n := 1) (N := 3) (by decide) (by decide)) rfl (show dv (nuL μ (nI u1) (nI o_) (nI (1 + u7))) 1 = _ from by show (nuL μ (nI u1) (nI o_) (nI (1 + u7))).1 10 0 = _; rw [nGe hJ.I, n2]) (xdec_at tL_posts_8 14 rfl) ?_
                  refine v_iconst (v := 1) X (xdec_at tL_posts_8 15 rfl) (by decide) ?_
                  refine v_isub X (xdec_at tL_posts_8 16 rfl) ?_
                  refine v_icmp_ne (tgt := 609) X (xdec_at tL_posts_8 17 rfl) (by decide) (fun h9 => absurd (show nI (nG μ) = nI (nG μ + 1) - 1 from (nI_pred _).symm) h9) (fun _ => ?_)
                  refine v_iload X (xdec_at tL_posts_8 18 rfl) rfl ?_
                  refine v_iconst (v := 1) X (xdec_at tL_posts_8 19 rfl) (by decide) ?_
                  refine v_icmp_lt (tgt := 609) X (xdec_at tL_posts_8 20 rfl) (by decide) (fun h9 => absurd h9 hW.1) (fun _ => ?_)
                  refine v_iload X (xdec_at tL_posts_8 21 rfl) rfl ?_
                  refine v_iload X (xdec_at tL_posts_8 22 rfl) rfl ?_
                  refine v_icmp_gt (tgt := 609) X (xdec_at tL_posts_8 23 rfl) (by decide) (fun h9 => absurd h9 hW.2) (fun _ => ?_)
                  refine v_iconst (v := 1) X (xdec_at tL_posts_8 24 rfl) (by decide) ?_
                  refine v_goto (tgt := 610) X (xdec_at tL_posts_8 25 rfl) (by decide) ?_
                  exact v_xr (v_zret X hr (xdec_at tL_posts_8 27 rfl) (Nat.le_of_ble_eq_true rfl) (Nat.le_of_ble_eq_true rfl) (by rfl) ⟨rfl, y_l3, (nuL μ (nI u1) (nI o_) (nI (1 + u7))), (K_reckon (nuL μ (nI u1) (nI o_) (nI (1 + u7))) tb.1, tb.2), rfl, hJ.up, (fun _ => by omega), Nat.le_refl _⟩)
                · have hG9 : nG μ = 20 := by omega
                  refine v_wL X hE myL_both [.ref (lay (0, 0)), .ref (lay (500, 0)), .int 6, .int (nI u1), .int (nI o_), .int (nI (1 + u7)), .int 0] [] (both_of rfl (ckE_leg_3 hl0 hL (cm_leg20 hL hu1 ho.1 ho.2 (inR_n (a := 1) (b := 100) (by omega) (by omega) (by decide)) hG9))) (xw_at tW_6 11 rfl) rfl rfl (by rfl) (Nat.le_of_ble_eq_true rfl) (xdec_at tL_posts_7 25 rfl) ⟨(Nat.le_of_ble_eq_true rfl), (Nat.le_of_ble_eq_true rfl)⟩ ⟨(Nat.le_of_ble_eq_true rfl), (Nat.le_of_ble_eq_true rfl)⟩ ?_
                  rintro v9 l4 C9 ⟨rfl, y_l4, rfl⟩
                  rw [← y_l4.1, ← y_l4.2.1, ← y_l4.2.2 (300, 0) (by decide) (by decide)]
                  refine v_istore (lv' := [some (.ref (l4 (0, 0))), some (.ref (l4 (500, 0))), some (.ref (l4 (300, 0))), some (.int x), some (.int z), some (.int (nI u0)), some (.int (nI u1)), some (.int (nI u3)), some (.int (nI o_)), some (.int (nI (1 + u7))), some (.int (-2000000003)), none]) X (xdec_at tL_posts_7 26 rfl) (by decide) rfl ?_
                  refine v_iload X (xdec_at tL_posts_7 27 rfl) rfl ?_
                  refine v_ldc (v := -2000000003) X (xw_at tW_12 2 rfl) (xdec_at tL_posts_7 28 rfl) ?_
                  refine v_icmp_ne (tgt := 565) X (xdec_at tL_posts_7 29 rfl) (by decide) (fun h9 => absurd h9 (by decide)) (fun _ => ?_)
                  refine v_aload_n X (xdec_at tL_posts_7 30 rfl) rfl rfl ?_
                  refine v_iconst (v := 1) X (xdec_at tL_posts_7 31 rfl) (by decide) ?_
                  refine x_iald (v := nI (nG μ)) X (300, 0) W2_d (vp_in_nI (n := 1) (N := 3) (by decide) (by decide)) rfl hf.2.1 (xdec_at tL_posts_7 32 rfl) ?_
                  refine v_bipush (v := 20) X (xdec_at tL_posts_7 33 rfl) (by decide) ?_
                  refine v_icmp_ne (tgt := 563) X (xdec_at tL_posts_7 34 rfl) (by decide) (fun h9 => absurd (show nI (nG μ) = 20 from by rw [hG9]; rfl) h9) (fun _ => ?_)
                  refine v_iconst (v := 1) X (xdec_at tL_posts_7 35 rfl) (by decide) ?_
                  refine v_goto (tgt := 564) X (xdec_at tL_posts_7 36 rfl) (by decide) ?_
                  exact v_xr (v_zret X hr (xdec_at tL_posts_7 38 rfl) (Nat.le_of_ble_eq_true rfl) (Nat.le_of_ble_eq_true rfl) (by rfl) ⟨rfl, y_l4, μ, tb, rfl, hL.up.up, hg, Nat.le_refl _⟩)
              · refine v_iload X (xdec_at tL_posts_6 25 rfl) rfl ?_
                refine v_bipush (v := 12) X (xdec_at tL_posts_6 26 rfl) (by decide) ?_
                refine v_icmp_lt (tgt := 491) X (xdec_at tL_posts_6 27 rfl) (by decide) (fun c_482 => ?_) (fun c_482 => ?_)
                · exact J491
                · refine v_aload_n X (xdec_at tL_posts_6 28 rfl) rfl rfl ?_
                  refine v_iconst (v := 1) X (xdec_at tL_posts_6 29 rfl) (by decide) ?_
                  refine x_iald (v := nI (nG μ)) X (300, 0) W2_d (vp_in_nI (n := 1) (N := 3) (by decide) (by decide)) rfl hf.2.1 (xdec_at tL_posts_6 30 rfl) ?_
                  refine v_if_ne (tgt := 611) X (xdec_at tL_posts_6 31 rfl) (by decide) (fun c_488 => ?_) (fun c_488 => ?_)
                  · have hG0 : 0 < nG μ := Nat.pos_of_ne_zero (fun q9 => c_488 (by rw [q9]; rfl))
                    refine v_iload X (xdec_at tL_posts_8 28 rfl) rfl ?_
                    refine v_aload_n X (xdec_at tL_posts_8 29 rfl) rfl rfl ?_
                    refine v_iconst (v := 1) X (xdec_at tL_posts_8 30 rfl) (by decide) ?_
                    refine x_iald (v := nI (nG μ)) X (300, 0) W2_d (vp_in_nI (n := 1) (N := 3) (by decide) (by decide)) rfl hf.2.1 (xdec_at tL_posts_8 31 rfl) ?_
                    refine v_wL X hE myL_some [.int z, .int (nI (nG μ))] [] (c_some z (n := nG μ) (by omega) (by omega)) (xw_at tW_2 29 rfl) rfl rfl (by rfl) (Nat.le_of_ble_eq_true rfl) (xdec_at tL_posts_8 32 rfl) ⟨(Nat.le_of_ble_eq_true rfl), (Nat.le_of_ble_eq_true rfl)⟩ ⟨(Nat.le_of_ble_eq_true rfl), (Nat.le_of_ble_eq_true rfl)⟩ ?_
                    rintro v9 lay9 C9 ⟨rfl, rfl, u8, hu8, rfl⟩
                    refine v_istore (lv' := [some (.ref (lay (0, 0))), some (.ref (lay (500, 0))), some (.ref (lay (300, 0))), some (.int x), some (.int z), some (.int (nI u0)), some (.int (nI u1)), some (.int (nI u3)), some (.int (nI u8)), none, none, none]) X (xdec_at tL_posts_8 33 rfl) (by decide) rfl ?_
                    refine v_iload X (xdec_at tL_posts_8 34 rfl) rfl ?_
                    refine v_bipush (v := 6) X (xdec_at tL_posts_8 35 rfl) (by decide) ?_
                    refine v_ishr X (xdec_at tL_posts_8 36 rfl) fun u9 => ?_
                    refine v_iconst (v := 3) X (xdec_at tL_posts_8 37 rfl) (by decide) ?_
                    refine v_wL X hE myL_some [.int u9, .int (nI 3)] [] (c_some u9 (n := 3) (by decide) (by decide)) (xw_at tW_2 29 rfl) rfl rfl (by rfl) (Nat.le_of_ble_eq_true rfl) (xdec_at tL_posts_8 38 rfl) ⟨(Nat.le_of_ble_eq_true rfl), (Nat.le_of_ble_eq_true rfl)⟩ ⟨(Nat.le_of_ble_eq_true rfl), (Nat.le_of_ble_eq_true rfl)⟩ ?_
                    rintro v9 lay9 C9 ⟨rfl, rfl, u10, hu10, rfl⟩
                    refine v_if_ne (tgt := 637) X (xdec_at tL_posts_8 39 rfl) (by decide) (fun c_630 => ?_) (fun c_630 => ?_)
                    · refine v_iconst (v := 0) X (xdec_at tL_posts_9 2 rfl) (by decide) ?_
                      refine v_istore (lv' := [some (.ref (lay (0, 0))), some (.ref (lay (500, 0))), some (.ref (lay (300, 0))), some (.int x), some (.int z), some (.int (nI u0)), some (.int (nI u1)), some (.int (nI u3)), some (.int (nI u8)), some (.int 0), none, none]) X (xdec_at tL_posts_9 3 rfl) (by decide) rfl ?_
                      refine v_aload_n X (xdec_at tL_posts_9 4 rfl) rfl rfl ?_
                      refine v_aload_n X (xdec_at tL_posts_9 5 rfl) rfl rfl ?_
                      refine v_bipush (v := 7) X (xdec_at tL_posts_9 6 rfl) (by decide) ?_
                      refine v_iload X (xdec_at tL_posts_9 7 rfl) rfl ?_
                      refine v_iload X (xdec_at tL_posts_9 8 rfl) rfl ?_
                      refine v_iconst (v := 0) X (xdec_at tL_posts_9 9 rfl) (by decide) ?_
                      refine v_iconst (v := 0) X (xdec_at tL_posts_9 10 rfl) (by decide) ?_
                      obtain ⟨eM, hJ⟩ := cm_close (c := bo 0) hL hu8 (bo01 0)
                      have h01 := hL.I.b (j := 14) (i := u8) (Or.inl rfl)
                      refine v_wL X hE myL_both [.ref (lay (0, 0)), .ref (lay (500, 0)), .int 7, .int (nI u8), .int 0, .int 0, .int 0] [] (both_of rfl (ckS_close hl0 hL eM hJ.z)) (xw_at tW_6 11 rfl) rfl rfl (by rfl) (Nat.le_of_ble_eq_true rfl) (xdec_at tL_posts_9 11 rfl) ⟨(Nat.le_of_ble_eq_true rfl), (Nat.le_of_ble_eq_true rfl)⟩ ⟨(Nat.le_of_ble_eq_true rfl), (Nat.le_of_ble_eq_true rfl)⟩ ?_
                      rintro v9 l5 C9 ⟨rfl, y_l5, rfl⟩
                      rw [← y_l5.1, ← y_l5.2.1, ← y_l5.2.2 (300, 0) (by decide) (by decide)]
                      refine v_istore (lv' := [some (.ref (l5 (0, 0))), some (.ref (l5 (500, 0))), some (.ref (l5 (300, 0))), some (.int x), some (.int z), some (.int (nI u0)), some (.int (nI u1)), some (.int (nI u3)), some (.int (nI u8)), some (.int 0), some (.int (μ.1 14 u8)), none]) X (xdec_at tL_posts_9 12 rfl) (by decide) rfl ?_
                      rcases h01 with h01 | h01
                      · refine v_iload X (xdec_at tL_posts_9 13 rfl) rfl ?_
                        refine v_if_eq (tgt := 666) X (xdec_at tL_posts_9 14 rfl) (by decide) (fun _ => ?_) (fun h9 => absurd h01 h9)
                        refine v_aload_n X (xdec_at tL_posts_9 18 rfl) rfl rfl ?_
                        refine v_aload_n X (xdec_at tL_posts_9 19 rfl) rfl rfl ?_
                        refine v_bipush (v := 7) X (xdec_at tL_posts_9 20 rfl) (by decide) ?_
                        refine v_iload X (xdec_at tL_posts_9 21 rfl) rfl ?_
                        refine v_iload X (xdec_at tL_posts_9 22 rfl) rfl ?_
                        refine v_iconst (v := 0) X (xdec_at tL_posts_9 23 rfl) (by decide) ?_
                        refine v_iconst (v := 0) X (xdec_at tL_posts_9 24 rfl) (by decide) ?_
                        obtain ⟨eM2, hJ2⟩ := cm_close (μ := (up2 μ.1 14 u8 (bo 0), μ.2)) (c := bo 0) hJ (show u8 < nG μ from hu8) (bo01 0)
                        refine v_wL X hE myL_both [.ref (l5 (0, 0)), .ref (l5 (500, 0)), .int 7, .int (nI u8), .int 0, .int 0, .int 0] [] (both_of rfl (ckS_close hl0 hJ eM2 hJ2.z)) (xw_at tW_6 11 rfl) rfl rfl (by rfl) (Nat.le_of_ble_eq_true rfl) (xdec_at tL_posts_9 25 rfl) ⟨(Nat.le_of_ble_eq_true rfl), (Nat.le_of_ble_eq_true rfl)⟩ ⟨(Nat.le_of_ble_eq_true rfl), (Nat.le_of_ble_eq_true rfl)⟩ ?_
                        rintro v9 l6 C9 ⟨rfl, y_l6, rfl⟩
                        rw [← y_l6.1, ← y_l6.2.1, ← y_l6.2.2 (300, 0) (by decide) (by decide)]
                        refine v_iload X (xdec_at tL_posts_9 26 rfl) rfl ?_
                        refine v_icmp_ne (tgt := 688) X (xdec_at tL_posts_9 27 rfl) (by decide) (fun h9 => absurd (u_at.trans (by decide)) h9) (fun _ => ?_)
                        refine v_iconst (v := 1) X (xdec_at tL_posts_9 28 rfl) (by decide) ?_
                        refine v_goto (tgt := 689) X (xdec_at tL_posts_9 29 rfl) (by decide) ?_
                        exact v_xr (v_zret X hr (xdec_at tL_posts_9 31 rfl) (Nat.le_of_ble_eq_true rfl) (Nat.le_of_ble_eq_true rfl) (by rfl) ⟨rfl, (lyL_tr y_l5 y_l6), (up2 (up2 μ.1 14 u8 (bo 0), μ.2).1 14 u8 (bo 0), (up2 μ.1 14 u8 (bo 0), μ.2).2), (if (up2 μ.1 14 u8 (bo 0), μ.2).1 14 (ix (nI u8)) = bo 0 then (if μ.1 14 (ix (nI u8)) = bo 0 then tb.1 else K_reckon (up2 μ.1 14 (ix (nI u8)) (bo 0), μ.2) tb.1, tb.2).1 else K_reckon (up2 (up2 μ.1 14 u8 (bo 0), μ.2).1 14 (ix (nI u8)) (bo 0), (up2 μ.1 14 u8 (bo 0), μ.2).2) (if μ.1 14 (ix (nI u8)) = bo 0 then tb.1 else K_reckon (up2 μ.1 14 (ix (nI u8)) (bo 0), μ.2) tb.1, tb.2).1, (if μ.1 14 (ix (nI u8)) = bo 0 then tb.1 else K_reckon (up2 μ.1 14 (ix (nI u8)) (bo 0), μ.2) tb.1, tb.2).2), (by rw [dv_e (μ := μ) (ν := (up2 (up2 μ.1 14 u8 (bo 0), μ.2).1 14 u8 (bo 0), (up2 μ.1 14 u8 (bo 0), μ.2).2)) rfl rfl rfl] <;> rfl), hJ2, hg, Nat.le_refl _⟩)
                      · refine v_iload X (xdec_at tL_posts_9 13 rfl) rfl ?_
                        refine v_if_eq (tgt := 666) X (xdec_at tL_posts_9 14 rfl) (by decide) (fun h9 => absurd h9 (show ¬ _ = (0 : Int32) from by rw [h01]; decide)) (fun _ => ?_)
                        refine v_iload X (xdec_at tL_posts_9 15 rfl) rfl ?_
                        refine v_iconst (v := 1) X (xdec_at tL_posts_9 16 rfl) (by decide) ?_
                        refine v_icmp_ne (tgt := 688) X (xdec_at tL_posts_9 17 rfl) (by decide) (fun h9 => absurd h01 h9) (fun _ => ?_)
                        refine v_aload_n X (xdec_at tL_posts_9 18 rfl) rfl rfl ?_
                        refine v_aload_n X (xdec_at tL_posts_9 19 rfl) rfl rfl ?_
                        refine v_bipush (v := 7) X (xdec_at tL_posts_9 20 rfl) (by decide) ?_
                        refine v_iload X (xdec_at tL_posts_9 21 rfl) rfl ?_
                        refine v_iload X (xdec_at tL_posts_9 22 rfl) rfl ?_
                        refine v_iconst (v := 0) X (xdec_at tL_posts_9 23 rfl) (by decide) ?_
                        refine v_iconst (v := 0) X (xdec_at tL_posts_9 24 rfl) (by decide) ?_
                        obtain ⟨eM2, hJ2⟩ := cm_close (μ := (up2 μ.1 14 u8 (bo 0), μ.2)) (c := bo 0) hJ (show u8 < nG μ from hu8) (bo01 0)
                        refine v_wL X hE myL_both [.ref (l5 (0, 0)), .ref (l5 (500, 0)), .int 7, .int (nI u8), .int 0, .int 0, .int 0] [] (both_of rfl (ckS_close hl0 hJ eM2 hJ2.z)) (xw_at tW_6 11 rfl) rfl rfl (by rfl) (Nat.le_of_ble_eq_true rfl) (xdec_at tL_posts_9 25 rfl) ⟨(Nat.le_of_ble_eq_true rfl), (Nat.le_of_ble_eq_true rfl)⟩ ⟨(Nat.le_of_ble_eq_true rfl), (Nat.le_of_ble_eq_true rfl)⟩ ?_
                        rintro v9 l7 C9 ⟨rfl, y_l7, rfl⟩
                        rw [← y_l7.1, ← y_l7.2.1, ← y_l7.2.2 (300, 0) (by decide) (by decide)]
                        refine v_iload X (xdec_at tL_posts_9 26 rfl) rfl ?_
                        refine v_icmp_ne (tgt := 688) X (xdec_at tL_posts_9 27 rfl) (by decide) (fun h9 => absurd (u_at.trans (by decide)) h9) (fun _ => ?_)
                        refine v_iconst (v := 1) X (xdec_at tL_posts_9 28 rfl) (by decide) ?_
                        refine v_goto (tgt := 689) X (xdec_at tL_posts_9 29 rfl) (by decide) ?_
                        exact v_xr (v_zret X hr (xdec_at tL_posts_9 31 rfl) (Nat.le_of_ble_eq_true rfl) (Nat.le_of_ble_eq_true rfl) (by rfl) ⟨rfl, (lyL_tr y_l5 y_l7), (up2 (up2 μ.1 14 u8 (bo 0), μ.2).1 14 u8 (bo 0), (up2 μ.1 14 u8 (bo 0), μ.2).2), (if (up2 μ.1 14 u8 (bo 0), μ.2).1 14 (ix (nI u8)) = bo 0 then (if μ.1 14 (ix (nI u8)) = bo 0 then tb.1 else K_reckon (up2 μ.1 14 (ix (nI u8)) (bo 0), μ.2) tb.1, tb.2).1 else K_reckon (up2 (up2 μ.1 14 u8 (bo 0), μ.2).1 14 (ix (nI u8)) (bo 0), (up2 μ.1 14 u8 (bo 0), μ.2).2) (if μ.1 14 (ix (nI u8)) = bo 0 then tb.1 else K_reckon (up2 μ.1 14 (ix (nI u8)) (bo 0), μ.2) tb.1, tb.2).1, (if μ.1 14 (ix (nI u8)) = bo 0 then tb.1 else K_reckon (up2 μ.1 14 (ix (nI u8)) (bo 0), μ.2) tb.1, tb.2).2), (by rw [dv_e (μ := μ) (ν := (up2 (up2 μ.1 14 u8 (bo 0), μ.2).1 14 u8 (bo 0), (up2 μ.1 14 u8 (bo 0), μ.2).2)) rfl rfl rfl] <;> rfl), hJ2, hg, Nat.le_refl _⟩)
                    · refine v_iconst (v := 1) X (xdec_at tL_posts_9 0 rfl) (by decide) ?_
                      refine v_goto (tgt := 638) X (xdec_at tL_posts_9 1 rfl) (by decide) ?_
                      refine v_istore (lv' := [some (.ref (lay (0, 0))), some (.ref (lay (500, 0))), some (.ref (lay (300, 0))), some (.int x), some (.int z), some (.int (nI u0)), some (.int (nI u1)), some (.int (nI u3)), some (.int (nI u8)), some (.int 1), none, none]) X (xdec_at tL_posts_9 3 rfl) (by decide) rfl ?_
                      refine v_aload_n X (xdec_at tL_posts_9 4 rfl) rfl rfl ?_
                      refine v_aload_n X (xdec_at tL_posts_9 5 rfl) rfl rfl ?_
                      refine v_bipush (v := 7) X (xdec_at tL_posts_9 6 rfl) (by decide) ?_
                      refine v_iload X (xdec_at tL_posts_9 7 rfl) rfl ?_
                      refine v_iload X (xdec_at tL_posts_9 8 rfl) rfl ?_
                      refine v_iconst (v := 0) X (xdec_at tL_posts_9 9 rfl) (by decide) ?_
                      refine v_iconst (v := 0) X (xdec_at tL_posts_9 10 rfl) (by decide) ?_
                      obtain ⟨eM, hJ⟩ := cm_close (c := bo 1) hL hu8 (bo01 1)
                      have h01 := hL.I.b (j := 14) (i := u8) (Or.inl rfl)
                      refine v_wL X hE myL_both [.ref (lay (0, 0)), .ref (lay (500, 0)), .int 7, .int (nI u8), .int 1, .int 0, .int 0] [] (both_of rfl (ckS_close hl0 hL eM hJ.z)) (xw_at tW_6 11 rfl) rfl rfl (by rfl) (Nat.le_of_ble_eq_true rfl) (xdec_at tL_posts_9 11 rfl) ⟨(Nat.le_of_ble_eq_true rfl), (Nat.le_of_ble_eq_true rfl)⟩ ⟨(Nat.le_of_ble_eq_true rfl), (Nat.le_of_ble_eq_true rfl)⟩ ?_
                      rintro v9 l8 C9 ⟨rfl, y_l8, rfl⟩
                      rw [← y_l8.1, ← y_l8.2.1, ← y_l8.2.2 (300, 0) (by decide) (by decide)]
                      refine v_istore (lv' := [some (.ref (l8 (0, 0))), some (.ref (l8 (500, 0))), some (.ref (l8 (300, 0))), some (.int x), some (.int z), some (.int (nI u0)), some (.int (nI u1)), some (.int (nI u3)), some (.int (nI u8)), some (.int 1), some (.int (μ.1 14 u8)), none]) X (xdec_at tL_posts_9 12 rfl) (by decide) rfl ?_
                      rcases h01 with h01 | h01
                      · refine v_iload X (xdec_at tL_posts_9 13 rfl) rfl ?_
                        refine v_if_eq (tgt := 666) X (xdec_at tL_posts_9 14 rfl) (by decide) (fun _ => ?_) (fun h9 => absurd h01 h9)
                        refine v_aload_n X (xdec_at tL_posts_9 18 rfl) rfl rfl ?_
                        refine v_aload_n X (xdec_at tL_posts_9 19 rfl) rfl rfl ?_
                        refine v_bipush (v := 7) X (xdec_at tL_posts_9 20 rfl) (by decide) ?_
                        refine v_iload X (xdec_at tL_posts_9 21 rfl) rfl ?_
                        refine v_iload X (xdec_at tL_posts_9 22 rfl) rfl ?_
                        refine v_iconst (v := 0) X (xdec_at tL_posts_9 23 rfl) (by decide) ?_
                        refine v_iconst (v := 0) X (xdec_at tL_posts_9 24 rfl) (by decide) ?_
                        obtain ⟨eM2, hJ2⟩ := cm_close (μ := (up2 μ.1 14 u8 (bo 1), μ.2)) (c := bo 1) hJ (show u8 < nG μ from hu8) (bo01 1)
                        refine v_wL X hE myL_both [.ref (l8 (0, 0)), .ref (l8 (500, 0)), .int 7, .int (nI u8), .int 1, .int 0, .int 0] [] (both_of rfl (ckS_close hl0 hJ eM2 hJ2.z)) (xw_at tW_6 11 rfl) rfl rfl (by rfl) (Nat.le_of_ble_eq_true rfl) (xdec_at tL_posts_9 25 rfl) ⟨(Nat.le_of_ble_eq_true rfl), (Nat.le_of_ble_eq_true rfl)⟩ ⟨(Nat.le_of_ble_eq_true rfl), (Nat.le_of_ble_eq_true rfl)⟩ ?_
                        rintro v9 l9 C9 ⟨rfl, y_l9, rfl⟩
                        rw [← y_l9.1, ← y_l9.2.1, ← y_l9.2.2 (300, 0) (by decide) (by decide)]
                        refine v_iload X (xdec_at tL_posts_9 26 rfl) rfl ?_
                        refine v_icmp_ne (tgt := 688) X (xdec_at tL_posts_9 27 rfl) (by decide) (fun h9 => absurd (u_at.trans (by decide)) h9) (fun _ => ?_)
                        refine v_iconst (v := 1) X (xdec_at tL_posts_9 28 rfl) (by decide) ?_
                        refine v_goto (tgt := 689) X (xdec_at tL_posts_9 29 rfl) (by decide) ?_
                        exact v_xr (v_zret X hr (xdec_at tL_posts_9 31 rfl) (Nat.le_of_ble_eq_true rfl) (Nat.le_of_ble_eq_true rfl) (by rfl) ⟨rfl, (lyL_tr y_l8 y_l9), (up2 (up2 μ.1 14 u8 (bo 1), μ.2).1 14 u8 (bo 1), (up2 μ.1 14 u8 (bo 1), μ.2).2), (if (up2 μ.1 14 u8 (bo 1), μ.2).1 14 (ix (nI u8)) = bo 1 then (if μ.1 14 (ix (nI u8)) = bo 1 then tb.1 else K_reckon (up2 μ.1 14 (ix (nI u8)) (bo 1), μ.2) tb.1, tb.2).1 else K_reckon (up2 (up2 μ.1 14 u8 (bo 1), μ.2).1 14 (ix (nI u8)) (bo 1), (up2 μ.1 14 u8 (bo 1), μ.2).2) (if μ.1 14 (ix (nI u8)) = bo 1 then tb.1 else K_reckon (up2 μ.1 14 (ix (nI u8)) (bo 1), μ.2) tb.1, tb.2).1, (if μ.1 14 (ix (nI u8)) = bo 1 then tb.1 else K_reckon (up2 μ.1 14 (ix (nI u8)) (bo 1), μ.2) tb.1, tb.2).2), (by rw [dv_e (μ := μ) (ν := (up2 (up2 μ.1 14 u8 (bo 1), μ.2).1 14 u8 (bo 1), (up2 μ.1 14 u8 (bo 1), μ.2).2)) rfl rfl rfl] <;> rfl), hJ2, hg, Nat.le_refl _⟩)
                      · refine v_iload X (xdec_at tL_posts_9 13 rfl) rfl ?_
                        refine v_if_eq (tgt := 666) X (xdec_at tL_posts_9 14 rfl) (by decide) (fun h9 => absurd h9 (show ¬ _ = (0 : Int32) from by rw [h01]; decide)) (fun _ => ?_)
                        refine v_iload X (xdec_at tL_posts_9 15 rfl) rfl ?_
                        refine v_iconst (v := 1) X (xdec_at tL_posts_9 16 rfl) (by decide) ?_
                        refine v_icmp_ne (tgt := 688) X (xdec_at tL_posts_9 17 rfl) (by decide) (fun h9 => absurd h01 h9) (fun _ => ?_)
                        refine v_aload_n X (xdec_at tL_posts_9 18 rfl) rfl rfl ?_
                        refine v_aload_n X (xdec_at tL_posts_9 19 rfl) rfl rfl ?_
                        refine v_bipush (v := 7) X (xdec_at tL_posts_9 20 rfl) (by decide) ?_
                        refine v_iload X (xdec_at tL_posts_9 21 rfl) rfl ?_
                        refine v_iload X (xdec_at tL_posts_9 22 rfl) rfl ?_
                        refine v_iconst (v := 0) X (xdec_at tL_posts_9 23 rfl) (by decide) ?_
                        refine v_iconst (v := 0) X (xdec_at tL_posts_9 24 rfl) (by decide) ?_
                        obtain ⟨eM2, hJ2⟩ := cm_close (μ := (up2 μ.1 14 u8 (bo 1), μ.2)) (c := bo 1) hJ (show u8 < nG μ from hu8) (bo01 1)
                        refine v_wL X hE myL_both [.ref (l8 (0, 0)), .ref (l8 (500, 0)), .int 7, .int (nI u8), .int 1, .int 0, .int 0] [] (both_of rfl (ckS_close hl0 hJ eM2 hJ2.z)) (xw_at tW_6 11 rfl) rfl rfl (by rfl) (Nat.le_of_ble_eq_true rfl) (xdec_at tL_posts_9 25 rfl) ⟨(Nat.le_of_ble_eq_true rfl), (Nat.le_of_ble_eq_true rfl)⟩ ⟨(Nat.le_of_ble_eq_true rfl), (Nat.le_of_ble_eq_true rfl)⟩ ?_
                        rintro v9 l10 C9 ⟨rfl, y_l10, rfl⟩
                        rw [← y_l10.1, ← y_l10.2.1, ← y_l10.2.2 (300, 0) (by decide) (by decide)]
                        refine v_iload X (xdec_at tL_posts_9 26 rfl) rfl ?_
                        refine v_icmp_ne (tgt := 688) X (xdec_at tL_posts_9 27 rfl) (by decide) (fun h9 => absurd (u_at.trans (by decide)) h9) (fun _ => ?_)
                        refine v_iconst (v := 1) X (xdec_at tL_posts_9 28 rfl) (by decide) ?_
                        refine v_goto (tgt := 689) X (xdec_at tL_posts_9 29 rfl) (by decide) ?_
                        exact v_xr (v_zret X hr (xdec_at tL_posts_9 31 rfl) (Nat.le_of_ble_eq_true rfl) (Nat.le_of_ble_eq_true rfl) (by rfl) ⟨rfl, (lyL_tr y_l8 y_l10), (up2 (up2 μ.1 14 u8 (bo 1), μ.2).1 14 u8 (bo 1), (up2 μ.1 14 u8 (bo 1), μ.2).2), (if (up2 μ.1 14 u8 (bo 1), μ.2).1 14 (ix (nI u8)) = bo 1 then (if μ.1 14 (ix (nI u8)) = bo 1 then tb.1 else K_reckon (up2 μ.1 14 (ix (nI u8)) (bo 1), μ.2) tb.1, tb.2).1 else K_reckon (up2 (up2 μ.1 14 u8 (bo 1), μ.2).1 14 (ix (nI u8)) (bo 1), (up2 μ.1 14 u8 (bo 1), μ.2).2) (if μ.1 14 (ix (nI u8)) = bo 1 then tb.1 else K_reckon (up2 μ.1 14 (ix (nI u8)) (bo 1), μ.2) tb.1, tb.2).1, (if μ.1 14 (ix (nI u8)) = bo 1 then tb.1 else K_reckon (up2 μ.1 14 (ix (nI u8)) (bo 1), μ.2) tb.1, tb.2).2), (by rw [dv_e (μ := μ) (ν := (up2 (up2 μ.1 14 u8 (bo 1), μ.2).1 14 u8 (bo 1), (up2 μ.1 14 u8 (bo 1), μ.2).2)) rfl rfl rfl] <;> rfl), hJ2, hg, Nat.le_refl _⟩)
                  · exact J491
            · refine v_iload X (xdec_at tL_posts_5 27 rfl) rfl ?_
              refine v_bipush (v := 6) X (xdec_at tL_posts_5 28 rfl) (by decide) ?_
              refine v_ishr X (xdec_at tL_posts_5 29 rfl) fun u11 => ?_
              refine v_iconst (v := 4) X (xdec_at tL_posts_5 30 rfl) (by decide) ?_
              refine v_wL X hE myL_some [.int u11, .int (nI 4)] [] (c_some u11 (n := 4) (by decide) (by decide)) (xw_at tW_2 29 rfl) rfl rfl (by rfl) (Nat.le_of_ble_eq_true rfl) (xdec_at tL_posts_5 31 rfl) ⟨(Nat.le_of_ble_eq_true rfl), (Nat.le_of_ble_eq_true rfl)⟩ ⟨(Nat.le_of_ble_eq_true rfl), (Nat.le_of_ble_eq_true rfl)⟩ ?_
              rintro v9 lay9 C9 ⟨rfl, rfl, u12, hu12, rfl⟩
              refine v_if_ne (tgt := 427) X (xdec_at tL_posts_5 32 rfl) (by decide) (fun c_420 => ?_) (fun c_420 => ?_)
              · refine v_iconst (v := 0) X (xdec_at tL_posts_5 35 rfl) (by decide) ?_
                refine v_istore (lv' := [some (.ref (lay (0, 0))), some (.ref (lay (500, 0))), some (.ref (lay (300, 0))), some (.int x), some (.int z), some (.int (nI u0)), some (.int (nI u1)), some (.int (nI u3)), some (.int 0), none, none, none]) X (xdec_at tL_posts_5 36 rfl) (by decide) rfl ?_
                refine v_aload_n X (xdec_at tL_posts_5 37 rfl) rfl rfl ?_
                refine v_aload_n X (xdec_at tL_posts_5 38 rfl) rfl rfl ?_
                refine v_iconst (v := 5) X (xdec_at tL_posts_5 39 rfl) (by decide) ?_
                refine v_iload X (xdec_at tL_posts_6 0 rfl) rfl ?_
                refine v_iload X (xdec_at tL_posts_6 1 rfl) rfl ?_
                refine v_iconst (v := 0) X (xdec_at tL_posts_6 2 rfl) (by decide) ?_
                refine v_iconst (v := 0) X (xdec_at tL_posts_6 3 rfl) (by decide) ?_
                obtain ⟨eM, hJ⟩ := cm_strike (c := bo 0) hL hu1 (bo01 0)
                have h01 := hL.I.b (j := 6) (i := u1) (Or.inl rfl)
                refine v_wL X hE myL_both [.ref (lay (0, 0)), .ref (lay (500, 0)), .int 5, .int (nI u1), .int 0, .int 0, .int 0] [] (both_of rfl (ckS_strike hl0 hL eM hJ.z)) (xw_at tW_6 11 rfl) rfl rfl (by rfl) (Nat.le_of_ble_eq_true rfl) (xdec_at tL_posts_6 4 rfl) ⟨(Nat.le_of_ble_eq_true rfl), (Nat.le_of_ble_eq_true rfl)⟩ ⟨(Nat.le_of_ble_eq_true rfl), (Nat.le_of_ble_eq_true rfl)⟩ ?_
                rintro v9 l11 C9 ⟨rfl, y_l11, rfl⟩
                rw [← y_l11.1, ← y_l11.2.1, ← y_l11.2.2 (300, 0) (by decide) (by decide)]
                refine v_istore (lv' := [some (.ref (l11 (0, 0))), some (.ref (l11 (500, 0))), some (.ref (l11 (300, 0))), some (.int x), some (.int z), some (.int (nI u0)), some (.int (nI u1)), some (.int (nI u3)), some (.int 0), some (.int (μ.1 6 u1)), none, none]) X (xdec_at tL_posts_6 5 rfl) (by decide) rfl ?_
                rcases h01 with h01 | h01
                · refine v_iload X (xdec_at tL_posts_6 6 rfl) rfl ?_
                  refine v_if_eq (tgt := 455) X (xdec_at tL_posts_6 7 rfl) (by decide) (fun _ => ?_) (fun h9 => absurd h01 h9)
                  refine v_aload_n X (xdec_at tL_posts_6 11 rfl) rfl rfl ?_
                  refine v_aload_n X (xdec_at tL_posts_6 12 rfl) rfl rfl ?_
                  refine v_iconst (v := 5) X (xdec_at tL_posts_6 13 rfl) (by decide) ?_
                  refine v_iload X (xdec_at tL_posts_6 14 rfl) rfl ?_
                  refine v_iload X (xdec_at tL_posts_6 15 rfl) rfl ?_
                  refine v_iconst (v := 0) X (xdec_at tL_posts_6 16 rfl) (by decide) ?_
                  refine v_iconst (v := 0) X (xdec_at tL_posts_6 17 rfl) (by decide) ?_
                  obtain ⟨eM2, hJ2⟩ := cm_strike (μ := (up2 μ.1 6 u1 (bo 0), μ.2)) (c := bo 0) hJ (show u1 < nP μ from hu1) (bo01 0)
                  refine v_wL X hE myL_both [.ref (l11 (0, 0)), .ref (l11 (500, 0)), .int 5, .int (nI u1), .int 0, .int 0, .int 0] [] (both_of rfl (ckS_strike hl0 hJ eM2 hJ2.z)) (xw_at tW_6 11 rfl) rfl rfl (by rfl) (Nat.le_of_ble_eq_true rfl) (xdec_at tL_posts_6 18 rfl) ⟨(Nat.le_of_ble_eq_true rfl), (Nat.le_of_ble_eq_true rfl)⟩ ⟨(Nat.le_of_ble_eq_true rfl), (Nat.le_of_ble_eq_true rfl)⟩ ?_
                  rintro v9 l12 C9 ⟨rfl, y_l12, rfl⟩
                  rw [← y_l12.1, ← y_l12.2.1, ← y_l12.2.2 (300, 0) (by decide) (by decide)]
                  refine v_iload X (xdec_at tL_posts_6 19 rfl) rfl ?_
                  refine v_icmp_ne (tgt := 476) X (xdec_at tL_posts_6 20 rfl) (by decide) (fun h9 => absurd (u_at.trans (by decide)) h9) (fun _ => ?_)
                  refine v_iconst (v := 1) X (xdec_at tL_posts_6 21 rfl) (by decide) ?_
                  refine v_goto (tgt := 477) X (xdec_at tL_posts_6 22 rfl) (by decide) ?_
                  exact v_xr (v_zret X hr (xdec_at tL_posts_6 24 rfl) (Nat.le_of_ble_eq_true rfl) (Nat.le_of_ble_eq_true rfl) (by rfl) ⟨rfl, (lyL_tr y_l11 y_l12), (up2 (up2 μ.1 6 u1 (bo 0), μ.2).1 6 u1 (bo 0), (up2 μ.1 6 u1 (bo 0), μ.2).2), tb, (by rw [dv_e (μ := μ) (ν := (up2 (up2 μ.1 6 u1 (bo 0), μ.2).1 6 u1 (bo 0), (up2 μ.1 6 u1 (bo 0), μ.2).2)) rfl rfl rfl] <;> rfl), hJ2, hg, Nat.le_refl _⟩)
                · refine v_iload X (xdec_at tL_posts_6 6 rfl) rfl ?_
                  refine v_if_eq (tgt := 455) X (xdec_at tL_posts_6 7 rfl) (by decide) (fun h9 => absurd h9 (show ¬ _ = (0 : Int32) from by rw [h01]; decide)) (fun _ => ?_)
                  refine v_iload X (xdec_at tL_posts_6 8 rfl) rfl ?_
                  refine v_iconst (v := 1) X (xdec_at tL_posts_6 9 rfl) (by decide) ?_
                  refine v_icmp_ne (tgt := 476) X (xdec_at tL_posts_6 10 rfl) (by decide) (fun h9 => absurd h01 h9) (fun _ => ?_)
                  refine v_aload_n X (xdec_at tL_posts_6 11 rfl) rfl rfl ?_
                  refine v_aload_n X (xdec_at tL_posts_6 12 rfl) rfl rfl ?_
                  refine v_iconst (v := 5) X (xdec_at tL_posts_6 13 rfl) (by decide) ?_
                  refine v_iload X (xdec_at tL_posts_6 14 rfl) rfl ?_
                  refine v_iload X (xdec_at tL_posts_6 15 rfl) rfl ?_
                  refine v_iconst (v := 0) X (xdec_at tL_posts_6 16 rfl) (by decide) ?_
                  refine v_iconst (v := 0) X (xdec_at tL_posts_6 17 rfl) (by decide) ?_
                  obtain ⟨eM2, hJ2⟩ := cm_strike (μ := (up2 μ.1 6 u1 (bo 0), μ.2)) (c := bo 0) hJ (show u1 < nP μ from hu1) (bo01 0)
                  refine v_wL X hE myL_both [.ref (l11 (0, 0)), .ref (l11 (500, 0)), .int 5, .int (nI u1), .int 0, .int 0, .int 0] [] (both_of rfl (ckS_strike hl0 hJ eM2 hJ2.z)) (xw_at tW_6 11 rfl) rfl rfl (by rfl) (Nat.le_of_ble_eq_true rfl) (xdec_at tL_posts_6 18 rfl) ⟨(Nat.le_of_ble_eq_true rfl), (Nat.le_of_ble_eq_true rfl)⟩ ⟨(Nat.le_of_ble_eq_true rfl), (Nat.le_of_ble_eq_true rfl)⟩ ?_
                  rintro v9 l13 C9 ⟨rfl, y_l13, rfl⟩
                  rw [← y_l13.1, ← y_l13.2.1, ← y_l13.2.2 (300, 0) (by decide) (by decide)]
                  refine v_iload X (xdec_at tL_posts_6 19 rfl) rfl ?_
                  refine v_icmp_ne (tgt := 476) X (xdec_at tL_posts_6 20 rfl) (by decide) (fun h9 => absurd (u_at.trans (by decide)) h9) (fun _ => ?_)
                  refine v_iconst (v := 1) X (xdec_at tL_posts_6 21 rfl) (by decide) ?_
                  refine v_goto (tgt := 477) X (xdec_at tL_posts_6 22 rfl) (by decide) ?_
                  exact v_xr (v_zret X hr (xdec_at tL_posts_6 24 rfl) (Nat.le_of_ble_eq_true rfl) (Nat.le_of_ble_eq_true rfl) (by rfl) ⟨rfl, (lyL_tr y_l11 y_l13), (up2 (up2 μ.1 6 u1 (bo 0), μ.2).1 6 u1 (bo 0), (up2 μ.1 6 u1 (bo 0), μ.2).2), tb, (by rw [dv_e (μ := μ) (ν := (up2 (up2 μ.1 6 u1 (bo 0), μ.2).1 6 u1 (bo 0), (up2 μ.1 6 u1 (bo 0), μ.2).2)) rfl rfl rfl] <;> rfl), hJ2, hg, Nat.le_refl _⟩)
              · refine v_iconst (v := 1) X (xdec_at tL_posts_5 33 rfl) (by decide) ?_
                refine v_goto (tgt := 428) X (xdec_at tL_posts_5 34 rfl) (by decide) ?_
                refine v_istore (lv' := [some (.ref (lay (0, 0))), some (.ref (lay (500, 0))), some (.ref (lay (300, 0))), some (.int x), some (.int z), some (.int (nI u0)), some (.int (nI u1)), some (.int (nI u3)), some (.int 1), none, none, none]) X (xdec_at tL_posts_5 36 rfl) (by decide) rfl ?_
                refine v_aload_n X (xdec_at tL_posts_5 37 rfl) rfl rfl ?_
                refine v_aload_n X (xdec_at tL_posts_5 38 rfl) rfl rfl ?_
                refine v_iconst (v := 5) X (xdec_at tL_posts_5 39 rfl) (by decide) ?_
                refine v_iload X (xdec_at tL_posts_6 0 rfl) rfl ?_
                refine v_iload X (xdec_at tL_posts_6 1 rfl) rfl ?_
                refine v_iconst (v := 0) X (xdec_at tL_posts_6 2 rfl) (by decide) ?_
                refine v_iconst (v := 0) X (xdec_at tL_posts_6 3 rfl) (by decide) ?_
                obtain ⟨eM, hJ⟩ := cm_strike (c := bo 1) hL hu1 (bo01 1)
                have h01 := hL.I.b (j := 6) (i := u1) (Or.inl rfl)
                refine v_wL X hE myL_both [.ref (lay (0, 0)), .ref (lay (500, 0)), .int 5, .int (nI u1), .int 1, .int 0, .int 0] [] (both_of rfl (ckS_strike hl0 hL eM hJ.z)) (xw_at tW_6 11 rfl) rfl rfl (by rfl) (Nat.le_of_ble_eq_true rfl) (xdec_at tL_posts_6 4 rfl) ⟨(Nat.le_of_ble_eq_true rfl), (Nat.le_of_ble_eq_true rfl)⟩ ⟨(Nat.le_of_ble_eq_true rfl), (Nat.le_of_ble_eq_true rfl)⟩ ?_
                rintro v9 l14 C9 ⟨rfl, y_l14, rfl⟩
                rw [← y_l14.1, ← y_l14.2.1, ← y_l14.2.2 (300, 0) (by decide) (by decide)]
                refine v_istore (lv' := [some (.ref (l14 (0, 0))), some (.ref (l14 (500, 0))), some (.ref (l14 (300, 0))), some (.int x), some (.int z), some (.int (nI u0)), some (.int (nI u1)), some (.int (nI u3)), some (.int 1), some (.int (μ.1 6 u1)), none, none]) X (xdec_at tL_posts_6 5 rfl) (by decide) rfl ?_
                rcases h01 with h01 | h01
                · refine v_iload X (xdec_at tL_posts_6 6 rfl) rfl ?_
                  refine v_if_eq (tgt := 455) X (xdec_at tL_posts_6 7 rfl) (by decide) (fun _ => ?_) (fun h9 => absurd h01 h9)
                  refine v_aload_n X (xdec_at tL_posts_6 11 rfl) rfl rfl ?_
                  refine v_aload_n X (xdec_at tL_posts_6 12 rfl) rfl rfl ?_
                  refine v_iconst (v := 5) X (xdec_at tL_posts_6 13 rfl) (by decide) ?_
                  refine v_iload X (xdec_at tL_posts_6 14 rfl) rfl ?_
                  refine v_iload X (xdec_at tL_posts_6 15 rfl) rfl ?_
                  refine v_iconst (v := 0) X (xdec_at tL_posts_6 16 rfl) (by decide) ?_
                  refine v_iconst (v := 0) X (xdec_at tL_posts_6 17 rfl) (by decide) ?_
                  obtain ⟨eM2, hJ2⟩ := cm_strike (μ := (up2 μ.1 6 u1 (bo 1), μ.2)) (c := bo 1) hJ (show u1 < nP μ from hu1) (bo01 1)
                  refine v_wL X hE myL_both [.ref (l14 (0, 0)), .ref (l14 (500, 0)), .int 5, .int (nI u1), .int 1, .int 0, .int 0] [] (both_of rfl (ckS_strike hl0 hJ eM2 hJ2.z)) (xw_at tW_6 11 rfl) rfl rfl (by rfl) (Nat.le_of_ble_eq_true rfl) (xdec_at tL_posts_6 18 rfl) ⟨(Nat.le_of_ble_eq_true rfl), (Nat.le_of_ble_eq_true rfl)⟩ ⟨(Nat.le_of_ble_eq_true rfl), (Nat.le_of_ble_eq_true rfl)⟩ ?_
                  rintro v9 l15 C9 ⟨rfl, y_l15, rfl⟩
                  rw [← y_l15.1, ← y_l15.2.1, ← y_l15.2.2 (300, 0) (by decide) (by decide)]
                  refine v_iload X (xdec_at tL_posts_6 19 rfl) rfl ?_
                  refine v_icmp_ne (tgt := 476) X (xdec_at tL_posts_6 20 rfl) (by decide) (fun h9 => absurd (u_at.trans (by decide)) h9) (fun _ => ?_)
                  refine v_iconst (v := 1) X (xdec_at tL_posts_6 21 rfl) (by decide) ?_
                  refine v_goto (tgt := 477) X (xdec_at tL_posts_6 22 rfl) (by decide) ?_
                  exact v_xr (v_zret X hr (xdec_at tL_posts_6 24 rfl) (Nat.le_of_ble_eq_true rfl) (Nat.le_of_ble_eq_true rfl) (by rfl) ⟨rfl, (lyL_tr y_l14 y_l15), (up2 (up2 μ.1 6 u1 (bo 1), μ.2).1 6 u1 (bo 1), (up2 μ.1 6 u1 (bo 1), μ.2).2), tb, (by rw [dv_e (μ := μ) (ν := (up2 (up2 μ.1 6 u1 (bo 1), μ.2).1 6 u1 (bo 1), (up2 μ.1 6 u1 (bo 1), μ.2).2)) rfl rfl rfl] <;> rfl), hJ2, hg, Nat.le_refl _⟩)
                · refine v_iload X (xdec_at tL_posts_6 6 rfl) rfl ?_
                  refine v_if_eq (tgt := 455) X (xdec_at tL_posts_6 7 rfl) (by decide) (fun h9 => absurd h9 (show ¬ _ = (0 : Int32) from by rw [h01]; decide)) (fun _ => ?_)
                  refine v_iload X (xdec_at tL_posts_6 8 rfl) rfl ?_
                  refine v_iconst (v := 1) X (xdec_at tL_posts_6 9 rfl) (by decide) ?_
                  refine v_icmp_ne (tgt := 476) X (xdec_at tL_posts_6 10 rfl) (by decide) (fun h9 => absurd h01 h9) (fun _ => ?_)
                  refine v_aload_n X (xdec_at tL_posts_6 11 rfl) rfl rfl ?_
                  refine v_aload_n X (xdec_at tL_posts_6 12 rfl) rfl rfl ?_
                  refine v_iconst (v := 5) X (xdec_at tL_posts_6 13 rfl) (by decide) ?_
                  refine v_iload X (xdec_at tL_posts_6 14 rfl) rfl ?_
                  refine v_iload X (xdec_at tL_posts_6 15 rfl) rfl ?_
                  refine v_iconst (v := 0) X (xdec_at tL_posts_6 16 rfl) (by decide) ?_
                  refine v_iconst (v := 0) X (xdec_at tL_posts_6 17 rfl) (by decide) ?_
                  obtain ⟨eM2, hJ2⟩ := cm_strike (μ := (up2 μ.1 6 u1 (bo 1), μ.2)) (c := bo 1) hJ (show u1 < nP μ from hu1) (bo01 1)
                  refine v_wL X hE myL_both [.ref (l14 (0, 0)), .ref (l14 (500, 0)), .int 5, .int (nI u1), .int 1, .int 0, .int 0] [] (both_of rfl (ckS_strike hl0 hJ eM2 hJ2.z)) (xw_at tW_6 11 rfl) rfl rfl (by rfl) (Nat.le_of_ble_eq_true rfl) (xdec_at tL_posts_6 18 rfl) ⟨(Nat.le_of_ble_eq_true rfl), (Nat.le_of_ble_eq_true rfl)⟩ ⟨(Nat.le_of_ble_eq_true rfl), (Nat.le_of_ble_eq_true rfl)⟩ ?_
                  rintro v9 l16 C9 ⟨rfl, y_l16, rfl⟩
                  rw [← y_l16.1, ← y_l16.2.1, ← y_l16.2.2 (300, 0) (by decide) (by decide)]
                  refine v_iload X (xdec_at tL_posts_6 19 rfl) rfl ?_
                  refine v_icmp_ne (tgt := 476) X (xdec_at tL_posts_6 20 rfl) (by decide) (fun h9 => absurd (u_at.trans (by decide)) h9) (fun _ => ?_)
                  refine v_iconst (v := 1) X (xdec_at tL_posts_6 21 rfl) (by decide) ?_
                  refine v_goto (tgt := 477) X (xdec_at tL_posts_6 22 rfl) (by decide) ?_
                  exact v_xr (v_zret X hr (xdec_at tL_posts_6 24 rfl) (Nat.le_of_ble_eq_true rfl) (Nat.le_of_ble_eq_true rfl) (by rfl) ⟨rfl, (lyL_tr y_l14 y_l16), (up2 (up2 μ.1 6 u1 (bo 1), μ.2).1 6 u1 (bo 1), (up2 μ.1 6 u1 (bo 1), μ.2).2), tb, (by rw [dv_e (μ := μ) (ν := (up2 (up2 μ.1 6 u1 (bo 1), μ.2).1 6 u1 (bo 1), (up2 μ.1 6 u1 (bo 1), μ.2).2)) rfl rfl rfl] <;> rfl), hJ2, hg, Nat.le_refl _⟩)
          · refine v_iload X (xdec_at tL_posts_4 2 rfl) rfl ?_
            refine v_bipush (v := 8) X (xdec_at tL_posts_4 3 rfl) (by decide) ?_
            refine v_ishr X (xdec_at tL_posts_4 4 rfl) fun u13 => ?_
            refine v_sipush (v := 900) X (xdec_at tL_posts_4 5 rfl) (by decide) ?_
            refine v_wL X hE myL_some [.int u13, .int (nI 900)] [] (c_some u13 (n := 900) (by decide) (by decide)) (xw_at tW_2 29 rfl) rfl rfl (by rfl) (Nat.le_of_ble_eq_true rfl) (xdec_at tL_posts_4 6 rfl) ⟨(Nat.le_of_ble_eq_true rfl), (Nat.le_of_ble_eq_true rfl)⟩ ⟨(Nat.le_of_ble_eq_true rfl), (Nat.le_of_ble_eq_true rfl)⟩ ?_
            rintro v9 lay9 C9 ⟨rfl, rfl, u14, hu14, rfl⟩
            refine v_istore (lv' := [some (.ref (lay (0, 0))), some (.ref (lay (500, 0))), some (.ref (lay (300, 0))), some (.int x), some (.int z), some (.int (nI u0)), some (.int (nI u1)), some (.int (nI u3)), some (.int (nI u14)), none, none, none]) X (xdec_at tL_posts_4 7 rfl) (by decide) rfl ?_
            refine v_iload X (xdec_at tL_posts_4 8 rfl) rfl ?_
            refine v_iconst (v := 5) X (xdec_at tL_posts_4 9 rfl) (by decide) ?_
            refine v_icmp_ge (tgt := 326) X (xdec_at tL_posts_4 10 rfl) (by decide) (fun c_307 => ?_) (fun c_307 => ?_)
            · have h4_u0 := (nI_leI (a := 5) (by decide) (by omega)).mp c_307
              have h5_u0 := Nat.not_le.mp (fun q9 => c_288 (nI_le (a := 7) q9 (by omega)))
              obtain rfl | rfl : u0 = 5 ∨ u0 = 6 := by omega
              · refine v_aload_n X (xdec_at tL_posts_4 20 rfl) rfl rfl ?_
                refine v_aload_n X (xdec_at tL_posts_4 21 rfl) rfl rfl ?_
                refine v_iload X (xdec_at tL_posts_4 22 rfl) rfl ?_
                refine v_iconst (v := 2) X (xdec_at tL_posts_4 23 rfl) (by decide) ?_
                refine v_isub X (xdec_at tL_posts_4 24 rfl) ?_
                refine v_st (st' := [.int 3, .ref (lay (500, 0)), .ref (lay (0, 0))]) (by rfl) ?_
                refine v_iload X (xdec_at tL_posts_4 25 rfl) rfl ?_
                refine v_iload X (xdec_at tL_posts_4 26 rfl) rfl ?_
                refine v_iconst (v := 0) X (xdec_at tL_posts_4 27 rfl) (by decide) ?_
                refine v_iconst (v := 0) X (xdec_at tL_posts_4 28 rfl) (by decide) ?_
                have hc9 : inR (nI u14) 0 1000 := inR_n (a := 0) (b := 1000) (Nat.zero_le _) (by omega) (by decide)
                obtain ⟨eM, hJ⟩ := cm_charge (c := (nI u14)) hL hu1 hc9
                have hV := (hL.2.2.2.1 u1).2.1
                refine v_wL X hE myL_both [.ref (lay (0, 0)), .ref (lay (500, 0)), .int 3, .int (nI u1), .int (nI u14), .int 0, .int 0] [] (both_of rfl (ckS_charge hl0 hL eM hJ.z)) (xw_at tW_6 11 rfl) rfl rfl (by rfl) (Nat.le_of_ble_eq_true rfl) (xdec_at tL_posts_4 29 rfl) ⟨(Nat.le_of_ble_eq_true rfl), (Nat.le_of_ble_eq_true rfl)⟩ ⟨(Nat.le_of_ble_eq_true rfl), (Nat.le_of_ble_eq_true rfl)⟩ ?_
                rintro v9 l17 C9 ⟨rfl, y_l17, rfl⟩
                rw [← y_l17.1, ← y_l17.2.1, ← y_l17.2.2 (300, 0) (by decide) (by decide)]
                refine v_istore (lv' := [some (.ref (l17 (0, 0))), some (.ref (l17 (500, 0))), some (.ref (l17 (300, 0))), some (.int x), some (.int z), some (.int (nI 5)), some (.int (nI u1)), some (.int (nI u3)), some (.int (nI u14)), some (.int (μ.1 4 u1)), none, none]) X (xdec_at tL_posts_4 30 rfl) (by decide) rfl ?_
                refine v_iload X (xdec_at tL_posts_4 31 rfl) rfl ?_
                refine v_if_lt (tgt := 402) X (xdec_at tL_posts_4 32 rfl) (by decide) (fun h9 => absurd h9 (Int32.not_lt.mpr hV.1)) (fun _ => ?_)
                refine v_iload X (xdec_at tL_posts_4 33 rfl) rfl ?_
                refine v_sipush (v := 10000) X (xdec_at tL_posts_4 34 rfl) (by decide) ?_
                refine v_icmp_gt (tgt := 402) X (xdec_at tL_posts_4 35 rfl) (by decide) (fun h9 => absurd h9 (Int32.not_lt.mpr hV.2)) (fun _ => ?_)
                refine v_iload X (xdec_at tL_posts_4 36 rfl) rfl ?_
                refine v_iconst (v := 5) X (xdec_at tL_posts_4 37 rfl) (by decide) ?_
                refine v_icmp_ge (tgt := 378) X (xdec_at tL_posts_4 38 rfl) (by decide) (fun _ => ?_) (fun h9 => absurd c_307 h9)
                refine v_aload_n X (xdec_at tL_posts_5 8 rfl) rfl rfl ?_
                refine v_aload_n X (xdec_at tL_posts_5 9 rfl) rfl rfl ?_
                refine v_iload X (xdec_at tL_posts_5 10 rfl) rfl ?_
                refine v_iconst (v := 2) X (xdec_at tL_posts_5 11 rfl) (by decide) ?_
                refine v_isub X (xdec_at tL_posts_5 12 rfl) ?_
                refine v_st (st' := [.int 3, .ref (l17 (500, 0)), .ref (l17 (0, 0))]) (by rfl) ?_
                refine v_iload X (xdec_at tL_posts_5 13 rfl) rfl ?_
                refine v_iload X (xdec_at tL_posts_5 14 rfl) rfl ?_
                refine v_iconst (v := 0) X (xdec_at tL_posts_5 15 rfl) (by decide) ?_
                refine v_iconst (v := 0) X (xdec_at tL_posts_5 16 rfl) (by decide) ?_
                obtain ⟨eM2, hJ2⟩ := cm_charge (μ := (up2 μ.1 4 u1 (nI u14), μ.2)) (c := (nI u14)) hJ (show u1 < nP μ from hu1) hc9
                refine v_wL X hE myL_both [.ref (l17 (0, 0)), .ref (l17 (500, 0)), .int 3, .int (nI u1), .int (nI u14), .int 0, .int 0] [] (both_of rfl (ckS_charge hl0 hJ eM2 hJ2.z)) (xw_at tW_6 11 rfl) rfl rfl (by rfl) (Nat.le_of_ble_eq_true rfl) (xdec_at tL_posts_5 17 rfl) ⟨(Nat.le_of_ble_eq_true rfl), (Nat.le_of_ble_eq_true rfl)⟩ ⟨(Nat.le_of_ble_eq_true rfl), (Nat.le_of_ble_eq_true rfl)⟩ ?_
                rintro v9 l18 C9 ⟨rfl, y_l18, rfl⟩
                rw [← y_l18.1, ← y_l18.2.1, ← y_l18.2.2 (300, 0) (by decide) (by decide)]
                refine v_iload X (xdec_at tL_posts_5 18 rfl) rfl ?_
                refine v_icmp_ne (tgt := 402) X (xdec_at tL_posts_5 19 rfl) (by decide) (fun h9 => absurd u_at h9) (fun _ => ?_)
                refine v_iconst (v := 1) X (xdec_at tL_posts_5 20 rfl) (by decide) ?_
                refine v_goto (tgt := 403) X (xdec_at tL_posts_5 21 rfl) (by decide) ?_
                exact v_xr (v_zret X hr (xdec_at tL_posts_5 23 rfl) (Nat.le_of_ble_eq_true rfl) (Nat.le_of_ble_eq_true rfl) (by rfl) ⟨rfl, (lyL_tr y_l17 y_l18), (up2 (up2 μ.1 4 u1 (nI u14), μ.2).1 4 u1 (nI u14), (up2 μ.1 4 u1 (nI u14), μ.2).2), tb, (by rw [dv_e (μ := μ) (ν := (up2 (up2 μ.1 4 u1 (nI u14), μ.2).1 4 u1 (nI u14), (up2 μ.1 4 u1 (nI u14), μ.2).2)) rfl rfl rfl] <;> rfl), hJ2, hg, Nat.le_refl _⟩)
              · refine v_aload_n X (xdec_at tL_posts_4 20 rfl) rfl rfl ?_
                refine v_aload_n X (xdec_at tL_posts_4 21 rfl) rfl rfl ?_
                refine v_iload X (xdec_at tL_posts_4 22 rfl) rfl ?_
                refine v_iconst (v := 2) X (xdec_at tL_posts_4 23 rfl) (by decide) ?_
                refine v_isub X (xdec_at tL_posts_4 24 rfl) ?_
                refine v_st (st' := [.int 4, .ref (lay (500, 0)), .ref (lay (0, 0))]) (by rfl) ?_
                refine v_iload X (xdec_at tL_posts_4 25 rfl) rfl ?_
                refine v_iload X (xdec_at tL_posts_4 26 rfl) rfl ?_
                refine v_iconst (v := 0) X (xdec_at tL_posts_4 27 rfl) (by decide) ?_
                refine v_iconst (v := 0) X (xdec_at tL_posts_4 28 rfl) (by decide) ?_
                have hc9 : inR (nI u14) 0 10000 := inR_n (a := 0) (b := 10000) (Nat.zero_le _) (by omega) (by decide)
                obtain ⟨eM, hJ⟩ := cm_coupon (c := (nI u14)) hL hu1 hc9
                have hV := (hL.2.2.2.1 u1).2.2
                refine v_wL X hE myL_both [.ref (lay (0, 0)), .ref (lay (500, 0)), .int 4, .int (nI u1), .int (nI u14), .int 0, .int 0] [] (both_of rfl (ckS_coupon hl0 hL eM hJ.z)) (xw_at tW_6 11 rfl) rfl rfl (by rfl) (Nat.le_of_ble_eq_true rfl) (xdec_at tL_posts_4 29 rfl) ⟨(Nat.le_of_ble_eq_true rfl), (Nat.le_of_ble_eq_true rfl)⟩ ⟨(Nat.le_of_ble_eq_true rfl), (Nat.le_of_ble_eq_true rfl)⟩ ?_
                rintro v9 l19 C9 ⟨rfl, y_l19, rfl⟩
                rw [← y_l19.1, ← y_l19.2.1, ← y_l19.2.2 (300, 0) (by decide) (by decide)]
                refine v_istore (lv' := [some (.ref (l19 (0, 0))), some (.ref (l19 (500, 0))), some (.ref (l19 (300, 0))), some (.int x), some (.int z), some (.int (nI 6)), some (.int (nI u1)), some (.int (nI u3)), some (.int (nI u14)), some (.int (μ.1 5 u1)), none, none]) X (xdec_at tL_posts_4 30 rfl) (by decide) rfl ?_
                refine v_iload X (xdec_at tL_posts_4 31 rfl) rfl ?_
                refine v_if_lt (tgt := 402) X (xdec_at tL_posts_4 32 rfl) (by decide) (fun h9 => absurd h9 (Int32.not_lt.mpr hV.1)) (fun _ => ?_)
                refine v_iload X (xdec_at tL_posts_4 33 rfl) rfl ?_
                refine v_sipush (v := 10000) X (xdec_at tL_posts_4 34 rfl) (by decide) ?_
                refine v_icmp_gt (tgt := 402) X (xdec_at tL_posts_4 35 rfl) (by decide) (fun h9 => absurd h9 (Int32.not_lt.mpr hV.2)) (fun _ => ?_)
                refine v_iload X (xdec_at tL_posts_4 36 rfl) rfl ?_
                refine v_iconst (v := 5) X (xdec_at tL_posts_4 37 rfl) (by decide) ?_
                refine v_icmp_ge (tgt := 378) X (xdec_at tL_posts_4 38 rfl) (by decide) (fun _ => ?_) (fun h9 => absurd c_307 h9)
                refine v_aload_n X (xdec_at tL_posts_5 8 rfl) rfl rfl ?_
                refine v_aload_n X (xdec_at tL_posts_5 9 rfl) rfl rfl ?_
                refine v_iload X (xdec_at tL_posts_5 10 rfl) rfl ?_
                refine v_iconst (v := 2) X (xdec_at tL_posts_5 11 rfl) (by decide) ?_
                refine v_isub X (xdec_at tL_posts_5 12 rfl) ?_
                refine v_st (st' := [.int 4, .ref (l19 (500, 0)), .ref (l19 (0, 0))]) (by rfl) ?_
                refine v_iload X (xdec_at tL_posts_5 13 rfl) rfl ?_
                refine v_iload X (xdec_at tL_posts_5 14 rfl) rfl ?_
                refine v_iconst (v := 0) X (xdec_at tL_posts_5 15 rfl) (by decide) ?_
                refine v_iconst (v := 0) X (xdec_at tL_posts_5 16 rfl) (by decide) ?_
                obtain ⟨eM2, hJ2⟩ := cm_coupon (μ := (up2 μ.1 5 u1 (nI u14), μ.2)) (c := (nI u14)) hJ (show u1 < nP μ from hu1) hc9
                refine v_wL X hE myL_both [.ref (l19 (0, 0)), .ref (l19 (500, 0)), .int 4, .int (nI u1), .int (nI u14), .int 0, .int 0] [] (both_of rfl (ckS_coupon hl0 hJ eM2 hJ2.z)) (xw_at tW_6 11 rfl) rfl rfl (by rfl) (Nat.le_of_ble_eq_true rfl) (xdec_at tL_posts_5 17 rfl) ⟨(Nat.le_of_ble_eq_true rfl), (Nat.le_of_ble_eq_true rfl)⟩ ⟨(Nat.le_of_ble_eq_true rfl), (Nat.le_of_ble_eq_true rfl)⟩ ?_
                rintro v9 l20 C9 ⟨rfl, y_l20, rfl⟩
                rw [← y_l20.1, ← y_l20.2.1, ← y_l20.2.2 (300, 0) (by decide) (by decide)]
                refine v_iload X (xdec_at tL_posts_5 18 rfl) rfl ?_
                refine v_icmp_ne (tgt := 402) X (xdec_at tL_posts_5 19 rfl) (by decide) (fun h9 => absurd u_at h9) (fun _ => ?_)
                refine v_iconst (v := 1) X (xdec_at tL_posts_5 20 rfl) (by decide) ?_
                refine v_goto (tgt := 403) X (xdec_at tL_posts_5 21 rfl) (by decide) ?_
                exact v_xr (v_zret X hr (xdec_at tL_posts_5 23 rfl) (Nat.le_of_ble_eq_true rfl) (Nat.le_of_ble_eq_true rfl) (by rfl) ⟨rfl, (lyL_tr y_l19 y_l20), (up2 (up2 μ.1 5 u1 (nI u14), μ.2).1 5 u1 (nI u14), (up2 μ.1 5 u1 (nI u14), μ.2).2), tb, (by rw [dv_e (μ := μ) (ν := (up2 (up2 μ.1 5 u1 (nI u14), μ.2).1 5 u1 (nI u14), (up2 μ.1 5 u1 (nI u14), μ.2).2)) rfl rfl rfl] <;> rfl), hJ2, hg, Nat.le_refl _⟩)
            · refine v_aload_n X (xdec_at tL_posts_4 11 rfl) rfl rfl ?_
              refine v_aload_n X (xdec_at tL_posts_4 12 rfl) rfl rfl ?_
              refine v_iconst (v := 2) X (xdec_at tL_posts_4 13 rfl) (by decide) ?_
              refine v_iload X (xdec_at tL_posts_4 14 rfl) rfl ?_
              refine v_iload X (xdec_at tL_posts_4 15 rfl) rfl ?_
              refine v_iload X (xdec_at tL_posts_4 16 rfl) rfl ?_
              refine v_iconst (v := 0) X (xdec_at tL_posts_4 17 rfl) (by decide) ?_
              have hq9 := isK_n hu3
              have hc9 : inR (nI u14) 0 10000 := inR_n (a := 0) (b := 10000) (Nat.zero_le _) (by omega) (by decide)
              obtain ⟨eM, hJ⟩ := cm_due (c := (nI u14)) hL hu1 hq9 hc9
              have hV := (hL.2.2.2.1 (3 * u1 + ix (nI u3))).1
              refine v_wL X hE myL_both [.ref (lay (0, 0)), .ref (lay (500, 0)), .int 2, .int (nI u1), .int (nI u3), .int (nI u14), .int 0] [] (both_of rfl (ckS_due hl0 hL eM hJ.z)) (xw_at tW_6 11 rfl) rfl rfl (by rfl) (Nat.le_of_ble_eq_true rfl) (xdec_at tL_posts_4 18 rfl) ⟨(Nat.le_of_ble_eq_true rfl), (Nat.le_of_ble_eq_true rfl)⟩ ⟨(Nat.le_of_ble_eq_true rfl), (Nat.le_of_ble_eq_true rfl)⟩ ?_
              rintro v9 l21 C9 ⟨rfl, y_l21, rfl⟩
              rw [← y_l21.1, ← y_l21.2.1, ← y_l21.2.2 (300, 0) (by decide) (by decide)]
              refine v_goto (tgt := 341) X (xdec_at tL_posts_4 19 rfl) (by decide) ?_
              refine v_istore (lv' := [some (.ref (l21 (0, 0))), some (.ref (l21 (500, 0))), some (.ref (l21 (300, 0))), some (.int x), some (.int z), some (.int (nI u0)), some (.int (nI u1)), some (.int (nI u3)), some (.int (nI u14)), some (.int (μ.1 3 (3 * u1 + ix (nI u3)))), none, none]) X (xdec_at tL_posts_4 30 rfl) (by decide) rfl ?_
              refine v_iload X (xdec_at tL_posts_4 31 rfl) rfl ?_
              refine v_if_lt (tgt := 402) X (xdec_at tL_posts_4 32 rfl) (by decide) (fun h9 => absurd h9 (Int32.not_lt.mpr hV.1)) (fun _ => ?_)
              refine v_iload X (xdec_at tL_posts_4 33 rfl) rfl ?_
              refine v_sipush (v := 10000) X (xdec_at tL_posts_4 34 rfl) (by decide) ?_
              refine v_icmp_gt (tgt := 402) X (xdec_at tL_posts_4 35 rfl) (by decide) (fun h9 => absurd h9 (Int32.not_lt.mpr hV.2)) (fun _ => ?_)
              refine v_iload X (xdec_at tL_posts_4 36 rfl) rfl ?_
              refine v_iconst (v := 5) X (xdec_at tL_posts_4 37 rfl) (by decide) ?_
              refine v_icmp_ge (tgt := 378) X (xdec_at tL_posts_4 38 rfl) (by decide) (fun h9 => absurd h9 c_307) (fun _ => ?_)
              refine v_aload_n X (xdec_at tL_posts_4 39 rfl) rfl rfl ?_
              refine v_aload_n X (xdec_at tL_posts_5 0 rfl) rfl rfl ?_
              refine v_iconst (v := 2) X (xdec_at tL_posts_5 1 rfl) (by decide) ?_
              refine v_iload X (xdec_at tL_posts_5 2 rfl) rfl ?_
              refine v_iload X (xdec_at tL_posts_5 3 rfl) rfl ?_
              refine v_iload X (xdec_at tL_posts_5 4 rfl) rfl ?_
              refine v_iconst (v := 0) X (xdec_at tL_posts_5 5 rfl) (by decide) ?_
              obtain ⟨eM2, hJ2⟩ := cm_due (μ := (up2 μ.1 3 (3 * u1 + ix (nI u3)) (nI u14), μ.2)) (c := (nI u14)) hJ (show u1 < nP μ from hu1) hq9 hc9
              refine v_wL X hE myL_both [.ref (l21 (0, 0)), .ref (l21 (500, 0)), .int 2, .int (nI u1), .int (nI u3), .int (nI u14), .int 0] [] (both_of rfl (ckS_due hl0 hJ eM2 hJ2.z)) (xw_at tW_6 11 rfl) rfl rfl (by rfl) (Nat.le_of_ble_eq_true rfl) (xdec_at tL_posts_5 6 rfl) ⟨(Nat.le_of_ble_eq_true rfl), (Nat.le_of_ble_eq_true rfl)⟩ ⟨(Nat.le_of_ble_eq_true rfl), (Nat.le_of_ble_eq_true rfl)⟩ ?_
              rintro v9 l22 C9 ⟨rfl, y_l22, rfl⟩
              rw [← y_l22.1, ← y_l22.2.1, ← y_l22.2.2 (300, 0) (by decide) (by decide)]
              refine v_goto (tgt := 393) X (xdec_at tL_posts_5 7 rfl) (by decide) ?_
              refine v_iload X (xdec_at tL_posts_5 18 rfl) rfl ?_
              refine v_icmp_ne (tgt := 402) X (xdec_at tL_posts_5 19 rfl) (by decide) (fun h9 => absurd u_at h9) (fun _ => ?_)
              refine v_iconst (v := 1) X (xdec_at tL_posts_5 20 rfl) (by decide) ?_
              refine v_goto (tgt := 403) X (xdec_at tL_posts_5 21 rfl) (by decide) ?_
              exact v_xr (v_zret X hr (xdec_at tL_posts_5 23 rfl) (Nat.le_of_ble_eq_true rfl) (Nat.le_of_ble_eq_true rfl) (by rfl) ⟨rfl, (lyL_tr y_l21 y_l22), (up2 (up2 μ.1 3 (3 * u1 + ix (nI u3)) (nI u14), μ.2).1 3 (3 * u1 + ix (nI u3)) (nI u14), (up2 μ.1 3 (3 * u1 + ix (nI u3)) (nI u14), μ.2).2), tb, (by rw [dv_e (μ := μ) (ν := (up2 (up2 μ.1 3 (3 * u1 + ix (nI u3)) (nI u14), μ.2).1 3 (3 * u1 + ix (nI u3)) (nI u14), (up2 μ.1 3 (3 * u1 + ix (nI u3)) (nI u14), μ.2).2)) rfl rfl rfl] <;> rfl), hJ2, hg, Nat.le_refl _⟩)
        · refine v_iload X (xdec_at tL_posts_2 13 rfl) rfl ?_
          refine v_bipush (v := 6) X (xdec_at tL_posts_2 14 rfl) (by decide) ?_
          refine v_ishr X (xdec_at tL_posts_2 15 rfl) fun u15 => ?_
          refine v_iconst (v := 4) X (xdec_at tL_posts_2 16 rfl) (by decide) ?_
          refine v_wL X hE myL_some [.int u15, .int (nI 4)] [] (c_some u15 (n := 4) (by decide) (by decide)) (xw_at tW_2 29 rfl) rfl rfl (by rfl) (Nat.le_of_ble_eq_true rfl) (xdec_at tL_posts_2 17 rfl) ⟨(Nat.le_of_ble_eq_true rfl), (Nat.le_of_ble_eq_true rfl)⟩ ⟨(Nat.le_of_ble_eq_true rfl), (Nat.le_of_ble_eq_true rfl)⟩ ?_
          rintro v9 lay9 C9 ⟨rfl, rfl, u16, hu16, rfl⟩
          refine v_if_ne (tgt := 175) X (xdec_at tL_posts_2 18 rfl) (by decide) (fun c_168 => ?_) (fun c_168 => ?_)
          · refine v_iload X (xdec_at tL_posts_2 21 rfl) rfl ?_
            refine v_bipush (v := 8) X (xdec_at tL_posts_2 22 rfl) (by decide) ?_
            refine v_ishr X (xdec_at tL_posts_2 23 rfl) fun u17 => ?_
            refine v_sipush (v := 300) X (xdec_at tL_posts_2 24 rfl) (by decide) ?_
            refine v_wL X hE myL_some [.int u17, .int (nI 300)] [] (c_some u17 (n := 300) (by decide) (by decide)) (xw_at tW_2 29 rfl) rfl rfl (by rfl) (Nat.le_of_ble_eq_true rfl) (xdec_at tL_posts_2 25 rfl) ⟨(Nat.le_of_ble_eq_true rfl), (Nat.le_of_ble_eq_true rfl)⟩ ⟨(Nat.le_of_ble_eq_true rfl), (Nat.le_of_ble_eq_true rfl)⟩ ?_
            rintro v9 lay9 C9 ⟨rfl, rfl, u18, hu18, rfl⟩
            refine v_istore (lv' := [some (.ref (lay (0, 0))), some (.ref (lay (500, 0))), some (.ref (lay (300, 0))), some (.int x), some (.int z), some (.int (nI u0)), some (.int (nI u1)), some (.int (nI u3)), some (.int (nI u18)), none, none, none]) X (xdec_at tL_posts_2 26 rfl) (by decide) rfl ?_
            refine v_iload X (xdec_at tL_posts_2 27 rfl) rfl ?_
            refine v_bipush (v := 10) X (xdec_at tL_posts_2 28 rfl) (by decide) ?_
            refine v_ishr X (xdec_at tL_posts_2 29 rfl) fun u19 => ?_
            refine v_bipush (v := 90) X (xdec_at tL_posts_2 30 rfl) (by decide) ?_
            refine v_wL X hE myL_some [.int u19, .int (nI 90)] [] (c_some u19 (n := 90) (by decide) (by decide)) (xw_at tW_2 29 rfl) rfl rfl (by rfl) (Nat.le_of_ble_eq_true rfl) (xdec_at tL_posts_2 31 rfl) ⟨(Nat.le_of_ble_eq_true rfl), (Nat.le_of_ble_eq_true rfl)⟩ ⟨(Nat.le_of_ble_eq_true rfl), (Nat.le_of_ble_eq_true rfl)⟩ ?_
            rintro v9 lay9 C9 ⟨rfl, rfl, u20, hu20, rfl⟩
            refine v_istore (lv' := [some (.ref (lay (0, 0))), some (.ref (lay (500, 0))), some (.ref (lay (300, 0))), some (.int x), some (.int z), some (.int (nI u0)), some (.int (nI u1)), some (.int (nI u3)), some (.int (nI u18)), some (.int (nI u20)), none, none]) X (xdec_at tL_posts_2 32 rfl) (by decide) rfl ?_
            refine v_aload_n X (xdec_at tL_posts_2 33 rfl) rfl rfl ?_
            refine v_aload_n X (xdec_at tL_posts_2 34 rfl) rfl rfl ?_
            refine v_iconst (v := 1) X (xdec_at tL_posts_2 35 rfl) (by decide) ?_
            refine v_iload X (xdec_at tL_posts_2 36 rfl) rfl ?_
            refine v_iload X (xdec_at tL_posts_2 37 rfl) rfl ?_
            refine v_iload X (xdec_at tL_posts_2 38 rfl) rfl ?_
            refine v_iload X (xdec_at tL_posts_2 39 rfl) rfl ?_
            have hq9 := isK_n hu3
            obtain ⟨eM, hJ⟩ := cm_rates (f := (nI u18)) (g := (nI u20)) hL hu1 hq9 (inR_n (a := 0) (b := 10000) (Nat.zero_le _) (by have := hu18; omega) (by decide)) (inR_n (a := 0) (b := 10000) (Nat.zero_le _) (by have := hu20; omega) (by decide))
            have hp9 : u1 < nP (up2 (up2 μ.1 1 (3 * u1 + ix (nI u3)) (nI u18)) 2 (3 * u1 + ix (nI u3)) (nI u20), μ.2) := hu1
            refine v_wL X hE myL_both [.ref (lay (0, 0)), .ref (lay (500, 0)), .int 1, .int (nI u1), .int (nI u3), .int (nI u18), .int (nI u20)] [] (both_of rfl (ckS_rates hl0 hL eM hJ.z)) (xw_at tW_6 11 rfl) rfl rfl (by rfl) (Nat.le_of_ble_eq_true rfl) (xdec_at tL_posts_3 0 rfl) ⟨(Nat.le_of_ble_eq_true rfl), (Nat.le_of_ble_eq_true rfl)⟩ ⟨(Nat.le_of_ble_eq_true rfl), (Nat.le_of_ble_eq_true rfl)⟩ ?_
            rintro v9 l23 C9 ⟨rfl, y_l23, rfl⟩
            rw [← y_l23.1, ← y_l23.2.1, ← y_l23.2.2 (300, 0) (by decide) (by decide)]
            refine v_if_ne (tgt := 282) X (xdec_at tL_posts_3 1 rfl) (by decide) (fun h9 => absurd h9 (by decide)) (fun _ => ?_)
            refine v_aload_n X (xdec_at tL_posts_3 2 rfl) rfl rfl ?_
            refine v_iload X (xdec_at tL_posts_3 3 rfl) rfl ?_
            refine v_iload X (xdec_at tL_posts_3 4 rfl) rfl ?_
            refine v_iconst (v := 1) X (xdec_at tL_posts_3 5 rfl) (by decide) ?_
            refine v_iconst (v := 0) X (xdec_at tL_posts_3 6 rfl) (by decide) ?_
            refine v_wN X hE myX4_rate [.int (nI u3), .int (nI u1), .int 1, .int 0] [] (qy_rate hl0 hJ.I hp9 hq9 (arG_1 _)) (xw_at tW_4 38 rfl) (0, 0) cX_X rfl rfl rfl rfl (by rfl) (Nat.le_of_ble_eq_true rfl) (xdec_at tL_posts_3 7 rfl) ⟨(Nat.le_of_ble_eq_true rfl), (Nat.le_of_ble_eq_true rfl)⟩ ⟨(Nat.le_of_ble_eq_true rfl), (Nat.le_of_ble_eq_true rfl)⟩ ?_
            rintro v9 lay9 C9 ⟨rfl, rfl, rfl⟩
            refine v_iload X (xdec_at tL_posts_3 8 rfl) rfl ?_
            refine v_icmp_ne (tgt := 282) X (xdec_at tL_posts_3 9 rfl) (by decide) (fun h9 => absurd (rt1 hL.I hu1 hq9) h9) (fun _ => ?_)
            refine v_aload_n X (xdec_at tL_posts_3 10 rfl) rfl rfl ?_
            refine v_iload X (xdec_at tL_posts_3 11 rfl) rfl ?_
            refine v_iload X (xdec_at tL_posts_3 12 rfl) rfl ?_
            refine v_bipush (v := 20) X (xdec_at tL_posts_3 13 rfl) (by decide) ?_
            refine v_iconst (v := 1) X (xdec_at tL_posts_3 14 rfl) (by decide) ?_
            refine v_wN X hE myX4_rate [.int (nI u3), .int (nI u1), .int 20, .int 1] [] (qy_rate hl0 hJ.I hp9 hq9 (arG_20 _)) (xw_at tW_4 38 rfl) (0, 0) cX_X rfl rfl rfl rfl (by rfl) (Nat.le_of_ble_eq_true rfl) (xdec_at tL_posts_3 15 rfl) ⟨(Nat.le_of_ble_eq_true rfl), (Nat.le_of_ble_eq_true rfl)⟩ ⟨(Nat.le_of_ble_eq_true rfl), (Nat.le_of_ble_eq_true rfl)⟩ ?_
            rintro v9 lay9 C9 ⟨rfl, rfl, rfl⟩
            refine v_iload X (xdec_at tL_posts_3 16 rfl) rfl ?_
            refine v_bipush (v := 50) X (xdec_at tL_posts_3 17 rfl) (by decide) ?_
            refine v_iadd X (xdec_at tL_posts_3 18 rfl) ?_
            refine v_icmp_ne (tgt := 282) X (xdec_at tL_posts_3 19 rfl) (by decide) (fun h9 => absurd (rt20 hL.I hu1 hq9) h9) (fun _ => ?_)
            refine v_iload X (xdec_at tL_posts_3 20 rfl) rfl ?_
            refine v_iconst (v := 1) X (xdec_at tL_posts_3 21 rfl) (by decide) ?_
            refine v_icmp_eq (tgt := 278) X (xdec_at tL_posts_3 22 rfl) (by decide) (fun c_254 => ?_) (fun c_254 => ?_)
            · refine v_iconst (v := 1) X (xdec_at tL_posts_3 35 rfl) (by decide) ?_
              refine v_goto (tgt := 283) X (xdec_at tL_posts_3 36 rfl) (by decide) ?_
              exact v_xr (v_zret X hr (xdec_at tL_posts_3 38 rfl) (Nat.le_of_ble_eq_true rfl) (Nat.le_of_ble_eq_true rfl) (by rfl) ⟨rfl, y_l23, (up2 (up2 μ.1 1 (3 * u1 + ix (nI u3)) (nI u18)) 2 (3 * u1 + ix (nI u3)) (nI u20), μ.2), tb, (by rw [dv_e (μ := μ) (ν := (up2 (up2 μ.1 1 (3 * u1 + ix (nI u3)) (nI u18)) 2 (3 * u1 + ix (nI u3)) (nI u20), μ.2)) rfl rfl rfl] <;> rfl), hJ.up, hg, Nat.le_refl _⟩)
            · refine v_aload_n X (xdec_at tL_posts_3 23 rfl) rfl rfl ?_
              refine v_iload X (xdec_at tL_posts_3 24 rfl) rfl ?_
              refine v_iload X (xdec_at tL_posts_3 25 rfl) rfl ?_
              refine v_bipush (v := 45) X (xdec_at tL_posts_3 26 rfl) (by decide) ?_
              refine v_iconst (v := 0) X (xdec_at tL_posts_3 27 rfl) (by decide) ?_
              refine v_wN X hE myX4_rate [.int (nI u3), .int (nI u1), .int 45, .int 0] [] (qy_rate hl0 hJ.I hp9 hq9 (arG_45 c_254)) (xw_at tW_4 38 rfl) (0, 0) cX_X rfl rfl rfl rfl (by rfl) (Nat.le_of_ble_eq_true rfl) (xdec_at tL_posts_3 28 rfl) ⟨(Nat.le_of_ble_eq_true rfl), (Nat.le_of_ble_eq_true rfl)⟩ ⟨(Nat.le_of_ble_eq_true rfl), (Nat.le_of_ble_eq_true rfl)⟩ ?_
              rintro v9 lay9 C9 ⟨rfl, rfl, rfl⟩
              refine v_iload X (xdec_at tL_posts_3 29 rfl) rfl ?_
              refine v_iconst (v := 2) X (xdec_at tL_posts_3 30 rfl) (by decide) ?_
              refine v_iload X (xdec_at tL_posts_3 31 rfl) rfl ?_
              refine v_imul X (xdec_at tL_posts_3 32 rfl) ?_
              refine v_iadd X (xdec_at tL_posts_3 33 rfl) ?_
              refine v_icmp_ne (tgt := 282) X (xdec_at tL_posts_3 34 rfl) (by decide) (fun h9 => absurd (rt45 hL.I hu1 hq9) h9) (fun _ => ?_)
              refine v_iconst (v := 1) X (xdec_at tL_posts_3 35 rfl) (by decide) ?_
              refine v_goto (tgt := 283) X (xdec_at tL_posts_3 36 rfl) (by decide) ?_
              exact v_xr (v_zret X hr (xdec_at tL_posts_3 38 rfl) (Nat.le_of_ble_eq_true rfl) (Nat.le_of_ble_eq_true rfl) (by rfl) ⟨rfl, y_l23, (up2 (up2 μ.1 1 (3 * u1 + ix (nI u3)) (nI u18)) 2 (3 * u1 + ix (nI u3)) (nI u20), μ.2), tb, (by rw [dv_e (μ := μ) (ν := (up2 (up2 μ.1 1 (3 * u1 + ix (nI u3)) (nI u18)) 2 (3 * u1 + ix (nI u3)) (nI u20), μ.2)) rfl rfl rfl] <;> rfl), hJ.up, hg, Nat.le_refl _⟩)
          · refine v_iconst (v := 0) X (xdec_at tL_posts_2 19 rfl) (by decide) ?_
            refine v_goto (tgt := 186) X (xdec_at tL_posts_2 20 rfl) (by decide) ?_
            refine v_istore (lv' := [some (.ref (lay (0, 0))), some (.ref (lay (500, 0))), some (.ref (lay (300, 0))), some (.int x), some (.int z), some (.int (nI u0)), some (.int (nI u1)), some (.int (nI u3)), some (.int 0), none, none, none]) X (xdec_at tL_posts_2 26 rfl) (by decide) rfl ?_
            refine v_iload X (xdec_at tL_posts_2 27 rfl) rfl ?_
            refine v_bipush (v := 10) X (xdec_at tL_posts_2 28 rfl) (by decide) ?_
            refine v_ishr X (xdec_at tL_posts_2 29 rfl) fun u21 => ?_
            refine v_bipush (v := 90) X (xdec_at tL_posts_2 30 rfl) (by decide) ?_
            refine v_wL X hE myL_some [.int u21, .int (nI 90)] [] (c_some u21 (n := 90) (by decide) (by decide)) (xw_at tW_2 29 rfl) rfl rfl (by rfl) (Nat.le_of_ble_eq_true rfl) (xdec_at tL_posts_2 31 rfl) ⟨(Nat.le_of_ble_eq_true rfl), (Nat.le_of_ble_eq_true rfl)⟩ ⟨(Nat.le_of_ble_eq_true rfl), (Nat.le_of_ble_eq_true rfl)⟩ ?_
            rintro v9 lay9 C9 ⟨rfl, rfl, u22, hu22, rfl⟩
            refine v_istore (lv' := [some (.ref (lay (0, 0))), some (.ref (lay (500, 0))), some (.ref (lay (300, 0))), some (.int x), some (.int z), some (.int (nI u0)), some (.int (nI u1)), some (.int (nI u3)), some (.int 0), some (.int (nI u22)), none, none]) X (xdec_at tL_posts_2 32 rfl) (by decide) rfl ?_
            refine v_aload_n X (xdec_at tL_posts_2 33 rfl) rfl rfl ?_
            refine v_aload_n X (xdec_at tL_posts_2 34 rfl) rfl rfl ?_
            refine v_iconst (v := 1) X (xdec_at tL_posts_2 35 rfl) (by decide) ?_
            refine v_iload X (xdec_at tL_posts_2 36 rfl) rfl ?_
            refine v_iload X (xdec_at tL_posts_2 37 rfl) rfl ?_
            refine v_iload X (xdec_at tL_posts_2 38 rfl) rfl ?_
            refine v_iload X (xdec_at tL_posts_2 39 rfl) rfl ?_
            have hq9 := isK_n hu3
            obtain ⟨eM, hJ⟩ := cm_rates (f := 0) (g := (nI u22)) hL hu1 hq9 (by decide) (inR_n (a := 0) (b := 10000) (Nat.zero_le _) (by have := hu22; omega) (by decide))
            have hp9 : u1 < nP (up2 (up2 μ.1 1 (3 * u1 + ix (nI u3)) 0) 2 (3 * u1 + ix (nI u3)) (nI u22), μ.2) := hu1
            refine v_wL X hE myL_both [.ref (lay (0, 0)), .ref (lay (500, 0)), .int 1, .int (nI u1), .int (nI u3), .int 0, .int (nI u22)] [] (both_of rfl (ckS_rates hl0 hL eM hJ.z)) (xw_at tW_6 11 rfl) rfl rfl (by rfl) (Nat.le_of_ble_eq_true rfl) (xdec_at tL_posts_3 0 rfl) ⟨(Nat.le_of_ble_eq_true rfl), (Nat.le_of_ble_eq_true rfl)⟩ ⟨(Nat.le_of_ble_eq_true rfl), (Nat.le_of_ble_eq_true rfl)⟩ ?_
            rintro v9 l24 C9 ⟨rfl, y_l24, rfl⟩
            rw [← y_l24.1, ← y_l24.2.1, ← y_l24.2.2 (300, 0) (by decide) (by decide)]
            refine v_if_ne (tgt := 282) X (xdec_at tL_posts_3 1 rfl) (by decide) (fun h9 => absurd h9 (by decide)) (fun _ => ?_)
            refine v_aload_n X (xdec_at tL_posts_3 2 rfl) rfl rfl ?_
            refine v_iload X (xdec_at tL_posts_3 3 rfl) rfl ?_
            refine v_iload X (xdec_at tL_posts_3 4 rfl) rfl ?_
            refine v_iconst (v := 1) X (xdec_at tL_posts_3 5 rfl) (by decide) ?_
            refine v_iconst (v := 0) X (xdec_at tL_posts_3 6 rfl) (by decide) ?_
            refine v_wN X hE myX4_rate [.int (nI u3), .int (nI u1), .int 1, .int 0] [] (qy_rate hl0 hJ.I hp9 hq9 (arG_1 _)) (xw_at tW_4 38 rfl) (0, 0) cX_X rfl rfl rfl rfl (by rfl) (Nat.le_of_ble_eq_true rfl) (xdec_at tL_posts_3 7 rfl) ⟨(Nat.le_of_ble_eq_true rfl), (Nat.le_of_ble_eq_true rfl)⟩ ⟨(Nat.le_of_ble_eq_true rfl), (Nat.le_of_ble_eq_true rfl)⟩ ?_
            rintro v9 lay9 C9 ⟨rfl, rfl, rfl⟩
            refine v_iload X (xdec_at tL_posts_3 8 rfl) rfl ?_
            refine v_icmp_ne (tgt := 282) X (xdec_at tL_posts_3 9 rfl) (by decide) (fun h9 => absurd (rt1 hL.I hu1 hq9) h9) (fun _ => ?_)
            refine v_aload_n X (xdec_at tL_posts_3 10 rfl) rfl rfl ?_
            refine v_iload X (xdec_at tL_posts_3 11 rfl) rfl ?_
            refine v_iload X (xdec_at tL_posts_3 12 rfl) rfl ?_
            refine v_bipush (v := 20) X (xdec_at tL_posts_3 13 rfl) (by decide) ?_
            refine v_iconst (v := 1) X (xdec_at tL_posts_3 14 rfl) (by decide) ?_
            refine v_wN X hE myX4_rate [.int (nI u3), .int (nI u1), .int 20, .int 1] [] (qy_rate hl0 hJ.I hp9 hq9 (arG_20 _)) (xw_at tW_4 38 rfl) (0, 0) cX_X rfl rfl rfl rfl (by rfl) (Nat.le_of_ble_eq_true rfl) (xdec_at tL_posts_3 15 rfl) ⟨(Nat.le_of_ble_eq_true rfl), (Nat.le_of_ble_eq_true rfl)⟩ ⟨(Nat.le_of_ble_eq_true rfl), (Nat.le_of_ble_eq_true rfl)⟩ ?_
            rintro v9 lay9 C9 ⟨rfl, rfl, rfl⟩
            refine v_iload X (xdec_at tL_posts_3 16 rfl) rfl ?_
            refine v_bipush (v := 50) X (xdec_at tL_posts_3 17 rfl) (by decide) ?_
            refine v_iadd X (xdec_at tL_posts_3 18 rfl) ?_
            refine v_icmp_ne (tgt := 282) X (xdec_at tL_posts_3 19 rfl) (by decide) (fun h9 => absurd (rt20 hL.I hu1 hq9) h9) (fun _ => ?_)
            refine v_iload X (xdec_at tL_posts_3 20 rfl) rfl ?_
            refine v_iconst (v := 1) X (xdec_at tL_posts_3 21 rfl) (by decide) ?_
            refine v_icmp_eq (tgt := 278) X (xdec_at tL_posts_3 22 rfl) (by decide) (fun c_254 => ?_) (fun c_254 => ?_)
            · refine v_iconst (v := 1) X (xdec_at tL_posts_3 35 rfl) (by decide) ?_
              refine v_goto (tgt := 283) X (xdec_at tL_posts_3 36 rfl) (by decide) ?_
              exact v_xr (v_zret X hr (xdec_at tL_posts_3 38 rfl) (Nat.le_of_ble_eq_true rfl) (Nat.le_of_ble_eq_true rfl) (by rfl) ⟨rfl, y_l24, (up2 (up2 μ.1 1 (3 * u1 + ix (nI u3)) 0) 2 (3 * u1 + ix (nI u3)) (nI u22), μ.2), tb, (by rw [dv_e (μ := μ) (ν := (up2 (up2 μ.1 1 (3 * u1 + ix (nI u3)) 0) 2 (3 * u1 + ix (nI u3)) (nI u22), μ.2)) rfl rfl rfl] <;> rfl), hJ.up, hg, Nat.le_refl _⟩)
            · refine v_aload_n X (xdec_at tL_posts_3 23 rfl) rfl rfl ?_
              refine v_iload X (xdec_at tL_posts_3 24 rfl) rfl ?_
              refine v_iload X (xdec_at tL_posts_3 25 rfl) rfl ?_
              refine v_bipush (v := 45) X (xdec_at tL_posts_3 26 rfl) (by decide) ?_
              refine v_iconst (v := 0) X (xdec_at tL_posts_3 27 rfl) (by decide) ?_
              refine v_wN X hE myX4_rate [.int (nI u3), .int (nI u1), .int 45, .int 0] [] (qy_rate hl0 hJ.I hp9 hq9 (arG_45 c_254)) (xw_at tW_4 38 rfl) (0, 0) cX_X rfl rfl rfl rfl (by rfl) (Nat.le_of_ble_eq_true rfl) (xdec_at tL_posts_3 28 rfl) ⟨(Nat.le_of_ble_eq_true rfl), (Nat.le_of_ble_eq_true rfl)⟩ ⟨(Nat.le_of_ble_eq_true rfl), (Nat.le_of_ble_eq_true rfl)⟩ ?_
              rintro v9 lay9 C9 ⟨rfl, rfl, rfl⟩
              refine v_iload X (xdec_at tL_posts_3 29 rfl) rfl ?_
              refine v_iconst (v := 2) X (xdec_at tL_posts_3 30 rfl) (by decide) ?_
              refine v_iload X (xdec_at tL_posts_3 31 rfl) rfl ?_
              refine v_imul X (xdec_at tL_posts_3 32 rfl) ?_
              refine v_iadd X (xdec_at tL_posts_3 33 rfl) ?_
              refine v_icmp_ne (tgt := 282) X (xdec_at tL_posts_3 34 rfl) (by decide) (fun h9 => absurd (rt45 hL.I hu1 hq9) h9) (fun _ => ?_)
              refine v_iconst (v := 1) X (xdec_at tL_posts_3 35 rfl) (by decide) ?_
              refine v_goto (tgt := 283) X (xdec_at tL_posts_3 36 rfl) (by decide) ?_
              exact v_xr (v_zret X hr (xdec_at tL_posts_3 38 rfl) (Nat.le_of_ble_eq_true rfl) (Nat.le_of_ble_eq_true rfl) (by rfl) ⟨rfl, y_l24, (up2 (up2 μ.1 1 (3 * u1 + ix (nI u3)) 0) 2 (3 * u1 + ix (nI u3)) (nI u22), μ.2), tb, (by rw [dv_e (μ := μ) (ν := (up2 (up2 μ.1 1 (3 * u1 + ix (nI u3)) 0) 2 (3 * u1 + ix (nI u3)) (nI u22), μ.2)) rfl rfl rfl] <;> rfl), hJ.up, hg, Nat.le_refl _⟩)
      · exact J21
