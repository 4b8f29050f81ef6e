set_option maxRecDepth 100000 in
set_option maxHeartbeats 4000000 in
theorem kyX4_post (l : Launch) (hl0 : l.stackTraces = false) (Z : xZ) (B0 : Nat) (lay : xK → Nat) (μ : Mu) (tb : Tb) (r : xK → Option xE) (hI : RI μ) (hK : KI μ) : YX l yX4_post cX4_post 1 (some FieldType.int) 6 90 5 27 Z B0 [.ref (lay (0, 0))] lay (cX Z lay μ tb r) (fun v lay' C' => lyC Z lay lay' μ tb r ∧ lyB lay lay' ∧ v = some (.int (M_post μ).1) ∧ (M_post μ).2.1 38 0 = 0 ∧ C' = cX Z lay' (M_post μ).2 tb r) (fun E => (E = eS ∧ (M_post μ).2.1 38 0 = 1)) := by
  obtain ⟨P, hP, eP⟩ := hI.1
  have hnP := nP_of hP eP
  refine YX_of myX4_post.2.2 RX4 rfl [some (.ref (lay (0, 0)))] rfl (Nat.le_of_ble_eq_true rfl) ?_
  intro P1 P2 P3 P4 P5 P6 P7 P8 X hr hE
  refine v_aload_n X (xdec_at tX4_post_0 0 rfl) rfl rfl ?_
  refine x_get (v := .int (μ.1 0 0)) X hinX4 (0, 0) cX_X rfl 3 (by decide) (xw_at tW_2 16 rfl) rfl rfl rfl (xdec_at tX4_post_0 1 rfl) ?_
  refine v_bipush (v := 8) X (xdec_at tX4_post_0 2 rfl) (by decide) ?_
  refine v_icmp_lt (tgt := 19) X (xdec_at tX4_post_0 3 rfl) (by decide) (fun c_6 => ?_) (fun c_6 => ?_)
  · refine v_aload_n X (xdec_at tX4_post_0 9 rfl) rfl rfl ?_
    refine x_get (v := .ref (lay (1, 0))) X hinX4 (0, 0) cX_X rfl 0 (by decide) (xw_at tW_2 13 rfl) rfl rfl rfl (xdec_at tX4_post_0 10 rfl) ?_
    refine v_aload_n X (xdec_at tX4_post_0 11 rfl) rfl rfl ?_
    refine x_get (v := .int (μ.1 0 0)) X hinX4 (0, 0) cX_X rfl 3 (by decide) (xw_at tW_2 16 rfl) rfl rfl rfl (xdec_at tX4_post_0 12 rfl) ?_
    have hP8 : P < 8 := by rw [eP, n8] at c_6; exact (nI_ltI (by omega) (by decide)).mp c_6
    have n10 : cX Z lay μ tb r (10, P) = none := by rw [cXk_10, if_neg (by omega)]
    have n11 : cX Z lay μ tb r (11, P) = none := by rw [cXk_11, if_neg (by omega)]
    have n12 : cX Z lay μ tb r (12, P) = none := by rw [cXk_12, if_neg (by omega)]
    have n13 : cX Z lay μ tb r (13, P) = none := by rw [cXk_13, if_neg (by omega)]
    have n14 : cX Z lay μ tb r (14, P) = none := by rw [cXk_14, if_neg (by omega)]
    have m11 : xup (cX Z lay μ tb r) (10, P) (.inr (1, fP0 0 .null .null .null .null)) (11, P) = none := (xup_ne _ _ (by simp)).trans n11
    have m12 : xup (cX Z lay μ tb r) (10, P) (.inr (1, fP0 0 .null .null .null .null)) (12, P) = none := (xup_ne _ _ (by simp)).trans n12
    have m13 : xup (cX Z lay μ tb r) (10, P) (.inr (1, fP0 0 .null .null .null .null)) (13, P) = none := (xup_ne _ _ (by simp)).trans n13
    have m14 : xup (cX Z lay μ tb r) (10, P) (.inr (1, fP0 0 .null .null .null .null)) (14, P) = none := (xup_ne _ _ (by simp)).trans n14
    refine x_newc X hinX1 tyX1 tyX1_ok (xw_at tW_0 38 rfl) (xw_at tW_6 37 rfl) (xw_at tW_0 27 rfl) (ci := 1) rfl (10, P) n10 (f := fP0 0 .null .null .null .null) (fun j hj => match j, hj with | 0, _ => rfl | 1, _ => rfl | 2, _ => rfl | 3, _ => rfl | 4, _ => rfl | 5, _ => rfl | 6, _ => rfl | 7, _ => rfl | 8, _ => rfl | 9, _ => rfl | j + 10, h => absurd h (by omega)) ⟨(Nat.le_of_ble_eq_true rfl), (Nat.le_of_ble_eq_true rfl)⟩ (xdec_at tX4_post_0 13 rfl) fun a ha => ?_
    refine v_dup X (xdec_at tX4_post_0 14 rfl) rfl ?_
    refine v_aload_n X (xdec_at tX4_post_0 15 rfl) rfl rfl ?_
    refine x_get (v := .int (μ.1 0 0)) X hinX4 (0, 0) ((xup_ne _ _ (by simp)).trans cX_X) rfl 3 (by decide) (xw_at tW_2 16 rfl) rfl (by simp [xlay]) rfl (xdec_at tX4_post_0 16 rfl) ?_
    refine v_st (st' := [.int (μ.1 0 0), .ref (xlay lay (10, P) a (10, P)), .ref (xlay lay (10, P) a (10, P)), .int (μ.1 0 0), .ref (lay (1, 0))]) (by rw [xlay_at]) ?_
    refine v_callI X myX1_init [.int (μ.1 0 0)] [.ref (xlay lay (10, P) a (10, P)), .int (μ.1 0 0), .ref (lay (1, 0))] (kyX1_init l Z B0 (xlay lay (10, P) a) (cX Z lay μ tb r) P (μ.1 0 0) n11 n12 n13 n14) (xw_at tW_6 38 rfl) rfl rfl (Nat.le_of_ble_eq_true rfl) (xdec_at tX4_post_0 17 rfl) ⟨(Nat.le_of_ble_eq_true rfl), (Nat.le_of_ble_eq_true rfl)⟩ ⟨(Nat.le_of_ble_eq_true rfl), (Nat.le_of_ble_eq_true rfl)⟩ ?_
    rintro v9 lay9 C9 ⟨rfl, a1, a2, a3, a4, rfl, rfl⟩
    obtain ⟨ly, hly⟩ : ∃ z, z = xlay (xlay (xlay (xlay (xlay lay (10, P) a) (11, P) a1) (12, P) a2) (13, P) a3) (14, P) a4 := ⟨_, rfl⟩
    rw [← hly]
    have h10 : ly (10, P) = a := by rw [hly]; simp [xlay]
    have h11 : ly (11, P) = a1 := by rw [hly]; simp [xlay]
    have h12 : ly (12, P) = a2 := by rw [hly]; simp [xlay]
    have h13 : ly (13, P) = a3 := by rw [hly]; simp [xlay]
    have h14 : ly (14, P) = a4 := by rw [hly]; simp [xlay]
    have hl : lyC Z lay ly μ tb r := fun k hk => by
      have z10 : k ≠ (10, P) := fun z => hk (by rw [z]; exact n10)
      have z11 : k ≠ (11, P) := fun z => hk (by rw [z]; exact n11)
      have z12 : k ≠ (12, P) := fun z => hk (by rw [z]; exact n12)
      have z13 : k ≠ (13, P) := fun z => hk (by rw [z]; exact n13)
      have z14 : k ≠ (14, P) := fun z => hk (by rw [z]; exact n14)
      rw [hly, xlay_ne _ _ z14, xlay_ne _ _ z13, xlay_ne _ _ z12, xlay_ne _ _ z11, xlay_ne _ _ z10]
    refine v_st (st' := [.ref a, .int (μ.1 0 0), .ref (lay (1, 0))]) (by rw [xlay_at]; rfl) ?_
    refine x_aast3 (C' := (xup (xup (xup (xup (xup (xup (cX Z lay μ tb r) (11, P) (aI Z 3 (fun _ => 0))) (12, P) (aI Z 3 (fun _ => 0))) (13, P) (aI Z 3 (fun _ => 0))) (14, P) (aL Z 8 (fun _ => 0))) (10, P) (.inr (1, fP0 (μ.1 0 0) (.ref a1) (.ref a2) (.ref a3) (.ref a4)))) (1, 0) (.inl (Z.2 3, 8, .inr (.inr (.inr (.inr (va_up (fun i => if i < nP μ then some (lay (10, i)) else none) (ix (μ.1 0 0)) (some a))))))))) X (1, 0) (10, P) (by rw [xup_ne _ _ (by simp), xup_ne _ _ (by simp), xup_ne _ _ (by simp), xup_ne _ _ (by simp), xup_ne _ _ (by simp), cX_ps]; rfl) (xup_at _ _ _) (by rw [eP]; exact vp_in_nI hP8 (by decide)) (hl (1, 0) (by rw [cX_ps]; exact fun z => by cases z)) h10 (fun _ => rfl) (xdec_at tX4_post_0 18 rfl) ?_
    have h00 : ly (0, 0) = lay (0, 0) := hl (0, 0) (by rw [cX_X]; exact fun z => by cases z)
    refine v_aload_n X (xdec_at tX4_post_0 19 rfl) rfl rfl ?_
    refine v_dup X (xdec_at tX4_post_0 20 rfl) rfl ?_
    refine x_get (v := .int (μ.1 0 0)) X hinX4 (0, 0) (by rw [xup_ne _ _ (by simp), xup_ne _ _ (by simp), xup_ne _ _ (by simp), xup_ne _ _ (by simp), xup_ne _ _ (by simp), xup_ne _ _ (by simp), cX_X]) rfl 3 (by decide) (xw_at tW_2 16 rfl) rfl h00 rfl (xdec_at tX4_post_0 21 rfl) ?_
    refine v_iconst (v := 1) X (xdec_at tX4_post_0 22 rfl) (by decide) ?_
    refine v_iadd X (xdec_at tX4_post_0 23 rfl) ?_
    refine x_put (C' := xup (xup (xup (xup (xup (xup (xup (cX Z lay μ tb r) (11, P) (aI Z 3 (fun _ => 0))) (12, P) (aI Z 3 (fun _ => 0))) (13, P) (aI Z 3 (fun _ => 0))) (14, P) (aL Z 8 (fun _ => 0))) (10, P) (.inr (1, fP0 (μ.1 0 0) (.ref a1) (.ref a2) (.ref a3) (.ref a4)))) (1, 0) (.inl (Z.2 3, 8, .inr (.inr (.inr (.inr (va_up (fun i => if i < nP μ then some (lay (10, i)) else none) (ix (μ.1 0 0)) (some a)))))))) (0, 0) (.inr (4, updV (fX lay μ) 3 (.int (μ.1 0 0 + 1))))) X hinX4 tyX4 tyX4_ok nmX4 (0, 0) (by rw [xup_ne _ _ (by simp), xup_ne _ _ (by simp), xup_ne _ _ (by simp), xup_ne _ _ (by simp), xup_ne _ _ (by simp), xup_ne _ _ (by simp), cX_X]) rfl 3 (by decide) (xw_at tW_2 16 rfl) rfl rfl rfl rfl h00 (fun _ => rfl) (xdec_at tX4_post_0 24 rfl) ?_
    refine v_c (C' := cX Z ly (up2 (up2 μ.1 38 0 0) 0 0 (μ.1 0 0 + 1), μ.2) tb r) (post_world hI hK hP8 eP hl h10 h11 h12 h13 h14) ?_
    refine v_le (lv' := [some (.ref (ly (0, 0)))]) (by simp [xle, h00]) ?_
    refine v_aload_n X (xdec_at tX4_post_0 25 rfl) rfl rfl ?_
    refine x_get (v := .int (μ.1 0 0 + 1)) X hinX4 (0, 0) cX_X rfl 3 (by decide) (xw_at tW_2 16 rfl) rfl rfl (by simp [fX, up2_at]) (xdec_at tX4_post_0 26 rfl) ?_
    refine v_iconst (v := 1) X (xdec_at tX4_post_0 27 rfl) (by decide) ?_
    refine v_isub X (xdec_at tX4_post_0 28 rfl) ?_
    have e9 : M_post μ = (μ.1 0 0 + 1 - 1, (up2 (up2 μ.1 38 0 0) 0 0 (μ.1 0 0 + 1), μ.2)) := by unfold M_post; rw [if_neg (Int32.not_le.mpr c_6)]
    have hlB : lyB lay ly := fun k hk => by
      have z10 : k ≠ (10, P) := k40 hk (by decide)
      have z11 : k ≠ (11, P) := k40 hk (by decide)
      have z12 : k ≠ (12, P) := k40 hk (by decide)
      have z13 : k ≠ (13, P) := k40 hk (by decide)
      have z14 : k ≠ (14, P) := k40 hk (by decide)
      rw [hly, xlay_ne _ _ z14, xlay_ne _ _ z13, xlay_ne _ _ z12, xlay_ne _ _ z11, xlay_ne _ _ z10]
    exact v_x (v_iret X hr (xdec_at tX4_post_0 29 rfl) (Nat.le_of_ble_eq_true rfl) (Nat.le_of_ble_eq_true rfl) ⟨hl, hlB, by rw [e9], by rw [e9]; simp [up2_at], by rw [e9]⟩)
  · exact v_throw X hE hl0 (text := "there are 8 posts") xinS xkS xiS (List.mem_of_getElem? (i := 0) rfl) xfS (xdec_at tX4_post_0 4 rfl) (xdec_at tX4_post_0 5 rfl) (xdec_at tX4_post_0 6 rfl) (xdec_at tX4_post_0 7 rfl) (xdec_at tX4_post_0 8 rfl) ⟨(Nat.le_of_ble_eq_true rfl), (Nat.le_of_ble_eq_true rfl), (Nat.le_of_ble_eq_true rfl), (Nat.le_of_ble_eq_true rfl)⟩ ⟨(Nat.le_of_ble_eq_true rfl), (Nat.le_of_ble_eq_true rfl)⟩ ⟨rfl, by simp [M_post, Int32.not_lt.mp c_6, up2_at]⟩
theorem RI_leg {μ : Mu} {G : Nat} {p q d : Int32} (hI : RI μ) (hG : G < 20) (eG : μ.1 10 0 = nI G) (hp : vp_in p 8) (hq : vp_in q 8) : RI (up2 (up2 (up2 (up2 μ.1 11 G p) 12 G q) 13 G d) 10 0 (μ.1 10 0 + 1), μ.2) := by
  rw [eG, nI_1]
  exact RI_up (RI_F (RI_up (RI_up (A := μ.1) (J := μ.2) hI (ok8 (by omega) hp)) (ok8 (by omega) hq)) (j := 13) rfl _ _) (okC (M := 20) (Or.inr (Or.inl ⟨rfl, rfl⟩)) (by omega))
theorem KL_leg {μ : Mu} {G : Nat} {p q d : Int32} (hL : KL μ) (hG : G < 20) (eG : μ.1 10 0 = nI G) (hp : ix p < nP μ) (hq : ix q < nP μ) (hd : inR d 1 100) : KL (up2 (up2 (up2 (up2 μ.1 11 G p) 12 G q) 13 G d) 10 0 (μ.1 10 0 + 1), μ.2) := by
  intro g hg
  have hnG := nG_of (by omega) eG
  have hnG' : nG (up2 (up2 (up2 (up2 μ.1 11 G p) 12 G q) 13 G d) 10 0 (μ.1 10 0 + 1), μ.2) = G + 1 := by show ix (μ.1 10 0 + 1) = G + 1; rw [eG, nI_1, ix_nI (by omega)]
  rw [hnG'] at hg
  show ix (up2 (up2 (up2 (up2 μ.1 11 G p) 12 G q) 13 G d) 10 0 (μ.1 10 0 + 1) 11 g) < nP μ ∧ ix (up2 (up2 (up2 (up2 μ.1 11 G p) 12 G q) 13 G d) 10 0 (μ.1 10 0 + 1) 12 g) < nP μ ∧ inR (up2 (up2 (up2 (up2 μ.1 11 G p) 12 G q) 13 G d) 10 0 (μ.1 10 0 + 1) 13 g) 1 100
  by_cases h : g = G
  · subst h
    simp only [up2_at]
    exact ⟨hp, hq, hd⟩
  · have := hL g (by omega)
    simp only [up2_at, h, and_false, if_false]
    exact this
set_option maxRecDepth 100000 in
set_option maxHeartbeats 4000000 in
theorem kyX2_addLeg (l : Launch) (Z : xZ) (B0 : Nat) (lay : xK → Nat) (μ : Mu) (tb : Tb) (r : xK → Option xE) (hI : RI μ) (hK : KI μ) (p q d : Int32) (hp : ix p < nP μ) (hq : ix q < nP μ) (hp8 : vp_in p 8) (hq8 : vp_in q 8) (hd : inR d 1 100) (G : Nat) (hG : G ≤ 20) (eG : μ.1 10 0 = nI G) : YM l yX2_addLeg cX2_addLeg 4 (some FieldType.int) 4 110 1 4 Z B0 [.ref (lay (3, 0)), .ref (lay (10, ix p)), .ref (lay (10, ix q)), .int d] lay (cX Z lay μ tb r) (fun v lay' C' => (¬ G < 20 ∧ lay = lay' ∧ v = some (.int (-1)) ∧ C' = cX Z lay μ tb r) ∨ (G < 20 ∧ (lyC Z lay lay' μ tb r ∧ lyB lay lay') ∧ v = some (.int (μ.1 10 0 + 1 - 1)) ∧ C' = cX Z lay' (up2 (up2 (up2 (up2 μ.1 11 G p) 12 G q) 13 G d) 10 0 (μ.1 10 0 + 1), μ.2) (K_reckon (up2 (up2 (up2 (up2 μ.1 11 G p) 12 G q) 13 G d) 10 0 (μ.1 10 0 + 1), μ.2) tb.1, tb.2) r)) := by
  have hnG := nG_of hG eG
  refine YM_of myX2_addLeg.2.2 RX2 rfl [some (.ref (lay (3, 0))), some (.ref (lay (10, ix p))), some (.ref (lay (10, ix q))), some (.int d)] rfl (Nat.le_of_ble_eq_true rfl) ?_
  intro P1 P2 P3 P4 P5 P6 P7 P8 X hr hnm
  refine v_aload_n X (xdec_at tX2_addLeg_0 0 rfl) rfl rfl ?_
  refine x_get (v := .int (μ.1 10 0)) X hinX2 (3, 0) cX_R rfl 4 (by decide) (xw_at tW_2 6 rfl) rfl rfl rfl (xdec_at tX2_addLeg_0 1 rfl) ?_
  refine v_bipush (v := 20) X (xdec_at tX2_addLeg_0 2 rfl) (by decide) ?_
  refine v_icmp_lt (tgt := 11) X (xdec_at tX2_addLeg_0 3 rfl) (by decide) (fun c_6 => ?_) (fun c_6 => ?_)
  · refine v_aload_n X (xdec_at tX2_addLeg_0 6 rfl) rfl rfl ?_
    refine x_get (v := .ref (lay (4, 0))) X hinX2 (3, 0) cX_R rfl 0 (by decide) (xw_at tW_2 2 rfl) rfl rfl rfl (xdec_at tX2_addLeg_0 7 rfl) ?_
    refine v_aload_n X (xdec_at tX2_addLeg_0 8 rfl) rfl rfl ?_
    refine x_get (v := .int (μ.1 10 0)) X hinX2 (3, 0) cX_R rfl 4 (by decide) (xw_at tW_2 6 rfl) rfl rfl rfl (xdec_at tX2_addLeg_0 9 rfl) ?_
    have hG20 : G < 20 := by rw [eG, show (20 : Int32) = nI 20 by decide] at c_6; exact (nI_ltI (by omega) (by decide)).mp c_6
    have n20 : cX Z lay μ tb r (20, G) = none := by rw [cXk_20, if_neg (by omega)]
    refine x_newc X hinX0 tyX0 tyX0_ok (xw_at tW_1 6 rfl) (xw_at tW_8 25 rfl) (xw_at tW_0 28 rfl) (ci := 0) rfl (20, G) n20 (f := fG0 .null .null 0) (fun j hj => match j, hj with | 0, _ => rfl | 1, _ => rfl | 2, _ => rfl | 3, _ => rfl | j + 4, h => absurd h (by omega)) ⟨(Nat.le_of_ble_eq_true rfl), (Nat.le_of_ble_eq_true rfl)⟩ (xdec_at tX2_addLeg_0 10 rfl) fun a ha => ?_
    obtain ⟨ly, hly⟩ : ∃ z, z = xlay lay (20, G) a := ⟨_, rfl⟩
    rw [← hly]
    have h20 : ly (20, G) = a := by rw [hly]; exact xlay_at _ _ _
    have hl : lyC Z lay ly μ tb r := fun k hk => by rw [hly]; exact xlay_ne _ _ (fun z => hk (by rw [z]; exact n20))
    have hlB : lyB lay ly := fun k hk => by rw [hly]; exact xlay_ne _ _ (k40 hk (by decide))
    refine v_dup X (xdec_at tX2_addLeg_0 11 rfl) rfl ?_
    refine v_aload_n X (xdec_at tX2_addLeg_0 12 rfl) rfl rfl ?_
    refine v_aload_n X (xdec_at tX2_addLeg_0 13 rfl) rfl rfl ?_
    refine v_iload_n X (xdec_at tX2_addLeg_0 14 rfl) rfl rfl ?_
    refine v_st (st' := [.int d, .ref (lay (10, ix q)), .ref (lay (10, ix p)), .ref (ly (20, G)), .ref (ly (20, G)), .int (μ.1 10 0), .ref (lay (4, 0))]) (by rw [h20]) ?_
    refine v_callI X myX0_init [.ref (lay (10, ix p)), .ref (lay (10, ix q)), .int d] [.ref (ly (20, G)), .int (μ.1 10 0), .ref (lay (4, 0))] (kyX0_init l Z B0 ly (cX Z lay μ tb r) G (lay (10, ix p)) (lay (10, ix q)) d) (xw_at tW_8 26 rfl) rfl rfl (Nat.le_of_ble_eq_true rfl) (xdec_at tX2_addLeg_0 15 rfl) ⟨(Nat.le_of_ble_eq_true rfl), (Nat.le_of_ble_eq_true rfl)⟩ ⟨(Nat.le_of_ble_eq_true rfl), (Nat.le_of_ble_eq_true rfl)⟩ ?_
    rintro v9 lay9 C9 ⟨rfl, hlq, rfl⟩
    have hlq2 := hlq.symm
    subst hlq2
    refine v_st (st' := [.ref a, .int (μ.1 10 0), .ref (lay (4, 0))]) (by rw [h20]; rfl) ?_
    refine x_aast5 (C' := (xup (xup (cX Z lay μ tb r) (20, G) (.inr (0, fG0 (.ref (lay (10, ix p))) (.ref (lay (10, ix q))) d))) (4, 0) (.inl (Z.2 5, 20, .inr (.inr (.inr (.inr (va_up (fun i => if i < nG μ then some (lay (20, i)) else none) (ix (μ.1 10 0)) (some a))))))))) X (4, 0) (20, G) (by rw [xup_ne _ _ (by simp), cX_gs]; rfl) (xup_at _ _ _) (by rw [eG]; exact vp_in_nI hG20 (by decide)) (hl (4, 0) (by rw [cX_gs]; exact fun z => by cases z)) h20 (fun _ => rfl) (xdec_at tX2_addLeg_0 16 rfl) ?_
    have h30 : ly (3, 0) = lay (3, 0) := hl (3, 0) (by rw [cX_R]; exact fun z => by cases z)
    refine v_aload_n X (xdec_at tX2_addLeg_0 17 rfl) rfl rfl ?_
    refine v_dup X (xdec_at tX2_addLeg_0 18 rfl) rfl ?_
    refine x_get (v := .int (μ.1 10 0)) X hinX2 (3, 0) (by rw [xup_ne _ _ (by simp), xup_ne _ _ (by simp), cX_R]) rfl 4 (by decide) (xw_at tW_2 6 rfl) rfl h30 rfl (xdec_at tX2_addLeg_0 19 rfl) ?_
    refine v_iconst (v := 1) X (xdec_at tX2_addLeg_0 20 rfl) (by decide) ?_
    refine v_iadd X (xdec_at tX2_addLeg_0 21 rfl) ?_
    refine x_put (C' := xup (xup (xup (cX Z lay μ tb r) (20, G) (.inr (0, fG0 (.ref (lay (10, ix p))) (.ref (lay (10, ix q))) d))) (4, 0) (.inl (Z.2 5, 20, .inr (.inr (.inr (.inr (va_up (fun i => if i < nG μ then some (lay (20, i)) else none) (ix (μ.1 10 0)) (some a)))))))) (3, 0) (.inr (2, updV (fR lay μ) 4 (.int (μ.1 10 0 + 1))))) X hinX2 tyX2 tyX2_ok nmX2 (3, 0) (by rw [xup_ne _ _ (by simp), xup_ne _ _ (by simp), cX_R]) rfl 4 (by decide) (xw_at tW_2 6 rfl) rfl rfl rfl rfl h30 (fun _ => rfl) (xdec_at tX2_addLeg_0 22 rfl) ?_
    refine v_c (C' := cX Z ly (up2 (up2 (up2 (up2 μ.1 11 G p) 12 G q) 13 G d) 10 0 (μ.1 10 0 + 1), μ.2) tb r) (leg_world hI hK hG20 eG hl hp hq h20) ?_
    refine v_le (lv' := [some (.ref (ly (3, 0))), none, none, none]) (by simp [xle, h30]) ?_
    refine v_aload_n X (xdec_at tX2_addLeg_0 23 rfl) rfl rfl ?_
    refine v_callV X myX2_reckon [] [] (kyX2_reckon l Z B0 ly (up2 (up2 (up2 (up2 μ.1 11 G p) 12 G q) 13 G d) 10 0 (μ.1 10 0 + 1), μ.2) tb r (RI_leg hI hG20 eG hp8 hq8) (KL_leg hK.1 hG20 eG hp hq hd)) (xw_at tW_1 7 rfl) (3, 0) cX_R rfl rfl rfl rfl (by rfl) (Nat.le_of_ble_eq_true rfl) (xdec_at tX2_addLeg_0 24 rfl) ⟨(Nat.le_of_ble_eq_true rfl), (Nat.le_of_ble_eq_true rfl)⟩ ⟨(Nat.le_of_ble_eq_true rfl), (Nat.le_of_ble_eq_true rfl)⟩ ?_
    rintro v9 lay9 C9 ⟨rfl, rfl, rfl⟩
    refine v_aload_n X (xdec_at tX2_addLeg_0 25 rfl) rfl rfl ?_
    refine x_get (v := .int (μ.1 10 0 + 1)) X hinX2 (3, 0) cX_R rfl 4 (by decide) (xw_at tW_2 6 rfl) rfl rfl rfl (xdec_at tX2_addLeg_0 26 rfl) ?_
    refine v_iconst (v := 1) X (xdec_at tX2_addLeg_0 27 rfl) (by decide) ?_
    refine v_isub X (xdec_at tX2_addLeg_0 28 rfl) ?_
    exact v_iret X hr (xdec_at tX2_addLeg_0 29 rfl) (Nat.le_of_ble_eq_true rfl) (Nat.le_of_ble_eq_true rfl) (Or.inr ⟨hG20, ⟨hl, hlB⟩, rfl, rfl⟩)
  · refine v_iconst (v := (-1)) X (xdec_at tX2_addLeg_0 4 rfl) (by decide) ?_
    exact v_iret X hr (xdec_at tX2_addLeg_0 5 rfl) (Nat.le_of_ble_eq_true rfl) (Nat.le_of_ble_eq_true rfl) (Or.inl ⟨fun z => c_6 (by rw [eG]; exact (nI_ltI (by omega) (by decide)).mpr z), rfl, rfl, rfl⟩)
set_option maxRecDepth 100000 in
set_option maxHeartbeats 4000000 in
theorem kyX4_leg (l : Launch) (hl0 : l.stackTraces = false) (Z : xZ) (B0 : Nat) (lay : xK → Nat) (μ : Mu) (tb : Tb) (r : xK → Option xE) (hI : RI μ) (hK : KI μ) (a b d : Int32) : YX l yX4_leg cX4_leg 7 (some FieldType.int) 7 145 5 28 Z B0 [.ref (lay (0, 0)), .int a, .int b, .int d] lay (cX Z lay μ tb r) (fun v lay' C' => lyC Z lay lay' μ tb r ∧ lyB lay lay' ∧ v = some (.int (M_leg μ a b d).1) ∧ (M_leg μ a b d).2.1 38 0 = 0 ∧ C' = cX Z lay' (M_leg μ a b d).2 (K_reckon (up2 (up2 (up2 (up2 μ.1 11 (ix (μ.1 10 0)) a) 12 (ix (μ.1 10 0)) b) 13 (ix (μ.1 10 0)) d) 10 0 (μ.1 10 0 + 1), μ.2) tb.1, tb.2) r) (fun E => (E = eO ∧ (M_leg μ a b d).2.1 38 0 = 1) ∨ (E = eA ∧ (M_leg μ a b d).2.1 38 0 = 2) ∨ (E = eS ∧ (M_leg μ a b d).2.1 38 0 = 3)) := by
  refine YX_of myX4_leg.2.2 RX4 rfl [some (.ref (lay (0, 0))), some (.int a), some (.int b), some (.int d), none, none, none] rfl (Nat.le_of_ble_eq_true rfl) ?_
  intro P1 P2 P3 P4 P5 P6 P7 P8 X hr hE
  refine v_inj fun hinj => ?_
  refine v_aload_n X (xdec_at tX4_leg_0 0 rfl) rfl rfl ?_
  refine v_iload_n X (xdec_at tX4_leg_0 1 rfl) rfl rfl ?_
  refine v_xV X hE myX4_postOf [.int a] [] (kyX4_postOf l hl0 Z B0 lay μ tb r hI a) (xw_at tW_2 39 rfl) (0, 0) cX_X rfl rfl rfl rfl (by rfl) (Nat.le_of_ble_eq_true rfl) (xdec_at tX4_leg_0 2 rfl) ⟨(Nat.le_of_ble_eq_true rfl), (Nat.le_of_ble_eq_true rfl)⟩ ⟨(Nat.le_of_ble_eq_true rfl), (Nat.le_of_ble_eq_true rfl)⟩ ⟨(Nat.le_of_ble_eq_true rfl), (Nat.le_of_ble_eq_true rfl)⟩ (fun E h9 => Or.inl (⟨h9.1, by simp [M_leg, up2_at, h9.2]⟩)) ?_
  rintro v9 lay9 C9 ⟨rfl, rfl, rfl, q_2⟩
  refine v_astore (lv' := [some (.ref (lay (0, 0))), some (.int a), some (.int b), some (.int d), some (.ref (lay (10, ix a))), none, none]) X (xdec_at tX4_leg_0 3 rfl) (by decide) rfl ?_
  refine v_aload_n X (xdec_at tX4_leg_0 4 rfl) rfl rfl ?_
  refine v_iload_n X (xdec_at tX4_leg_0 5 rfl) rfl rfl ?_
  refine v_xV X hE myX4_postOf [.int b] [] (kyX4_postOf l hl0 Z B0 lay μ tb r hI b) (xw_at tW_2 39 rfl) (0, 0) cX_X rfl rfl rfl rfl (by rfl) (Nat.le_of_ble_eq_true rfl) (xdec_at tX4_leg_0 6 rfl) ⟨(Nat.le_of_ble_eq_true rfl), (Nat.le_of_ble_eq_true rfl)⟩ ⟨(Nat.le_of_ble_eq_true rfl), (Nat.le_of_ble_eq_true rfl)⟩ ⟨(Nat.le_of_ble_eq_true rfl), (Nat.le_of_ble_eq_true rfl)⟩ (fun E h9 => Or.inl (⟨h9.1, by simp [M_leg, (eq_true q_2), up2_at, h9.2]⟩)) ?_
  rintro v9 lay9 C9 ⟨rfl, rfl, rfl, q_9⟩
  refine v_astore (lv' := [some (.ref (lay (0, 0))), some (.int a), some (.int b), some (.int d), some (.ref (lay (10, ix a))), some (.ref (lay (10, ix b))), none]) X (xdec_at tX4_leg_0 7 rfl) (by decide) rfl ?_
  refine v_iload_n X (xdec_at tX4_leg_0 8 rfl) rfl rfl ?_
  refine v_iconst (v := 1) X (xdec_at tX4_leg_0 9 rfl) (by decide) ?_
  refine v_bipush (v := 100) X (xdec_at tX4_leg_0 10 rfl) (by decide) ?_
  refine v_xS X hE myX4_demandWithin [.int d, .int 1, .int 100] [] (kyX4_demandWithin l hl0 Z B0 lay (cX Z lay μ tb r) d 1 100) (xw_at tW_5 5 rfl) rfl rfl (by rfl) (Nat.le_of_ble_eq_true rfl) (xdec_at tX4_leg_0 11 rfl) ⟨(Nat.le_of_ble_eq_true rfl), (Nat.le_of_ble_eq_true rfl)⟩ ⟨(Nat.le_of_ble_eq_true rfl), (Nat.le_of_ble_eq_true rfl)⟩ ⟨(Nat.le_of_ble_eq_true rfl), (Nat.le_of_ble_eq_true rfl)⟩ (fun E h9 => Or.inr (Or.inl (⟨h9.1, by simp [M_leg, (eq_true q_2), (eq_true q_9), up2_at, h9.2]⟩))) ?_
  rintro v9 lay9 C9 ⟨rfl, rfl, rfl, q_18⟩
  refine v_aload X (xdec_at tX4_leg_0 12 rfl) rfl ?_
  refine v_aload X (xdec_at tX4_leg_0 13 rfl) rfl ?_
  refine v_acmpR_ne (tgt := 38) X (xdec_at tX4_leg_0 14 rfl) (by decide) (fun c_25 => ?_) (fun c_25 => ?_)
  · have h25 : ¬ a = b := fun z => c_25 (by rw [z])
    refine v_aload_n X (xdec_at tX4_leg_0 20 rfl) rfl rfl ?_
    refine x_get (v := .ref (lay (3, 0))) X hinX4 (0, 0) cX_X rfl 2 (by decide) (xw_at tW_2 15 rfl) rfl rfl rfl (xdec_at tX4_leg_0 21 rfl) ?_
    refine v_aload X (xdec_at tX4_leg_0 22 rfl) rfl ?_
    refine v_aload X (xdec_at tX4_leg_0 23 rfl) rfl ?_
    refine v_iload_n X (xdec_at tX4_leg_0 24 rfl) rfl rfl ?_
    obtain ⟨G, hG, eG⟩ := hI.2.1
    have hxG : ix (μ.1 10 0) = G := by rw [eG, ix_nI (by omega)]
    refine v_callV X myX2_addLeg [.ref (lay (10, ix a)), .ref (lay (10, ix b)), .int d] [] (kyX2_addLeg l Z B0 lay μ tb r hI hK a b d (isP_lt hI q_2).1 (isP_lt hI q_9).1 (hI.P q_2) (hI.P q_9) q_18 G hG eG) (xw_at tW_8 21 rfl) (3, 0) cX_R rfl rfl rfl rfl (by rfl) (Nat.le_of_ble_eq_true rfl) (xdec_at tX4_leg_0 25 rfl) ⟨(Nat.le_of_ble_eq_true rfl), (Nat.le_of_ble_eq_true rfl)⟩ ⟨(Nat.le_of_ble_eq_true rfl), (Nat.le_of_ble_eq_true rfl)⟩ ?_
    rintro v9 lay9 C9 (⟨hG9, rfl, rfl, rfl⟩ | ⟨hG9, ⟨hl, hlB⟩, rfl, rfl⟩)
    · have h20 : μ.1 10 0 = 20 := by rw [eG, show G = 20 by omega]; decide
      refine v_istore (lv' := [some (.ref (lay (0, 0))), some (.int a), some (.int b), some (.int d), some (.ref (lay (10, ix a))), some (.ref (lay (10, ix b))), some (.int (-1))]) X (xdec_at tX4_leg_0 26 rfl) (by decide) rfl ?_
      refine v_iload X (xdec_at tX4_leg_0 27 rfl) rfl ?_
      refine v_iconst (v := (-1)) X (xdec_at tX4_leg_0 28 rfl) (by decide) ?_
      refine v_icmp_ne (tgt := 68) X (xdec_at tX4_leg_0 29 rfl) (by decide) (fun h9 => absurd rfl h9) (fun _ => ?_)
      exact v_throw X hE hl0 (text := "there are 20 legs") xinS xkS xiS (List.mem_of_getElem? (i := 4) rfl) xfS (xdec_at tX4_leg_0 30 rfl) (xdec_at tX4_leg_0 31 rfl) (xdec_at tX4_leg_0 32 rfl) (xdec_at tX4_leg_0 33 rfl) (xdec_at tX4_leg_0 34 rfl) ⟨(Nat.le_of_ble_eq_true rfl), (Nat.le_of_ble_eq_true rfl), (Nat.le_of_ble_eq_true rfl), (Nat.le_of_ble_eq_true rfl)⟩ ⟨(Nat.le_of_ble_eq_true rfl), (Nat.le_of_ble_eq_true rfl)⟩ (Or.inr (Or.inr ((⟨rfl, by unfold M_leg; rw [if_pos ⟨q_2, q_9⟩, if_neg (fun z => z.elim h25 (fun y => y q_18)), if_pos h20]; simp [up2_at]⟩))))
    · have e10 : μ.1 10 0 + 1 - 1 = nI G := by rw [eG, nI_1, nI_pred]
      have h20 : ¬ μ.1 10 0 = 20 := by rw [eG]; intro z; have := nI_inj (b := 20) (by omega) (by decide) z; omega
      have h00 : lay9 (0, 0) = lay (0, 0) := hl (0, 0) (by rw [cX_X]; exact fun z => by cases z)
      refine v_le (lv' := [none, none, none, none, none, none, none]) (by simp [xle]) ?_
      refine v_istore (lv' := [none, none, none, none, none, none, some (.int (μ.1 10 0 + 1 - 1))]) X (xdec_at tX4_leg_0 26 rfl) (by decide) rfl ?_
      refine v_iload X (xdec_at tX4_leg_0 27 rfl) rfl ?_
      refine v_iconst (v := (-1)) X (xdec_at tX4_leg_0 28 rfl) (by decide) ?_
      refine v_icmp_ne (tgt := 68) X (xdec_at tX4_leg_0 29 rfl) (by decide) (fun _ => ?_) (fun h9 => absurd (show (-1 : Int32) < 0 by decide) (by rw [← h9, e10]; exact nI_pos (by omega)))
      refine v_iload X (xdec_at tX4_leg_0 35 rfl) rfl ?_
      have e9 : M_leg μ a b d = (μ.1 10 0 + 1 - 1, (up2 (up2 (up2 (up2 (up2 μ.1 38 0 0) 11 (ix (μ.1 10 0)) a) 12 (ix (μ.1 10 0)) b) 13 (ix (μ.1 10 0)) d) 10 0 (μ.1 10 0 + 1), μ.2)) := by unfold M_leg; rw [if_pos ⟨q_2, q_9⟩, if_neg (fun z => z.elim h25 (fun y => y q_18)), if_neg h20]
      exact v_x (v_iret X hr (xdec_at tX4_leg_0 36 rfl) (Nat.le_of_ble_eq_true rfl) (Nat.le_of_ble_eq_true rfl) ⟨hl, hlB, by rw [e9], by rw [e9]; simp [up2_at], by rw [e9, hxG]; exact (cX_eq (μ := (up2 (up2 (up2 (up2 μ.1 11 G a) 12 G b) 13 G d) 10 0 (μ.1 10 0 + 1), μ.2)) (μ' := (up2 (up2 (up2 (up2 (up2 μ.1 38 0 0) 11 G a) 12 G b) 13 G d) 10 0 (μ.1 10 0 + 1), μ.2)) (fun j hj => up2_com (up2_com (up2_com (up2_com (th_com (μ := μ))))) j hj) rfl).symm⟩)
  · have h25 : a = b := ix_inj (hI.P q_2) (hI.P q_9) (by decide) (P_inj hinj (isP_lt hI q_2).1 (isP_lt hI q_9).1 (c_25))
    exact v_throw X hE hl0 (text := "a leg from a post to itself") xinA xkA xiA (List.mem_of_getElem? (i := 3) rfl) xfA (xdec_at tX4_leg_0 15 rfl) (xdec_at tX4_leg_0 16 rfl) (xdec_at tX4_leg_0 17 rfl) (xdec_at tX4_leg_0 18 rfl) (xdec_at tX4_leg_0 19 rfl) ⟨(Nat.le_of_ble_eq_true rfl), (Nat.le_of_ble_eq_true rfl), (Nat.le_of_ble_eq_true rfl), (Nat.le_of_ble_eq_true rfl)⟩ ⟨(Nat.le_of_ble_eq_true rfl), (Nat.le_of_ble_eq_true rfl)⟩ (Or.inr (Or.inl (⟨rfl, by unfold M_leg; rw [if_pos ⟨q_2, q_9⟩, if_pos (Or.inl h25)]; simp [up2_at]⟩)))
