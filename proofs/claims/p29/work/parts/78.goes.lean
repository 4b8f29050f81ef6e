/-! the law's goes -/
set_option maxRecDepth 100000 in
set_option maxHeartbeats 8000000 in
theorem c_goes {l : Launch} (hl0 : l.stackTraces = false) {Z : xZ} {B0 : Nat} {lay : xK → Nat} {μ : Mu} {tb : Tb} {k : Nat} (z : Int32) (D : Nat) (hL : LJ μ tb k) (hD : Pp (KT_days (gD z) (0, μ) tb) = Pp tb + D) (hk : k < 400) (hg : 0 < nG μ → 3 ≤ nP μ) : YL l yL_goes cL_goes 18 (some FieldType.boolean) 23 850 (900 + 2 * D) (7000 + 4 * D) Z B0 [.ref (lay (0, 0)), .ref (lay (500, 0)), .ref (lay (300, 0)), .int z] lay (W2 Z lay μ tb μ tb (dR Z (dv μ))) (LPg Z lay tb k D) := by
  have hP8 := nP8 hL.I
  have hG20 := nG20 hL.I
  have hT40 := nT40 hL.I
  have hf := dv_F hL.I
  refine YL_of myL_goes.2 RL rfl [some (.ref (lay (0, 0))), some (.ref (lay (500, 0))), some (.ref (lay (300, 0))), some (.int z), none, none, none, none, none, none, none, none, none, none, none, none, none, none] rfl (Nat.le_of_ble_eq_true rfl) ?_
  intro P1 P2 P3 P4 P5 P6 P7 P8 X hr hE
  refine v_iconst (v := 1) X (xdec_at tL_goes_0 0 rfl) (by decide) ?_
  refine v_cutJ (lay' := lay) (C' := W2 Z lay μ tb μ tb (dR Z (dv μ))) (pc' := 24) (lv' := [some (.ref (lay (0, 0))), some (.ref (lay (500, 0))), some (.ref (lay (300, 0))), some (.int z), some (.int (nI (gD z))), none, none, none, none, none, none, none, none, none, none, none, none, none]) (st' := []) ?_ fun J24 => ?_
  · refine v_aload_n X (xdec_at tL_goes_0 14 rfl) rfl rfl ?_
    refine v_aload_n X (xdec_at tL_goes_0 15 rfl) rfl rfl ?_
    refine v_iconst (v := 2) X (xdec_at tL_goes_0 16 rfl) (by decide) ?_
    refine v_wL X hE myL_sums [.ref (lay (0, 0)), .ref (lay (300, 0)), .int 2] [] (sums2_W hl0 hL.I hf rfl) (xw_at tW_13 28 rfl) rfl rfl (by rfl) (Nat.le_of_ble_eq_true rfl) (xdec_at tL_goes_0 17 rfl) ⟨(Nat.le_of_ble_eq_true rfl), (Nat.le_of_ble_eq_true rfl)⟩ ⟨by show (_ : Nat) ≤ 900 + 2 * D; omega, by show (_ : Nat) ≤ 7000 + 4 * D; omega⟩ ?_
    rintro v9 lay9 C9 ⟨rfl, rfl, rfl⟩
    refine v_lstore (lv' := [some (.ref (lay (0, 0))), some (.ref (lay (500, 0))), some (.ref (lay (300, 0))), some (.int z), some (.int (nI (gD z))), some (.long (sm (μ.2 7) (nP μ))), none, none, none, none, none, none, none, none, none, none, none, none]) X (xdec_at tL_goes_0 18 rfl) (by decide) rfl ?_
    refine v_aload_n X (xdec_at tL_goes_0 19 rfl) rfl rfl ?_
    refine v_aload_n X (xdec_at tL_goes_0 20 rfl) rfl rfl ?_
    refine v_iconst (v := 3) X (xdec_at tL_goes_0 21 rfl) (by decide) ?_
    refine v_wL X hE myL_sums [.ref (lay (0, 0)), .ref (lay (300, 0)), .int 3] [] (sums3_W hl0 hL.I hf rfl) (xw_at tW_13 28 rfl) rfl rfl (by rfl) (Nat.le_of_ble_eq_true rfl) (xdec_at tL_goes_0 22 rfl) ⟨(Nat.le_of_ble_eq_true rfl), (Nat.le_of_ble_eq_true rfl)⟩ ⟨by show (_ : Nat) ≤ 900 + 2 * D; omega, by show (_ : Nat) ≤ 7000 + 4 * D; omega⟩ ?_
    rintro v9 lay9 C9 ⟨rfl, rfl, rfl⟩
    refine v_lstore (lv' := [some (.ref (lay (0, 0))), some (.ref (lay (500, 0))), some (.ref (lay (300, 0))), some (.int z), some (.int (nI (gD z))), some (.long (sm (μ.2 7) (nP μ))), none, some (.long (sm (μ.2 8) (nP μ))), none, none, none, none, none, none, none, none, none, none]) X (xdec_at tL_goes_0 23 rfl) (by decide) rfl ?_
    refine v_bipush (v := 40) X (xdec_at tL_goes_0 24 rfl) (by decide) ?_
    refine x_newi X (301, 0) ((W2_hi (by decide) (by decide)).trans rfl) (N := 40) (by decide) (by decide) (by decide) ⟨by show (_ : Nat) ≤ 900 + 2 * D; omega, by show (_ : Nat) ≤ 7000 + 4 * D; omega⟩ (xdec_at tL_goes_0 25 rfl) fun a1 _ => ?_
    refine v_congr (lay' := xlay lay (301, 0) a1) (C' := W2 Z (xlay lay (301, 0) a1) μ tb μ tb (xup (dR Z (dv μ)) (301, 0) (.inl (Z.2 0, 40, .inl (wF μ 23 0))))) (fun j => Or.inr (by rw [wF_0 μ 23]; exact W2_new (by decide) (by decide) j)) (fun _ _ => rfl) ?_
    obtain ⟨m1, hm1⟩ : ∃ L, L = xlay lay (301, 0) a1 := ⟨_, rfl⟩
    have nm1 : ∀ q, q ≠ (301, 0) → m1 q = lay q := fun q hq => by rw [hm1]; exact xlay_ne _ _ hq
    rw [← hm1, ← nm1 (0, 0) (by decide), ← nm1 (500, 0) (by decide), ← nm1 (300, 0) (by decide)]
    refine v_st (st' := [.ref (m1 (301, 0))]) (by rw [hm1, xlay_at] <;> rfl) ?_
    refine v_astore (lv' := [some (.ref (m1 (0, 0))), some (.ref (m1 (500, 0))), some (.ref (m1 (300, 0))), some (.int z), some (.int (nI (gD z))), some (.long (sm (μ.2 7) (nP μ))), none, some (.long (sm (μ.2 8) (nP μ))), none, some (.ref (m1 (301, 0))), none, none, none, none, none, none, none, none]) X (xdec_at tL_goes_0 26 rfl) (by decide) rfl ?_
    refine v_bipush (v := 40) X (xdec_at tL_goes_0 27 rfl) (by decide) ?_
    refine x_newi X (302, 0) ((W2_hi (by decide) (by decide)).trans rfl) (N := 40) (by decide) (by decide) (by decide) ⟨by show (_ : Nat) ≤ 900 + 2 * D; omega, by show (_ : Nat) ≤ 7000 + 4 * D; omega⟩ (xdec_at tL_goes_0 28 rfl) fun a1 _ => ?_
    refine v_congr (lay' := xlay m1 (302, 0) a1) (C' := W2 Z (xlay m1 (302, 0) a1) μ tb μ tb (xup (xup (dR Z (dv μ)) (301, 0) (.inl (Z.2 0, 40, .inl (wF μ 23 0)))) (302, 0) (.inl (Z.2 0, 40, .inl (wF μ 35 0))))) (fun j => Or.inr (by rw [wF_0 μ 35]; exact W2_new (by decide) (by decide) j)) (fun _ _ => rfl) ?_
    obtain ⟨m2, hm2⟩ : ∃ L, L = xlay m1 (302, 0) a1 := ⟨_, rfl⟩
    have nm2 : ∀ q, q ≠ (302, 0) → m2 q = m1 q := fun q hq => by rw [hm2]; exact xlay_ne _ _ hq
    rw [← hm2, ← nm2 (0, 0) (by decide), ← nm2 (500, 0) (by decide), ← nm2 (300, 0) (by decide), ← nm2 (301, 0) (by decide)]
    refine v_st (st' := [.ref (m2 (302, 0))]) (by rw [hm2, xlay_at] <;> rfl) ?_
    refine v_astore (lv' := [some (.ref (m2 (0, 0))), some (.ref (m2 (500, 0))), some (.ref (m2 (300, 0))), some (.int z), some (.int (nI (gD z))), some (.long (sm (μ.2 7) (nP μ))), none, some (.long (sm (μ.2 8) (nP μ))), none, some (.ref (m2 (301, 0))), some (.ref (m2 (302, 0))), none, none, none, none, none, none, none]) X (xdec_at tL_goes_0 29 rfl) (by decide) rfl ?_
    refine v_iconst (v := 0) X (xdec_at tL_goes_0 30 rfl) (by decide) ?_
    refine v_istore (lv' := [some (.ref (m2 (0, 0))), some (.ref (m2 (500, 0))), some (.ref (m2 (300, 0))), some (.int z), some (.int (nI (gD z))), some (.long (sm (μ.2 7) (nP μ))), none, some (.long (sm (μ.2 8) (nP μ))), none, some (.ref (m2 (301, 0))), some (.ref (m2 (302, 0))), some (.int 0), none, none, none, none, none, none]) X (xdec_at tL_goes_0 31 rfl) (by decide) rfl ?_
    refine v_widen (cells' := 20) (slots' := 180) (by decide) (by decide) ?_
    refine v_forC (nT μ) (fun t => W2 Z m2 μ tb μ tb (gR Z (dv μ) (wF μ 23 t) (wF μ 35 t))) (fun t => [some (.ref (m2 (0, 0))), some (.ref (m2 (500, 0))), some (.ref (m2 (300, 0))), some (.int z), some (.int (nI (gD z))), some (.long (sm (μ.2 7) (nP μ))), none, some (.long (sm (μ.2 8) (nP μ))), none, some (.ref (m2 (301, 0))), some (.ref (m2 (302, 0))), some (.int (nI t)), none, none, none, none, none, none]) (fun t => 20 + 4 * t) (fun t => 180 + 24 * t) 55 [] (fun t ht K => ?_) ?_
    · refine v_iload X (xdec_at tL_goes_0 32 rfl) rfl ?_
      refine v_aload_n X (xdec_at tL_goes_0 33 rfl) rfl rfl ?_
      refine v_iconst (v := 2) X (xdec_at tL_goes_0 34 rfl) (by decide) ?_
      refine x_iald (v := nI (nT μ)) X (300, 0) W2_gd (vp_in_nI (n := 2) (N := 3) (by decide) (by decide)) rfl hf.2.2 (xdec_at tL_goes_0 35 rfl) ?_
      refine v_icmp_ge (tgt := 96) X (xdec_at tL_goes_0 36 rfl) (by decide) (fun h9 => absurd h9 (nI_ge ht (by omega))) (fun _ => ?_)
      refine v_aload X (xdec_at tL_goes_0 37 rfl) rfl ?_
      refine v_iload X (xdec_at tL_goes_0 38 rfl) rfl ?_
      refine v_aload_n X (xdec_at tL_goes_0 39 rfl) rfl rfl ?_
      refine v_iload X (xdec_at tL_goes_1 0 rfl) rfl ?_
      refine v_iconst (v := 0) X (xdec_at tL_goes_1 1 rfl) (by decide) ?_
      refine v_wN X hE myX4_ofThing [.int (nI t), .int 0] [.int (nI t), .ref (m2 (301, 0))] (qy_ofThing (t := t) (w := 0) hl0 hL.I hL.K ht (by decide)) (xw_at tW_5 30 rfl) (0, 0) cX_X rfl rfl rfl rfl (by rfl) (Nat.le_of_ble_eq_true rfl) (xdec_at tL_goes_1 2 rfl) ⟨(Nat.le_of_ble_eq_true rfl), (Nat.le_of_ble_eq_true rfl)⟩ ⟨by show (_ : Nat) ≤ 900 + 2 * D; omega, by show (_ : Nat) ≤ 7000 + 4 * D; omega⟩ ?_
      rintro v9 lay9 C9 ⟨rfl, rfl, rfl⟩
      refine v_l2i (v := μ.1 23 t) X (xdec_at tL_goes_1 3 rfl) (Int32.toInt32_toInt64 _) ?_
      refine x_iast (C' := W2 Z m2 μ tb μ tb (gR Z (dv μ) (wF μ 23 (t + 1)) (wF μ 35 t))) X (301, 0) W2_g1 (vp_in_nI (n := t) (N := 40) (by omega) (by decide)) rfl (gR_1 (wF_up μ 23 (by omega))) (xdec_at tL_goes_1 4 rfl) ?_
      refine v_aload X (xdec_at tL_goes_1 5 rfl) rfl ?_
      refine v_iload X (xdec_at tL_goes_1 6 rfl) rfl ?_
      refine v_aload_n X (xdec_at tL_goes_1 7 rfl) rfl rfl ?_
      refine v_iload X (xdec_at tL_goes_1 8 rfl) rfl ?_
      refine v_bipush (v := 6) X (xdec_at tL_goes_1 9 rfl) (by decide) ?_
      refine v_wN X hE myX4_ofThing [.int (nI t), .int 6] [.int (nI t), .ref (m2 (302, 0))] (qy_ofThing (t := t) (w := 6) hl0 hL.I hL.K ht (by decide)) (xw_at tW_5 30 rfl) (0, 0) cX_X rfl rfl rfl rfl (by rfl) (Nat.le_of_ble_eq_true rfl) (xdec_at tL_goes_1 10 rfl) ⟨(Nat.le_of_ble_eq_true rfl), (Nat.le_of_ble_eq_true rfl)⟩ ⟨by show (_ : Nat) ≤ 900 + 2 * D; omega, by show (_ : Nat) ≤ 7000 + 4 * D; omega⟩ ?_
      rintro v9 lay9 C9 ⟨rfl, rfl, rfl⟩
      refine v_l2i (v := μ.1 35 t) X (xdec_at tL_goes_1 11 rfl) (Int32.toInt32_toInt64 _) ?_
      refine x_iast (C' := W2 Z m2 μ tb μ tb (gR Z (dv μ) (wF μ 23 (t + 1)) (wF μ 35 (t + 1)))) X (302, 0) W2_g2 (vp_in_nI (n := t) (N := 40) (by omega) (by decide)) rfl (gR_2 (wF_up μ 35 (by omega))) (xdec_at tL_goes_1 12 rfl) ?_
      refine v_iinc (v := (nI (t + 1))) (lv' := [some (.ref (m2 (0, 0))), some (.ref (m2 (500, 0))), some (.ref (m2 (300, 0))), some (.int z), some (.int (nI (gD z))), some (.long (sm (μ.2 7) (nP μ))), none, some (.long (sm (μ.2 8) (nP μ))), none, some (.ref (m2 (301, 0))), some (.ref (m2 (302, 0))), some (.int (nI (t + 1))), none, none, none, none, none, none]) X (xdec_at tL_goes_1 13 rfl) rfl (nI_1 _) (by decide) rfl ?_
      refine v_goto (tgt := 55) X (xdec_at tL_goes_1 14 rfl) (by decide) ?_
      exact v_widen (by show (_ : Nat) ≤ 20 + 4 * (t + 1); omega) (by show (_ : Nat) ≤ 180 + 24 * (t + 1); omega) K
    · refine v_iload X (xdec_at tL_goes_0 32 rfl) rfl ?_
      refine v_aload_n X (xdec_at tL_goes_0 33 rfl) rfl rfl ?_
      refine v_iconst (v := 2) X (xdec_at tL_goes_0 34 rfl) (by decide) ?_
      refine x_iald (v := nI (nT μ)) X (300, 0) W2_gd (vp_in_nI (n := 2) (N := 3) (by decide) (by decide)) rfl hf.2.2 (xdec_at tL_goes_0 35 rfl) ?_
      refine v_icmp_ge (tgt := 96) X (xdec_at tL_goes_0 36 rfl) (by decide) (fun _ => ?_) (fun h9 => absurd (nI_le (Nat.le_refl _) (by omega)) h9)
      refine v_aload_n X (xdec_at tL_goes_1 15 rfl) rfl rfl ?_
      refine v_aload_n X (xdec_at tL_goes_1 16 rfl) rfl rfl ?_
      refine v_bipush (v := 13) X (xdec_at tL_goes_1 17 rfl) (by decide) ?_
      refine v_iload X (xdec_at tL_goes_1 18 rfl) rfl ?_
      refine v_iconst (v := 0) X (xdec_at tL_goes_1 19 rfl) (by decide) ?_
      refine v_iconst (v := 0) X (xdec_at tL_goes_1 20 rfl) (by decide) ?_
      refine v_iconst (v := 0) X (xdec_at tL_goes_1 21 rfl) (by decide) ?_
      obtain ⟨d1, d2⟩ := gD_b z
      obtain ⟨eM, hJ, hGP, h35⟩ := cm_go hL (d := gD z) (by omega) d1 (by omega)
      obtain ⟨ν, hν⟩ : ∃ ν, ν = (M_days (gD z) (0, μ)).2 := ⟨_, rfl⟩
      obtain ⟨xx, hxx⟩ : ∃ x, x = (M_days (gD z) (0, μ)).1 := ⟨_, rfl⟩
      obtain ⟨tbn, htb⟩ : ∃ T, T = KT_days (gD z) (0, μ) tb := ⟨_, rfl⟩
      rw [show M_days (gD z) (0, μ) = (xx, ν) from by rw [hxx, hν]] at eM
      rw [← htb] at hD
      rw [← hν, ← htb] at hJ
      rw [← hν, ← htb, ← hxx] at hGP
      rw [← hν] at h35
      obtain ⟨P, hP⟩ : ∃ P : Nat → Bool, P = fun t => decide (ν.1 23 t = 2 ∧ ¬ μ.1 23 t = 2) := ⟨_, rfl⟩
      obtain ⟨gp1, gp2, gp3, gp4, cc9, gp5, gp6, gp7⟩ := hGP
      rw [← hP] at gp6
      subst gp6
      have c40 := cnt_le P (nT μ)
      have hck : CallOK l Z B0 μ tb 13 (nI (gD z)) 0 0 0 (nI (cnt P (nT μ))) ν tbn (1 + D) (6 + 2 * D) := by
        have h9 := ckS_go hl0 (Z := Z) (B0 := B0) hL (a := nI (gD z)) (b := 0) (c := 0) (d := 0) (by omega) (1 + D) (6 + 2 * D) ⟨by omega, by omega⟩ (fun _ => by rw [ix_nI (by omega), hL.t0, ← htb]; omega) (by rw [eM, gp5]) hJ.z
        rw [ix_nI (by omega), hL.t0, ← htb] at h9
        exact h9
      have nPn : nP ν = nP μ := by unfold nP; rw [gp2 0 rfl]
      have nGn : nG ν = nG μ := by unfold nG; rw [gp2 10 rfl]
      have nTn : nT ν = nT μ := by unfold nT; rw [gp2 16 rfl]
      have hfn : dF (dv μ) ν := by unfold dF; rw [nPn, nGn, nTn]; exact hf
      have hB8 := hL.B (by omega)
      refine v_wL X hE myL_both [.ref (m2 (0, 0)), .ref (m2 (500, 0)), .int 13, .int (nI (gD z)), .int 0, .int 0, .int 0] [] (both_of rfl hck) (xw_at tW_6 11 rfl) rfl rfl (by rfl) (Nat.le_of_ble_eq_true rfl) (xdec_at tL_goes_1 22 rfl) ⟨(Nat.le_of_ble_eq_true rfl), (Nat.le_of_ble_eq_true rfl)⟩ ⟨by show (_ : Nat) ≤ 900 + 2 * D; omega, by show (_ : Nat) ≤ 7000 + 4 * D; omega⟩ ?_
      rintro v9 l1 C9 ⟨rfl, y_l1, rfl⟩
      rw [← y_l1.1, ← y_l1.2.1, ← y_l1.2.2 (300, 0) (by decide) (by decide), ← y_l1.2.2 (301, 0) (by decide) (by decide), ← y_l1.2.2 (302, 0) (by decide) (by decide)]
      refine v_istore (lv' := [some (.ref (l1 (0, 0))), some (.ref (l1 (500, 0))), some (.ref (l1 (300, 0))), some (.int z), some (.int (nI (gD z))), some (.long (sm (μ.2 7) (nP μ))), none, some (.long (sm (μ.2 8) (nP μ))), none, some (.ref (l1 (301, 0))), some (.ref (l1 (302, 0))), some (.int (nI (cnt P (nT μ)))), none, none, none, none, none, none]) X (xdec_at tL_goes_1 23 rfl) (by decide) rfl ?_
      refine v_iconst (v := 0) X (xdec_at tL_goes_1 24 rfl) (by decide) ?_
      refine v_istore (lv' := [some (.ref (l1 (0, 0))), some (.ref (l1 (500, 0))), some (.ref (l1 (300, 0))), some (.int z), some (.int (nI (gD z))), some (.long (sm (μ.2 7) (nP μ))), none, some (.long (sm (μ.2 8) (nP μ))), none, some (.ref (l1 (301, 0))), some (.ref (l1 (302, 0))), some (.int (nI (cnt P (nT μ)))), some (.int 0), none, none, none, none, none]) X (xdec_at tL_goes_1 25 rfl) (by decide) rfl ?_
      refine v_iload X (xdec_at tL_goes_1 26 rfl) rfl ?_
      refine v_if_lt (tgt := 146) X (xdec_at tL_goes_1 27 rfl) (by decide) (fun h9 => absurd h9 (nI_pos (by omega))) (fun _ => ?_)
      refine v_aload_n X (xdec_at tL_goes_1 28 rfl) rfl rfl ?_
      refine v_aload_n X (xdec_at tL_goes_1 29 rfl) rfl rfl ?_
      refine v_iconst (v := 2) X (xdec_at tL_goes_1 30 rfl) (by decide) ?_
      refine v_wL X hE myL_sums [.ref (l1 (0, 0)), .ref (l1 (300, 0)), .int 2] [] (sums2_W hl0 hJ.I hfn rfl) (xw_at tW_13 28 rfl) rfl rfl (by rfl) (Nat.le_of_ble_eq_true rfl) (xdec_at tL_goes_1 31 rfl) ⟨(Nat.le_of_ble_eq_true rfl), (Nat.le_of_ble_eq_true rfl)⟩ ⟨by show (_ : Nat) ≤ 900 + 2 * D; omega, by show (_ : Nat) ≤ 7000 + 4 * D; omega⟩ ?_
      rintro v9 lay9 C9 ⟨rfl, rfl, rfl⟩
      refine v_lload X (xdec_at tL_goes_1 32 rfl) rfl ?_
      refine v_lcmp X (xdec_at tL_goes_1 33 rfl) ?_
      refine v_if_ne (tgt := 146) X (xdec_at tL_goes_1 34 rfl) (by decide) (fun h9 => absurd (lcz (by rw [nPn]; exact gp4)) h9) (fun _ => ?_)
      refine v_aload_n X (xdec_at tL_goes_1 35 rfl) rfl rfl ?_
      refine v_aload_n X (xdec_at tL_goes_1 36 rfl) rfl rfl ?_
      refine v_iconst (v := 3) X (xdec_at tL_goes_1 37 rfl) (by decide) ?_
      refine v_wL X hE myL_sums [.ref (l1 (0, 0)), .ref (l1 (300, 0)), .int 3] [] (sums3_W hl0 hJ.I hfn rfl) (xw_at tW_13 28 rfl) rfl rfl (by rfl) (Nat.le_of_ble_eq_true rfl) (xdec_at tL_goes_1 38 rfl) ⟨(Nat.le_of_ble_eq_true rfl), (Nat.le_of_ble_eq_true rfl)⟩ ⟨by show (_ : Nat) ≤ 900 + 2 * D; omega, by show (_ : Nat) ≤ 7000 + 4 * D; omega⟩ ?_
      rintro v9 lay9 C9 ⟨rfl, rfl, rfl⟩
      refine v_lload X (xdec_at tL_goes_1 39 rfl) rfl ?_
      refine v_lcmp X (xdec_at tL_goes_2 0 rfl) ?_
      refine v_if_lt (tgt := 146) X (xdec_at tL_goes_2 1 rfl) (by decide) (fun h9 => absurd h9 (lcnl (by rw [nPn]; exact (sm_mono hB8 (fun p => ⟨(gp7 p).1, by have := (gp7 p).2; have := (hB8 p).2; omega⟩) (nP μ) hP8).1))) (fun _ => ?_)
      refine v_iconst (v := 1) X (xdec_at tL_goes_2 2 rfl) (by decide) ?_
      refine v_goto (tgt := 147) X (xdec_at tL_goes_2 3 rfl) (by decide) ?_
      refine v_istore (lv' := [some (.ref (l1 (0, 0))), some (.ref (l1 (500, 0))), some (.ref (l1 (300, 0))), some (.int z), some (.int (nI (gD z))), some (.long (sm (μ.2 7) (nP μ))), none, some (.long (sm (μ.2 8) (nP μ))), none, some (.ref (l1 (301, 0))), some (.ref (l1 (302, 0))), some (.int (nI (cnt P (nT μ)))), some (.int 0), some (.int 1), none, none, none, none]) X (xdec_at tL_goes_2 5 rfl) (by decide) rfl ?_
      refine v_iconst (v := 0) X (xdec_at tL_goes_2 6 rfl) (by decide) ?_
      refine v_istore (lv' := [some (.ref (l1 (0, 0))), some (.ref (l1 (500, 0))), some (.ref (l1 (300, 0))), some (.int z), some (.int (nI (gD z))), some (.long (sm (μ.2 7) (nP μ))), none, some (.long (sm (μ.2 8) (nP μ))), none, some (.ref (l1 (301, 0))), some (.ref (l1 (302, 0))), some (.int (nI (cnt P (nT μ)))), some (.int 0), some (.int 1), some (.int 0), none, none, none]) X (xdec_at tL_goes_2 7 rfl) (by decide) rfl ?_
      refine v_widen (cells' := 250 + 2 * D) (slots' := 1600 + 4 * D) (by omega) (by omega) ?_
      refine v_forC (nT μ) (fun _ => W2 Z l1 ν tbn ν tbn (gR Z (dv μ) (wF μ 23 (nT μ)) (wF μ 35 (nT μ)))) (fun t => [some (.ref (l1 (0, 0))), some (.ref (l1 (500, 0))), some (.ref (l1 (300, 0))), some (.int z), some (.int (nI (gD z))), some (.long (sm (μ.2 7) (nP μ))), none, some (.long (sm (μ.2 8) (nP μ))), none, some (.ref (l1 (301, 0))), some (.ref (l1 (302, 0))), some (.int (nI (cnt P (nT μ)))), some (.int (nI (cnt P t))), some (.int 1), some (.int (nI t)), none, none, none]) (fun t => 250 + 2 * D + 16 * t) (fun t => 1600 + 4 * D + 96 * t) 152 [] (fun t ht K => ?_) ?_
      · have hTn : t < nT ν := by rw [nTn]; exact ht
        have hQn := hJ.T hTn
        have hQm := hL.T ht
        obtain ⟨n2, m1, m2, m3, m4, m5⟩ := hQn.2.2.2.2.2.1
        obtain ⟨n1, p1, p2, p3, p4, p5⟩ := hQm.2.2.2.2.2.1
        obtain ⟨k1, k2, k3⟩ := gp3 t ht
        have hh : n1 ≤ n2 := by rw [p2, m2, ix_nI (by omega), ix_nI (by omega)] at k1; exact k1
        have hh2 : n2 ≤ n1 + gD z := by have h9 := h35 t; rw [m2, p2, ix_nI (by omega), ix_nI (by omega)] at h9; exact h9
        by_cases hw : μ.1 23 t = 0 ∨ μ.1 23 t = 1
        · have hw3 := k3 hw
          have hwn : ¬ μ.1 23 t = 2 ∧ ¬ 2 ≤ μ.1 23 t := by rcases hw with q | q <;> rw [q] <;> decide
          rcases hQn.1 with e23 | e23 | e23 | e23
          · have hcS : cnt P (t + 1) = cnt P t := by rw [cnt, if_neg (by rw [hP]; exact fun q9 => absurd ((of_decide_eq_true q9).1.symm.trans e23) (by decide)), Nat.add_zero]
            refine v_iload X (xdec_at tL_goes_2 8 rfl) rfl ?_
            refine v_aload_n X (xdec_at tL_goes_2 9 rfl) rfl rfl ?_
            refine v_iconst (v := 2) X (xdec_at tL_goes_2 10 rfl) (by decide) ?_
            refine x_iald (v := nI (nT μ)) X (300, 0) W2_gd (vp_in_nI (n := 2) (N := 3) (by decide) (by decide)) rfl hf.2.2 (xdec_at tL_goes_2 11 rfl) ?_
            refine v_icmp_ge (tgt := 397) X (xdec_at tL_goes_2 12 rfl) (by decide) (fun h9 => absurd h9 (nI_ge ht (by omega))) (fun _ => ?_)
            refine v_iload X (xdec_at tL_goes_2 13 rfl) rfl ?_
            refine v_if_eq (tgt := 397) X (xdec_at tL_goes_2 14 rfl) (by decide) (fun h9 => absurd h9 (by decide)) (fun _ => ?_)
            refine v_aload_n X (xdec_at tL_goes_2 15 rfl) rfl rfl ?_
            refine v_iload X (xdec_at tL_goes_2 16 rfl) rfl ?_
            refine v_iconst (v := 0) X (xdec_at tL_goes_2 17 rfl) (by decide) ?_
            refine v_wN X hE myX4_ofThing [.int (nI t), .int 0] [] (qy_ofThing (t := t) (w := 0) hl0 hJ.I hJ.K hTn (by decide)) (xw_at tW_5 30 rfl) (0, 0) cX_X rfl rfl rfl rfl (by rfl) (Nat.le_of_ble_eq_true rfl) (xdec_at tL_goes_2 18 rfl) ⟨(Nat.le_of_ble_eq_true rfl), (Nat.le_of_ble_eq_true rfl)⟩ ⟨by show (_ : Nat) ≤ 900 + 2 * D; omega, by show (_ : Nat) ≤ 7000 + 4 * D; omega⟩ ?_
            rintro v9 lay9 C9 ⟨rfl, rfl, rfl⟩
            refine v_l2i (v := ν.1 23 t) X (xdec_at tL_goes_2 19 rfl) (Int32.toInt32_toInt64 _) ?_
            refine v_st (st' := [.int 0]) (by rw [e23] <;> rfl) ?_
            refine v_istore (lv' := [some (.ref (l1 (0, 0))), some (.ref (l1 (500, 0))), some (.ref (l1 (300, 0))), some (.int z), some (.int (nI (gD z))), some (.long (sm (μ.2 7) (nP μ))), none, some (.long (sm (μ.2 8) (nP μ))), none, some (.ref (l1 (301, 0))), some (.ref (l1 (302, 0))), some (.int (nI (cnt P (nT μ)))), some (.int (nI (cnt P t))), some (.int 1), some (.int (nI t)), some (.int 0), none, none]) X (xdec_at tL_goes_2 20 rfl) (by decide) rfl ?_
            refine v_aload_n X (xdec_at tL_goes_2 21 rfl) rfl rfl ?_
            refine v_iload X (xdec_at tL_goes_2 22 rfl) rfl ?_
            refine v_bipush (v := 6) X (xdec_at tL_goes_2 23 rfl) (by decide) ?_
            refine v_wN X hE myX4_ofThing [.int (nI t), .int 6] [] (qy_ofThing (t := t) (w := 6) hl0 hJ.I hJ.K hTn (by decide)) (xw_at tW_5 30 rfl) (0, 0) cX_X rfl rfl rfl rfl (by rfl) (Nat.le_of_ble_eq_true rfl) (xdec_at tL_goes_2 24 rfl) ⟨(Nat.le_of_ble_eq_true rfl), (Nat.le_of_ble_eq_true rfl)⟩ ⟨by show (_ : Nat) ≤ 900 + 2 * D; omega, by show (_ : Nat) ≤ 7000 + 4 * D; omega⟩ ?_
            rintro v9 lay9 C9 ⟨rfl, rfl, rfl⟩
            refine v_l2i (v := ν.1 35 t) X (xdec_at tL_goes_2 25 rfl) (Int32.toInt32_toInt64 _) ?_
            refine v_st (st' := [.int (nI n2)]) (by rw [m2] <;> rfl) ?_
            refine v_istore (lv' := [some (.ref (l1 (0, 0))), some (.ref (l1 (500, 0))), some (.ref (l1 (300, 0))), some (.int z), some (.int (nI (gD z))), some (.long (sm (μ.2 7) (nP μ))), none, some (.long (sm (μ.2 8) (nP μ))), none, some (.ref (l1 (301, 0))), some (.ref (l1 (302, 0))), some (.int (nI (cnt P (nT μ)))), some (.int (nI (cnt P t))), some (.int 1), some (.int (nI t)), some (.int 0), some (.int (nI n2)), none]) X (xdec_at tL_goes_2 26 rfl) (by decide) rfl ?_
            refine v_aload_n X (xdec_at tL_goes_2 27 rfl) rfl rfl ?_
            refine v_iload X (xdec_at tL_goes_2 28 rfl) rfl ?_
            refine v_iconst (v := 1) X (xdec_at tL_goes_2 29 rfl) (by decide) ?_
            refine v_wN X hE myX4_ofThing [.int (nI t), .int 1] [] (qy_ofThing (t := t) (w := 1) hl0 hJ.I hJ.K hTn (by decide)) (xw_at tW_5 30 rfl) (0, 0) cX_X rfl rfl rfl rfl (by rfl) (Nat.le_of_ble_eq_true rfl) (xdec_at tL_goes_2 30 rfl) ⟨(Nat.le_of_ble_eq_true rfl), (Nat.le_of_ble_eq_true rfl)⟩ ⟨by show (_ : Nat) ≤ 900 + 2 * D; omega, by show (_ : Nat) ≤ 7000 + 4 * D; omega⟩ ?_
            rintro v9 lay9 C9 ⟨rfl, rfl, rfl⟩
            refine v_l2i (v := ν.1 24 t) X (xdec_at tL_goes_2 31 rfl) (Int32.toInt32_toInt64 _) ?_
            refine v_istore (lv' := [some (.ref (l1 (0, 0))), some (.ref (l1 (500, 0))), some (.ref (l1 (300, 0))), some (.int z), some (.int (nI (gD z))), some (.long (sm (μ.2 7) (nP μ))), none, some (.long (sm (μ.2 8) (nP μ))), none, some (.ref (l1 (301, 0))), some (.ref (l1 (302, 0))), some (.int (nI (cnt P (nT μ)))), some (.int (nI (cnt P t))), some (.int 1), some (.int (nI t)), some (.int 0), some (.int (nI n2)), some (.int (ν.1 24 t))]) X (xdec_at tL_goes_2 32 rfl) (by decide) rfl ?_
            refine v_iload X (xdec_at tL_goes_2 33 rfl) rfl ?_
            refine v_iload X (xdec_at tL_goes_2 34 rfl) rfl ?_
            refine v_iconst (v := 2) X (xdec_at tL_goes_2 35 rfl) (by decide) ?_
            refine v_icmp_ne (tgt := 217) X (xdec_at tL_goes_2 36 rfl) (by decide) (fun _ => ?_) (fun h9 => absurd h9 (by decide))
            refine v_iconst (v := 0) X (xdec_at tL_goes_3 4 rfl) (by decide) ?_
            refine v_iadd X (xdec_at tL_goes_3 5 rfl) ?_
            refine v_st (st' := [.int (nI (cnt P (t + 1)))]) (by rw [hcS, Int32.add_zero] <;> rfl) ?_
            refine v_istore (lv' := [some (.ref (l1 (0, 0))), some (.ref (l1 (500, 0))), some (.ref (l1 (300, 0))), some (.int z), some (.int (nI (gD z))), some (.long (sm (μ.2 7) (nP μ))), none, some (.long (sm (μ.2 8) (nP μ))), none, some (.ref (l1 (301, 0))), some (.ref (l1 (302, 0))), some (.int (nI (cnt P (nT μ)))), some (.int (nI (cnt P (t + 1)))), some (.int 1), some (.int (nI t)), some (.int 0), some (.int (nI n2)), some (.int (ν.1 24 t))]) X (xdec_at tL_goes_3 6 rfl) (by decide) rfl ?_
            refine v_iload X (xdec_at tL_goes_3 7 rfl) rfl ?_
            refine v_aload X (xdec_at tL_goes_3 8 rfl) rfl ?_
            refine v_iload X (xdec_at tL_goes_3 9 rfl) rfl ?_
            refine x_iald (v := nI n1) X (302, 0) W2_g2 (vp_in_nI (n := t) (N := 40) (by omega) (by decide)) rfl ((wF_at ht (by omega)).trans p2) (xdec_at tL_goes_3 10 rfl) ?_
            refine v_icmp_lt (tgt := 388) X (xdec_at tL_goes_3 11 rfl) (by decide) (fun h9 => absurd h9 (Int32.not_lt.mpr (nI_le hh (by omega)))) (fun _ => ?_)
            refine v_iload X (xdec_at tL_goes_3 12 rfl) rfl ?_
            refine v_aload X (xdec_at tL_goes_3 13 rfl) rfl ?_
            refine v_iload X (xdec_at tL_goes_3 14 rfl) rfl ?_
            refine x_iald (v := nI n1) X (302, 0) W2_g2 (vp_in_nI (n := t) (N := 40) (by omega) (by decide)) rfl ((wF_at ht (by omega)).trans p2) (xdec_at tL_goes_3 15 rfl) ?_
            refine v_iload X (xdec_at tL_goes_3 16 rfl) rfl ?_
            refine v_iadd X (xdec_at tL_goes_3 17 rfl) ?_
            refine v_st (st' := [.int (nI (n1 + gD z)), .int (nI n2)]) (by rw [nI_add] <;> rfl) ?_
            refine v_icmp_gt (tgt := 388) X (xdec_at tL_goes_3 18 rfl) (by decide) (fun h9 => absurd h9 (Int32.not_lt.mpr (nI_le hh2 (by omega)))) (fun _ => ?_)
            refine v_aload X (xdec_at tL_goes_3 19 rfl) rfl ?_
            refine v_iload X (xdec_at tL_goes_3 20 rfl) rfl ?_
            refine x_iald (v := μ.1 23 t) X (301, 0) W2_g1 (vp_in_nI (n := t) (N := 40) (by omega) (by decide)) rfl (wF_at ht (by omega)) (xdec_at tL_goes_3 21 rfl) ?_
            refine v_iconst (v := 2) X (xdec_at tL_goes_3 22 rfl) (by decide) ?_
            refine v_icmp_ge (tgt := 262) X (xdec_at tL_goes_3 23 rfl) (by decide) (fun h9 => absurd h9 hwn.2) (fun _ => ?_)
            refine v_iload X (xdec_at tL_goes_3 24 rfl) rfl ?_
            refine v_iconst (v := 3) X (xdec_at tL_goes_3 25 rfl) (by decide) ?_
            refine v_icmp_ge (tgt := 388) X (xdec_at tL_goes_3 26 rfl) (by decide) (fun h9 => absurd h9 (by decide)) (fun _ => ?_)
            refine v_goto (tgt := 282) X (xdec_at tL_goes_3 27 rfl) (by decide) ?_
            refine v_iload X (xdec_at tL_goes_3 38 rfl) rfl ?_
            refine v_iconst (v := 1) X (xdec_at tL_goes_3 39 rfl) (by decide) ?_
            refine v_icmp_ne (tgt := 292) X (xdec_at tL_goes_4 0 rfl) (by decide) (fun _ => ?_) (fun h9 => absurd h9 (by decide))
            refine v_iconst (v := 0) X (xdec_at tL_goes_4 3 rfl) (by decide) ?_
            refine v_aload_n X (xdec_at tL_goes_4 4 rfl) rfl rfl ?_
            refine v_iload X (xdec_at tL_goes_4 5 rfl) rfl ?_
            refine v_iconst (v := 2) X (xdec_at tL_goes_4 6 rfl) (by decide) ?_
            refine v_wN X hE myX4_ofThing [.int (nI t), .int 2] [.int 0] (qy_ofThing (t := t) (w := 2) hl0 hJ.I hJ.K hTn (by decide)) (xw_at tW_5 30 rfl) (0, 0) cX_X rfl rfl rfl rfl (by rfl) (Nat.le_of_ble_eq_true rfl) (xdec_at tL_goes_4 7 rfl) ⟨(Nat.le_of_ble_eq_true rfl), (Nat.le_of_ble_eq_true rfl)⟩ ⟨by show (_ : Nat) ≤ 900 + 2 * D; omega, by show (_ : Nat) ≤ 7000 + 4 * D; omega⟩ ?_
            rintro v9 lay9 C9 ⟨rfl, rfl, rfl⟩
            refine v_lconst (v := 0) X (xdec_at tL_goes_4 8 rfl) (by decide) ?_
            refine v_lcmp X (xdec_at tL_goes_4 9 rfl) ?_
            refine v_if_le (tgt := 309) X (xdec_at tL_goes_4 10 rfl) (by decide) (fun _ => ?_) (fun h9 => absurd (lc0 (hQn.2.2.1 (by rw [e23]; decide))) h9)
            refine v_iconst (v := 0) X (xdec_at tL_goes_4 13 rfl) (by decide) ?_
            refine v_icmp_ne (tgt := 388) X (xdec_at tL_goes_4 14 rfl) (by decide) (fun h9 => absurd h9 (by decide)) (fun _ => ?_)
            refine v_iload X (xdec_at tL_goes_4 15 rfl) rfl ?_
            refine v_iconst (v := 2) X (xdec_at tL_goes_4 16 rfl) (by decide) ?_
            refine v_icmp_ne (tgt := 333) X (xdec_at tL_goes_4 17 rfl) (by decide) (fun _ => ?_) (fun h9 => absurd h9 (by decide))
            refine v_iload X (xdec_at tL_goes_4 26 rfl) rfl ?_
            refine v_if_ne (tgt := 352) X (xdec_at tL_goes_4 27 rfl) (by decide) (fun h9 => absurd h9 (by decide)) (fun _ => ?_)
            refine v_iload X (xdec_at tL_goes_4 28 rfl) rfl ?_
            refine v_i2l X (xdec_at tL_goes_4 29 rfl) rfl ?_
            refine v_aload_n X (xdec_at tL_goes_4 30 rfl) rfl rfl ?_
            refine v_iload X (xdec_at tL_goes_4 31 rfl) rfl ?_
            refine v_iconst (v := 3) X (xdec_at tL_goes_4 32 rfl) (by decide) ?_
            refine v_wN X hE myX4_ofThing [.int (nI t), .int 3] [.long ((ν.1 24 t)).toInt64] (qy_ofThing (t := t) (w := 3) hl0 hJ.I hJ.K hTn (by decide)) (xw_at tW_5 30 rfl) (0, 0) cX_X rfl rfl rfl rfl (by rfl) (Nat.le_of_ble_eq_true rfl) (xdec_at tL_goes_4 33 rfl) ⟨(Nat.le_of_ble_eq_true rfl), (Nat.le_of_ble_eq_true rfl)⟩ ⟨by show (_ : Nat) ≤ 900 + 2 * D; omega, by show (_ : Nat) ≤ 7000 + 4 * D; omega⟩ ?_
            rintro v9 lay9 C9 ⟨rfl, rfl, rfl⟩
            refine v_lcmp X (xdec_at tL_goes_4 34 rfl) ?_
            refine v_if_eq (tgt := 388) X (xdec_at tL_goes_4 35 rfl) (by decide) (fun h9 => absurd h9 (lcn0 (hQn.2.2.2.1 e23))) (fun _ => ?_)
            refine v_iload X (xdec_at tL_goes_4 36 rfl) rfl ?_
            refine v_if_eq (tgt := 384) X (xdec_at tL_goes_4 37 rfl) (by decide) (fun c_354 => ?_) (fun c_354 => ?_)
            · refine v_iconst (v := 1) X (xdec_at tL_goes_5 12 rfl) (by decide) ?_
              refine v_goto (tgt := 389) X (xdec_at tL_goes_5 13 rfl) (by decide) ?_
              refine v_istore (lv' := [some (.ref (l1 (0, 0))), some (.ref (l1 (500, 0))), some (.ref (l1 (300, 0))), some (.int z), some (.int (nI (gD z))), some (.long (sm (μ.2 7) (nP μ))), none, some (.long (sm (μ.2 8) (nP μ))), none, some (.ref (l1 (301, 0))), some (.ref (l1 (302, 0))), some (.int (nI (cnt P (nT μ)))), some (.int (nI (cnt P (t + 1)))), some (.int 1), some (.int (nI t)), some (.int 0), some (.int (nI n2)), some (.int (ν.1 24 t))]) X (xdec_at tL_goes_5 15 rfl) (by decide) rfl ?_
              refine v_iinc (v := (nI (t + 1))) (lv' := [some (.ref (l1 (0, 0))), some (.ref (l1 (500, 0))), some (.ref (l1 (300, 0))), some (.int z), some (.int (nI (gD z))), some (.long (sm (μ.2 7) (nP μ))), none, some (.long (sm (μ.2 8) (nP μ))), none, some (.ref (l1 (301, 0))), some (.ref (l1 (302, 0))), some (.int (nI (cnt P (nT μ)))), some (.int (nI (cnt P (t + 1)))), some (.int 1), some (.int (nI (t + 1))), some (.int 0), some (.int (nI n2)), some (.int (ν.1 24 t))]) X (xdec_at tL_goes_5 16 rfl) rfl (nI_1 _) (by decide) rfl ?_
              refine v_goto (tgt := 152) X (xdec_at tL_goes_5 17 rfl) (by decide) ?_
              exact v_le (lv' := [some (.ref (l1 (0, 0))), some (.ref (l1 (500, 0))), some (.ref (l1 (300, 0))), some (.int z), some (.int (nI (gD z))), some (.long (sm (μ.2 7) (nP μ))), none, some (.long (sm (μ.2 8) (nP μ))), none, some (.ref (l1 (301, 0))), some (.ref (l1 (302, 0))), some (.int (nI (cnt P (nT μ)))), some (.int (nI (cnt P (t + 1)))), some (.int 1), some (.int (nI (t + 1))), none, none, none]) ⟨rfl, rfl, rfl, rfl, rfl, rfl, rfl, rfl, rfl, rfl, rfl, rfl, rfl, trivial⟩ (v_widen (by show (_ : Nat) ≤ 250 + 2 * D + 16 * (t + 1); omega) (by show (_ : Nat) ≤ 1600 + 4 * D + 96 * (t + 1); omega) K)
            · have hn0 : n2 ≠ 0 := fun q9 => c_354 (by rw [q9]; rfl)
              have h21 : ¬ ν.1 21 t = 0 := fun q9 => hn0 (m4 q9)
              refine v_iload X (xdec_at tL_goes_4 38 rfl) rfl ?_
              refine v_iconst (v := 1) X (xdec_at tL_goes_4 39 rfl) (by decide) ?_
              refine v_icmp_eq (tgt := 384) X (xdec_at tL_goes_5 0 rfl) (by decide) (fun h9 => absurd h9 (by decide)) (fun _ => ?_)
              refine v_iload X (xdec_at tL_goes_5 1 rfl) rfl ?_
              refine v_iconst (v := 3) X (xdec_at tL_goes_5 2 rfl) (by decide) ?_
              refine v_icmp_eq (tgt := 384) X (xdec_at tL_goes_5 3 rfl) (by decide) (fun h9 => absurd h9 (by decide)) (fun _ => ?_)
              refine v_aload_n X (xdec_at tL_goes_5 4 rfl) rfl rfl ?_
              refine v_iload X (xdec_at tL_goes_5 5 rfl) rfl ?_
              refine v_iload X (xdec_at tL_goes_5 6 rfl) rfl ?_
              refine v_iconst (v := 1) X (xdec_at tL_goes_5 7 rfl) (by decide) ?_
              refine v_isub X (xdec_at tL_goes_5 8 rfl) ?_
              refine v_st (st' := [.int (nI (n2 - 1)), .int (nI t), .ref (l1 (0, 0))]) (by rw [show (1 : Int32) = nI 1 from rfl, pk_sub (b := 1) (by omega)] <;> rfl) ?_
              refine v_wN X hE myX4_hand [.int (nI t), .int (nI (n2 - 1))] [] (qy_hand (t := t) (n := n2 - 1) hl0 hJ.I hJ.H.choose_spec hTn m2 (by omega) (by omega)) (xw_at tW_11 36 rfl) (0, 0) cX_X rfl rfl rfl rfl (by rfl) (Nat.le_of_ble_eq_true rfl) (xdec_at tL_goes_5 9 rfl) ⟨(Nat.le_of_ble_eq_true rfl), (Nat.le_of_ble_eq_true rfl)⟩ ⟨by show (_ : Nat) ≤ 900 + 2 * D; omega, by show (_ : Nat) ≤ 7000 + 4 * D; omega⟩ ?_
              rintro v9 lay9 C9 ⟨rfl, rfl, rfl⟩
              refine v_iload X (xdec_at tL_goes_5 10 rfl) rfl ?_
              refine v_icmp_ne (tgt := 388) X (xdec_at tL_goes_5 11 rfl) (by decide) (fun h9 => absurd ((m5 h21).2.1 (Or.inl e23)) h9) (fun _ => ?_)
              refine v_iconst (v := 1) X (xdec_at tL_goes_5 12 rfl) (by decide) ?_
              refine v_goto (tgt := 389) X (xdec_at tL_goes_5 13 rfl) (by decide) ?_
              refine v_istore (lv' := [some (.ref (l1 (0, 0))), some (.ref (l1 (500, 0))), some (.ref (l1 (300, 0))), some (.int z), some (.int (nI (gD z))), some (.long (sm (μ.2 7) (nP μ))), none, some (.long (sm (μ.2 8) (nP μ))), none, some (.ref (l1 (301, 0))), some (.ref (l1 (302, 0))), some (.int (nI (cnt P (nT μ)))), some (.int (nI (cnt P (t + 1)))), some (.int 1), some (.int (nI t)), some (.int 0), some (.int (nI n2)), some (.int (ν.1 24 t))]) X (xdec_at tL_goes_5 15 rfl) (by decide) rfl ?_
              refine v_iinc (v := (nI (t + 1))) (lv' := [some (.ref (l1 (0, 0))), some (.ref (l1 (500, 0))), some (.ref (l1 (300, 0))), some (.int z), some (.int (nI (gD z))), some (.long (sm (μ.2 7) (nP μ))), none, some (.long (sm (μ.2 8) (nP μ))), none, some (.ref (l1 (301, 0))), some (.ref (l1 (302, 0))), some (.int (nI (cnt P (nT μ)))), some (.int (nI (cnt P (t + 1)))), some (.int 1), some (.int (nI (t + 1))), some (.int 0), some (.int (nI n2)), some (.int (ν.1 24 t))]) X (xdec_at tL_goes_5 16 rfl) rfl (nI_1 _) (by decide) rfl ?_
              refine v_goto (tgt := 152) X (xdec_at tL_goes_5 17 rfl) (by decide) ?_
              exact v_le (lv' := [some (.ref (l1 (0, 0))), some (.ref (l1 (500, 0))), some (.ref (l1 (300, 0))), some (.int z), some (.int (nI (gD z))), some (.long (sm (μ.2 7) (nP μ))), none, some (.long (sm (μ.2 8) (nP μ))), none, some (.ref (l1 (301, 0))), some (.ref (l1 (302, 0))), some (.int (nI (cnt P (nT μ)))), some (.int (nI (cnt P (t + 1)))), some (.int 1), some (.int (nI (t + 1))), none, none, none]) ⟨rfl, rfl, rfl, rfl, rfl, rfl, rfl, rfl, rfl, rfl, rfl, rfl, rfl, trivial⟩ (v_widen (by show (_ : Nat) ≤ 250 + 2 * D + 16 * (t + 1); omega) (by show (_ : Nat) ≤ 1600 + 4 * D + 96 * (t + 1); omega) K)
          · have hcS : cnt P (t + 1) = cnt P t := by rw [cnt, if_neg (by rw [hP]; exact fun q9 => absurd ((of_decide_eq_true q9).1.symm.trans e23) (by decide)), Nat.add_zero]
            refine v_iload X (xdec_at tL_goes_2 8 rfl) rfl ?_
            refine v_aload_n X (xdec_at tL_goes_2 9 rfl) rfl rfl ?_
            refine v_iconst (v := 2) X (xdec_at tL_goes_2 10 rfl) (by decide) ?_
            refine x_iald (v := nI (nT μ)) X (300, 0) W2_gd (vp_in_nI (n := 2) (N := 3) (by decide) (by decide)) rfl hf.2.2 (xdec_at tL_goes_2 11 rfl) ?_
            refine v_icmp_ge (tgt := 397) X (xdec_at tL_goes_2 12 rfl) (by decide) (fun h9 => absurd h9 (nI_ge ht (by omega))) (fun _ => ?_)
            refine v_iload X (xdec_at tL_goes_2 13 rfl) rfl ?_
            refine v_if_eq (tgt := 397) X (xdec_at tL_goes_2 14 rfl) (by decide) (fun h9 => absurd h9 (by decide)) (fun _ => ?_)
            refine v_aload_n X (xdec_at tL_goes_2 15 rfl) rfl rfl ?_
            refine v_iload X (xdec_at tL_goes_2 16 rfl) rfl ?_
            refine v_iconst (v := 0) X (xdec_at tL_goes_2 17 rfl) (by decide) ?_
            refine v_wN X hE myX4_ofThing [.int (nI t), .int 0] [] (qy_ofThing (t := t) (w := 0) hl0 hJ.I hJ.K hTn (by decide)) (xw_at tW_5 30 rfl) (0, 0) cX_X rfl rfl rfl rfl (by rfl) (Nat.le_of_ble_eq_true rfl) (xdec_at tL_goes_2 18 rfl) ⟨(Nat.le_of_ble_eq_true rfl), (Nat.le_of_ble_eq_true rfl)⟩ ⟨by show (_ : Nat) ≤ 900 + 2 * D; omega, by show (_ : Nat) ≤ 7000 + 4 * D; omega⟩ ?_
            rintro v9 lay9 C9 ⟨rfl, rfl, rfl⟩
            refine v_l2i (v := ν.1 23 t) X (xdec_at tL_goes_2 19 rfl) (Int32.toInt32_toInt64 _) ?_
            refine v_st (st' := [.int 1]) (by rw [e23] <;> rfl) ?_
            refine v_istore (lv' := [some (.ref (l1 (0, 0))), some (.ref (l1 (500, 0))), some (.ref (l1 (300, 0))), some (.int z), some (.int (nI (gD z))), some (.long (sm (μ.2 7) (nP μ))), none, some (.long (sm (μ.2 8) (nP μ))), none, some (.ref (l1 (301, 0))), some (.ref (l1 (302, 0))), some (.int (nI (cnt P (nT μ)))), some (.int (nI (cnt P t))), some (.int 1), some (.int (nI t)), some (.int 1), none, none]) X (xdec_at tL_goes_2 20 rfl) (by decide) rfl ?_
            refine v_aload_n X (xdec_at tL_goes_2 21 rfl) rfl rfl ?_
            refine v_iload X (xdec_at tL_goes_2 22 rfl) rfl ?_
            refine v_bipush (v := 6) X (xdec_at tL_goes_2 23 rfl) (by decide) ?_
            refine v_wN X hE myX4_ofThing [.int (nI t), .int 6] [] (qy_ofThing (t := t) (w := 6) hl0 hJ.I hJ.K hTn (by decide)) (xw_at tW_5 30 rfl) (0, 0) cX_X rfl rfl rfl rfl (by rfl) (Nat.le_of_ble_eq_true rfl) (xdec_at tL_goes_2 24 rfl) ⟨(Nat.le_of_ble_eq_true rfl), (Nat.le_of_ble_eq_true rfl)⟩ ⟨by show (_ : Nat) ≤ 900 + 2 * D; omega, by show (_ : Nat) ≤ 7000 + 4 * D; omega⟩ ?_
            rintro v9 lay9 C9 ⟨rfl, rfl, rfl⟩
            refine v_l2i (v := ν.1 35 t) X (xdec_at tL_goes_2 25 rfl) (Int32.toInt32_toInt64 _) ?_
            refine v_st (st' := [.int (nI n2)]) (by rw [m2] <;> rfl) ?_
            refine v_istore (lv' := [some (.ref (l1 (0, 0))), some (.ref (l1 (500, 0))), some (.ref (l1 (300, 0))), some (.int z), some (.int (nI (gD z))), some (.long (sm (μ.2 7) (nP μ))), none, some (.long (sm (μ.2 8) (nP μ))), none, some (.ref (l1 (301, 0))), some (.ref (l1 (302, 0))), some (.int (nI (cnt P (nT μ)))), some (.int (nI (cnt P t))), some (.int 1), some (.int (nI t)), some (.int 1), some (.int (nI n2)), none]) X (xdec_at tL_goes_2 26 rfl) (by decide) rfl ?_
            refine v_aload_n X (xdec_at tL_goes_2 27 rfl) rfl rfl ?_
            refine v_iload X (xdec_at tL_goes_2 28 rfl) rfl ?_
            refine v_iconst (v := 1) X (xdec_at tL_goes_2 29 rfl) (by decide) ?_
            refine v_wN X hE myX4_ofThing [.int (nI t), .int 1] [] (qy_ofThing (t := t) (w := 1) hl0 hJ.I hJ.K hTn (by decide)) (xw_at tW_5 30 rfl) (0, 0) cX_X rfl rfl rfl rfl (by rfl) (Nat.le_of_ble_eq_true rfl) (xdec_at tL_goes_2 30 rfl) ⟨(Nat.le_of_ble_eq_true rfl), (Nat.le_of_ble_eq_true rfl)⟩ ⟨by show (_ : Nat) ≤ 900 + 2 * D; omega, by show (_ : Nat) ≤ 7000 + 4 * D; omega⟩ ?_
            rintro v9 lay9 C9 ⟨rfl, rfl, rfl⟩
            refine v_l2i (v := ν.1 24 t) X (xdec_at tL_goes_2 31 rfl) (Int32.toInt32_toInt64 _) ?_
            refine v_istore (lv' := [some (.ref (l1 (0, 0))), some (.ref (l1 (500, 0))), some (.ref (l1 (300, 0))), some (.int z), some (.int (nI (gD z))), some (.long (sm (μ.2 7) (nP μ))), none, some (.long (sm (μ.2 8) (nP μ))), none, some (.ref (l1 (301, 0))), some (.ref (l1 (302, 0))), some (.int (nI (cnt P (nT μ)))), some (.int (nI (cnt P t))), some (.int 1), some (.int (nI t)), some (.int 1), some (.int (nI n2)), some (.int (ν.1 24 t))]) X (xdec_at tL_goes_2 32 rfl) (by decide) rfl ?_
            refine v_iload X (xdec_at tL_goes_2 33 rfl) rfl ?_
            refine v_iload X (xdec_at tL_goes_2 34 rfl) rfl ?_
            refine v_iconst (v := 2) X (xdec_at tL_goes_2 35 rfl) (by decide) ?_
            refine v_icmp_ne (tgt := 217) X (xdec_at tL_goes_2 36 rfl) (by decide) (fun _ => ?_) (fun h9 => absurd h9 (by decide))
            refine v_iconst (v := 0) X (xdec_at tL_goes_3 4 rfl) (by decide) ?_
            refine v_iadd X (xdec_at tL_goes_3 5 rfl) ?_
            refine v_st (st' := [.int (nI (cnt P (t + 1)))]) (by rw [hcS, Int32.add_zero] <;> rfl) ?_
            refine v_istore (lv' := [some (.ref (l1 (0, 0))), some (.ref (l1 (500, 0))), some (.ref (l1 (300, 0))), some (.int z), some (.int (nI (gD z))), some (.long (sm (μ.2 7) (nP μ))), none, some (.long (sm (μ.2 8) (nP μ))), none, some (.ref (l1 (301, 0))), some (.ref (l1 (302, 0))), some (.int (nI (cnt P (nT μ)))), some (.int (nI (cnt P (t + 1)))), some (.int 1), some (.int (nI t)), some (.int 1), some (.int (nI n2)), some (.int (ν.1 24 t))]) X (xdec_at tL_goes_3 6 rfl) (by decide) rfl ?_
            refine v_iload X (xdec_at tL_goes_3 7 rfl) rfl ?_
            refine v_aload X (xdec_at tL_goes_3 8 rfl) rfl ?_
            refine v_iload X (xdec_at tL_goes_3 9 rfl) rfl ?_
            refine x_iald (v := nI n1) X (302, 0) W2_g2 (vp_in_nI (n := t) (N := 40) (by omega) (by decide)) rfl ((wF_at ht (by omega)).trans p2) (xdec_at tL_goes_3 10 rfl) ?_
            refine v_icmp_lt (tgt := 388) X (xdec_at tL_goes_3 11 rfl) (by decide) (fun h9 => absurd h9 (Int32.not_lt.mpr (nI_le hh (by omega)))) (fun _ => ?_)
            refine v_iload X (xdec_at tL_goes_3 12 rfl) rfl ?_
            refine v_aload X (xdec_at tL_goes_3 13 rfl) rfl ?_
            refine v_iload X (xdec_at tL_goes_3 14 rfl) rfl ?_
            refine x_iald (v := nI n1) X (302, 0) W2_g2 (vp_in_nI (n := t) (N := 40) (by omega) (by decide)) rfl ((wF_at ht (by omega)).trans p2) (xdec_at tL_goes_3 15 rfl) ?_
            refine v_iload X (xdec_at tL_goes_3 16 rfl) rfl ?_
            refine v_iadd X (xdec_at tL_goes_3 17 rfl) ?_
            refine v_st (st' := [.int (nI (n1 + gD z)), .int (nI n2)]) (by rw [nI_add] <;> rfl) ?_
            refine v_icmp_gt (tgt := 388) X (xdec_at tL_goes_3 18 rfl) (by decide) (fun h9 => absurd h9 (Int32.not_lt.mpr (nI_le hh2 (by omega)))) (fun _ => ?_)
            refine v_aload X (xdec_at tL_goes_3 19 rfl) rfl ?_
            refine v_iload X (xdec_at tL_goes_3 20 rfl) rfl ?_
            refine x_iald (v := μ.1 23 t) X (301, 0) W2_g1 (vp_in_nI (n := t) (N := 40) (by omega) (by decide)) rfl (wF_at ht (by omega)) (xdec_at tL_goes_3 21 rfl) ?_
            refine v_iconst (v := 2) X (xdec_at tL_goes_3 22 rfl) (by decide) ?_
            refine v_icmp_ge (tgt := 262) X (xdec_at tL_goes_3 23 rfl) (by decide) (fun h9 => absurd h9 hwn.2) (fun _ => ?_)
            refine v_iload X (xdec_at tL_goes_3 24 rfl) rfl ?_
            refine v_iconst (v := 3) X (xdec_at tL_goes_3 25 rfl) (by decide) ?_
            refine v_icmp_ge (tgt := 388) X (xdec_at tL_goes_3 26 rfl) (by decide) (fun h9 => absurd h9 (by decide)) (fun _ => ?_)
            refine v_goto (tgt := 282) X (xdec_at tL_goes_3 27 rfl) (by decide) ?_
            refine v_iload X (xdec_at tL_goes_3 38 rfl) rfl ?_
            refine v_iconst (v := 1) X (xdec_at tL_goes_3 39 rfl) (by decide) ?_
            refine v_icmp_ne (tgt := 292) X (xdec_at tL_goes_4 0 rfl) (by decide) (fun h9 => absurd h9 (by decide)) (fun _ => ?_)
            refine v_iconst (v := 1) X (xdec_at tL_goes_4 1 rfl) (by decide) ?_
            refine v_goto (tgt := 293) X (xdec_at tL_goes_4 2 rfl) (by decide) ?_
            refine v_aload_n X (xdec_at tL_goes_4 4 rfl) rfl rfl ?_
            refine v_iload X (xdec_at tL_goes_4 5 rfl) rfl ?_
            refine v_iconst (v := 2) X (xdec_at tL_goes_4 6 rfl) (by decide) ?_
            refine v_wN X hE myX4_ofThing [.int (nI t), .int 2] [.int 1] (qy_ofThing (t := t) (w := 2) hl0 hJ.I hJ.K hTn (by decide)) (xw_at tW_5 30 rfl) (0, 0) cX_X rfl rfl rfl rfl (by rfl) (Nat.le_of_ble_eq_true rfl) (xdec_at tL_goes_4 7 rfl) ⟨(Nat.le_of_ble_eq_true rfl), (Nat.le_of_ble_eq_true rfl)⟩ ⟨by show (_ : Nat) ≤ 900 + 2 * D; omega, by show (_ : Nat) ≤ 7000 + 4 * D; omega⟩ ?_
            rintro v9 lay9 C9 ⟨rfl, rfl, rfl⟩
            refine v_lconst (v := 0) X (xdec_at tL_goes_4 8 rfl) (by decide) ?_
            refine v_lcmp X (xdec_at tL_goes_4 9 rfl) ?_
            refine v_if_le (tgt := 309) X (xdec_at tL_goes_4 10 rfl) (by decide) (fun h9 => absurd h9 (lcgt (hQn.2.1 e23))) (fun _ => ?_)
            refine v_iconst (v := 1) X (xdec_at tL_goes_4 11 rfl) (by decide) ?_
            refine v_goto (tgt := 310) X (xdec_at tL_goes_4 12 rfl) (by decide) ?_
            refine v_icmp_ne (tgt := 388) X (xdec_at tL_goes_4 14 rfl) (by decide) (fun h9 => absurd h9 (by decide)) (fun _ => ?_)
            refine v_iload X (xdec_at tL_goes_4 15 rfl) rfl ?_
            refine v_iconst (v := 2) X (xdec_at tL_goes_4 16 rfl) (by decide) ?_
            refine v_icmp_ne (tgt := 333) X (xdec_at tL_goes_4 17 rfl) (by decide) (fun _ => ?_) (fun h9 => absurd h9 (by decide))
            refine v_iload X (xdec_at tL_goes_4 26 rfl) rfl ?_
            refine v_if_ne (tgt := 352) X (xdec_at tL_goes_4 27 rfl) (by decide) (fun _ => ?_) (fun h9 => absurd h9 (by decide))
            refine v_iload X (xdec_at tL_goes_4 36 rfl) rfl ?_
            refine v_if_eq (tgt := 384) X (xdec_at tL_goes_4 37 rfl) (by decide) (fun c_354 => ?_) (fun c_354 => ?_)
            · refine v_iconst (v := 1) X (xdec_at tL_goes_5 12 rfl) (by decide) ?_
              refine v_goto (tgt := 389) X (xdec_at tL_goes_5 13 rfl) (by decide) ?_
              refine v_istore (lv' := [some (.ref (l1 (0, 0))), some (.ref (l1 (500, 0))), some (.ref (l1 (300, 0))), some (.int z), some (.int (nI (gD z))), some (.long (sm (μ.2 7) (nP μ))), none, some (.long (sm (μ.2 8) (nP μ))), none, some (.ref (l1 (301, 0))), some (.ref (l1 (302, 0))), some (.int (nI (cnt P (nT μ)))), some (.int (nI (cnt P (t + 1)))), some (.int 1), some (.int (nI t)), some (.int 1), some (.int (nI n2)), some (.int (ν.1 24 t))]) X (xdec_at tL_goes_5 15 rfl) (by decide) rfl ?_
              refine v_iinc (v := (nI (t + 1))) (lv' := [some (.ref (l1 (0, 0))), some (.ref (l1 (500, 0))), some (.ref (l1 (300, 0))), some (.int z), some (.int (nI (gD z))), some (.long (sm (μ.2 7) (nP μ))), none, some (.long (sm (μ.2 8) (nP μ))), none, some (.ref (l1 (301, 0))), some (.ref (l1 (302, 0))), some (.int (nI (cnt P (nT μ)))), some (.int (nI (cnt P (t + 1)))), some (.int 1), some (.int (nI (t + 1))), some (.int 1), some (.int (nI n2)), some (.int (ν.1 24 t))]) X (xdec_at tL_goes_5 16 rfl) rfl (nI_1 _) (by decide) rfl ?_
              refine v_goto (tgt := 152) X (xdec_at tL_goes_5 17 rfl) (by decide) ?_
              exact v_le (lv' := [some (.ref (l1 (0, 0))), some (.ref (l1 (500, 0))), some (.ref (l1 (300, 0))), some (.int z), some (.int (nI (gD z))), some (.long (sm (μ.2 7) (nP μ))), none, some (.long (sm (μ.2 8) (nP μ))), none, some (.ref (l1 (301, 0))), some (.ref (l1 (302, 0))), some (.int (nI (cnt P (nT μ)))), some (.int (nI (cnt P (t + 1)))), some (.int 1), some (.int (nI (t + 1))), none, none, none]) ⟨rfl, rfl, rfl, rfl, rfl, rfl, rfl, rfl, rfl, rfl, rfl, rfl, rfl, trivial⟩ (v_widen (by show (_ : Nat) ≤ 250 + 2 * D + 16 * (t + 1); omega) (by show (_ : Nat) ≤ 1600 + 4 * D + 96 * (t + 1); omega) K)
            · have hn0 : n2 ≠ 0 := fun q9 => c_354 (by rw [q9]; rfl)
              have h21 : ¬ ν.1 21 t = 0 := fun q9 => hn0 (m4 q9)
              refine v_iload X (xdec_at tL_goes_4 38 rfl) rfl ?_
              refine v_iconst (v := 1) X (xdec_at tL_goes_4 39 rfl) (by decide) ?_
              refine v_icmp_eq (tgt := 384) X (xdec_at tL_goes_5 0 rfl) (by decide) (fun _ => ?_) (fun h9 => absurd h9 (by decide))
              refine v_iconst (v := 1) X (xdec_at tL_goes_5 12 rfl) (by decide) ?_
              refine v_goto (tgt := 389) X (xdec_at tL_goes_5 13 rfl) (by decide) ?_
              refine v_istore (lv' := [some (.ref (l1 (0, 0))), some (.ref (l1 (500, 0))), some (.ref (l1 (300, 0))), some (.int z), some (.int (nI (gD z))), some (.long (sm (μ.2 7) (nP μ))), none, some (.long (sm (μ.2 8) (nP μ))), none, some (.ref (l1 (301, 0))), some (.ref (l1 (302, 0))), some (.int (nI (cnt P (nT μ)))), some (.int (nI (cnt P (t + 1)))), some (.int 1), some (.int (nI t)), some (.int 1), some (.int (nI n2)), some (.int (ν.1 24 t))]) X (xdec_at tL_goes_5 15 rfl) (by decide) rfl ?_
              refine v_iinc (v := (nI (t + 1))) (lv' := [some (.ref (l1 (0, 0))), some (.ref (l1 (500, 0))), some (.ref (l1 (300, 0))), some (.int z), some (.int (nI (gD z))), some (.long (sm (μ.2 7) (nP μ))), none, some (.long (sm (μ.2 8) (nP μ))), none, some (.ref (l1 (301, 0))), some (.ref (l1 (302, 0))), some (.int (nI (cnt P (nT μ)))), some (.int (nI (cnt P (t + 1)))), some (.int 1), some (.int (nI (t + 1))), some (.int 1), some (.int (nI n2)), some (.int (ν.1 24 t))]) X (xdec_at tL_goes_5 16 rfl) rfl (nI_1 _) (by decide) rfl ?_
              refine v_goto (tgt := 152) X (xdec_at tL_goes_5 17 rfl) (by decide) ?_
              exact v_le (lv' := [some (.ref (l1 (0, 0))), some (.ref (l1 (500, 0))), some (.ref (l1 (300, 0))), some (.int z), some (.int (nI (gD z))), some (.long (sm (μ.2 7) (nP μ))), none, some (.long (sm (μ.2 8) (nP μ))), none, some (.ref (l1 (301, 0))), some (.ref (l1 (302, 0))), some (.int (nI (cnt P (nT μ)))), some (.int (nI (cnt P (t + 1)))), some (.int 1), some (.int (nI (t + 1))), none, none, none]) ⟨rfl, rfl, rfl, rfl, rfl, rfl, rfl, rfl, rfl, rfl, rfl, rfl, rfl, trivial⟩ (v_widen (by show (_ : Nat) ≤ 250 + 2 * D + 16 * (t + 1); omega) (by show (_ : Nat) ≤ 1600 + 4 * D + 96 * (t + 1); omega) K)
          · have hcS : cnt P (t + 1) = cnt P t + 1 := by rw [cnt, if_pos (by rw [hP]; exact decide_eq_true ⟨e23, hwn.1⟩)]
            refine v_iload X (xdec_at tL_goes_2 8 rfl) rfl ?_
            refine v_aload_n X (xdec_at tL_goes_2 9 rfl) rfl rfl ?_
            refine v_iconst (v := 2) X (xdec_at tL_goes_2 10 rfl) (by decide) ?_
            refine x_iald (v := nI (nT μ)) X (300, 0) W2_gd (vp_in_nI (n := 2) (N := 3) (by decide) (by decide)) rfl hf.2.2 (xdec_at tL_goes_2 11 rfl) ?_
            refine v_icmp_ge (tgt := 397) X (xdec_at tL_goes_2 12 rfl) (by decide) (fun h9 => absurd h9 (nI_ge ht (by omega))) (fun _ => ?_)
            refine v_iload X (xdec_at tL_goes_2 13 rfl) rfl ?_
            refine v_if_eq (tgt := 397) X (xdec_at tL_goes_2 14 rfl) (by decide) (fun h9 => absurd h9 (by decide)) (fun _ => ?_)
            refine v_aload_n X (xdec_at tL_goes_2 15 rfl) rfl rfl ?_
            refine v_iload X (xdec_at tL_goes_2 16 rfl) rfl ?_
            refine v_iconst (v := 0) X (xdec_at tL_goes_2 17 rfl) (by decide) ?_
            refine v_wN X hE myX4_ofThing [.int (nI t), .int 0] [] (qy_ofThing (t := t) (w := 0) hl0 hJ.I hJ.K hTn (by decide)) (xw_at tW_5 30 rfl) (0, 0) cX_X rfl rfl rfl rfl (by rfl) (Nat.le_of_ble_eq_true rfl) (xdec_at tL_goes_2 18 rfl) ⟨(Nat.le_of_ble_eq_true rfl), (Nat.le_of_ble_eq_true rfl)⟩ ⟨by show (_ : Nat) ≤ 900 + 2 * D; omega, by show (_ : Nat) ≤ 7000 + 4 * D; omega⟩ ?_
            rintro v9 lay9 C9 ⟨rfl, rfl, rfl⟩
            refine v_l2i (v := ν.1 23 t) X (xdec_at tL_goes_2 19 rfl) (Int32.toInt32_toInt64 _) ?_
            refine v_st (st' := [.int 2]) (by rw [e23] <;> rfl) ?_
            refine v_istore (lv' := [some (.ref (l1 (0, 0))), some (.ref (l1 (500, 0))), some (.ref (l1 (300, 0))), some (.int z), some (.int (nI (gD z))), some (.long (sm (μ.2 7) (nP μ))), none, some (.long (sm (μ.2 8) (nP μ))), none, some (.ref (l1 (301, 0))), some (.ref (l1 (302, 0))), some (.int (nI (cnt P (nT μ)))), some (.int (nI (cnt P t))), some (.int 1), some (.int (nI t)), some (.int 2), none, none]) X (xdec_at tL_goes_2 20 rfl) (by decide) rfl ?_
            refine v_aload_n X (xdec_at tL_goes_2 21 rfl) rfl rfl ?_
            refine v_iload X (xdec_at tL_goes_2 22 rfl) rfl ?_
            refine v_bipush (v := 6) X (xdec_at tL_goes_2 23 rfl) (by decide) ?_
            refine v_wN X hE myX4_ofThing [.int (nI t), .int 6] [] (qy_ofThing (t := t) (w := 6) hl0 hJ.I hJ.K hTn (by decide)) (xw_at tW_5 30 rfl) (0, 0) cX_X rfl rfl rfl rfl (by rfl) (Nat.le_of_ble_eq_true rfl) (xdec_at tL_goes_2 24 rfl) ⟨(Nat.le_of_ble_eq_true rfl), (Nat.le_of_ble_eq_true rfl)⟩ ⟨by show (_ : Nat) ≤ 900 + 2 * D; omega, by show (_ : Nat) ≤ 7000 + 4 * D; omega⟩ ?_
            rintro v9 lay9 C9 ⟨rfl, rfl, rfl⟩
            refine v_l2i (v := ν.1 35 t) X (xdec_at tL_goes_2 25 rfl) (Int32.toInt32_toInt64 _) ?_
            refine v_st (st' := [.int (nI n2)]) (by rw [m2] <;> rfl) ?_
            refine v_istore (lv' := [some (.ref (l1 (0, 0))), some (.ref (l1 (500, 0))), some (.ref (l1 (300, 0))), some (.int z), some (.int (nI (gD z))), some (.long (sm (μ.2 7) (nP μ))), none, some (.long (sm (μ.2 8) (nP μ))), none, some (.ref (l1 (301, 0))), some (.ref (l1 (302, 0))), some (.int (nI (cnt P (nT μ)))), some (.int (nI (cnt P t))), some (.int 1), some (.int (nI t)), some (.int 2), some (.int (nI n2)), none]) X (xdec_at tL_goes_2 26 rfl) (by decide) rfl ?_
            refine v_aload_n X (xdec_at tL_goes_2 27 rfl) rfl rfl ?_
            refine v_iload X (xdec_at tL_goes_2 28 rfl) rfl ?_
            refine v_iconst (v := 1) X (xdec_at tL_goes_2 29 rfl) (by decide) ?_
            refine v_wN X hE myX4_ofThing [.int (nI t), .int 1] [] (qy_ofThing (t := t) (w := 1) hl0 hJ.I hJ.K hTn (by decide)) (xw_at tW_5 30 rfl) (0, 0) cX_X rfl rfl rfl rfl (by rfl) (Nat.le_of_ble_eq_true rfl) (xdec_at tL_goes_2 30 rfl) ⟨(Nat.le_of_ble_eq_true rfl), (Nat.le_of_ble_eq_true rfl)⟩ ⟨by show (_ : Nat) ≤ 900 + 2 * D; omega, by show (_ : Nat) ≤ 7000 + 4 * D; omega⟩ ?_
            rintro v9 lay9 C9 ⟨rfl, rfl, rfl⟩
            refine v_l2i (v := ν.1 24 t) X (xdec_at tL_goes_2 31 rfl) (Int32.toInt32_toInt64 _) ?_
            refine v_istore (lv' := [some (.ref (l1 (0, 0))), some (.ref (l1 (500, 0))), some (.ref (l1 (300, 0))), some (.int z), some (.int (nI (gD z))), some (.long (sm (μ.2 7) (nP μ))), none, some (.long (sm (μ.2 8) (nP μ))), none, some (.ref (l1 (301, 0))), some (.ref (l1 (302, 0))), some (.int (nI (cnt P (nT μ)))), some (.int (nI (cnt P t))), some (.int 1), some (.int (nI t)), some (.int 2), some (.int (nI n2)), some (.int (ν.1 24 t))]) X (xdec_at tL_goes_2 32 rfl) (by decide) rfl ?_
            refine v_iload X (xdec_at tL_goes_2 33 rfl) rfl ?_
            refine v_iload X (xdec_at tL_goes_2 34 rfl) rfl ?_
            refine v_iconst (v := 2) X (xdec_at tL_goes_2 35 rfl) (by decide) ?_
            refine v_icmp_ne (tgt := 217) X (xdec_at tL_goes_2 36 rfl) (by decide) (fun h9 => absurd h9 (by decide)) (fun _ => ?_)
            refine v_aload X (xdec_at tL_goes_2 37 rfl) rfl ?_
            refine v_iload X (xdec_at tL_goes_2 38 rfl) rfl ?_
            refine x_iald (v := μ.1 23 t) X (301, 0) W2_g1 (vp_in_nI (n := t) (N := 40) (by omega) (by decide)) rfl (wF_at ht (by omega)) (xdec_at tL_goes_2 39 rfl) ?_
            refine v_iconst (v := 2) X (xdec_at tL_goes_3 0 rfl) (by decide) ?_
            refine v_icmp_eq (tgt := 217) X (xdec_at tL_goes_3 1 rfl) (by decide) (fun h9 => absurd h9 hwn.1) (fun _ => ?_)
            refine v_iconst (v := 1) X (xdec_at tL_goes_3 2 rfl) (by decide) ?_
            refine v_goto (tgt := 218) X (xdec_at tL_goes_3 3 rfl) (by decide) ?_
            refine v_iadd X (xdec_at tL_goes_3 5 rfl) ?_
            refine v_st (st' := [.int (nI (cnt P (t + 1)))]) (by rw [hcS, nI_1] <;> rfl) ?_
            refine v_istore (lv' := [some (.ref (l1 (0, 0))), some (.ref (l1 (500, 0))), some (.ref (l1 (300, 0))), some (.int z), some (.int (nI (gD z))), some (.long (sm (μ.2 7) (nP μ))), none, some (.long (sm (μ.2 8) (nP μ))), none, some (.ref (l1 (301, 0))), some (.ref (l1 (302, 0))), some (.int (nI (cnt P (nT μ)))), some (.int (nI (cnt P (t + 1)))), some (.int 1), some (.int (nI t)), some (.int 2), some (.int (nI n2)), some (.int (ν.1 24 t))]) X (xdec_at tL_goes_3 6 rfl) (by decide) rfl ?_
            refine v_iload X (xdec_at tL_goes_3 7 rfl) rfl ?_
            refine v_aload X (xdec_at tL_goes_3 8 rfl) rfl ?_
            refine v_iload X (xdec_at tL_goes_3 9 rfl) rfl ?_
            refine x_iald (v := nI n1) X (302, 0) W2_g2 (vp_in_nI (n := t) (N := 40) (by omega) (by decide)) rfl ((wF_at ht (by omega)).trans p2) (xdec_at tL_goes_3 10 rfl) ?_
            refine v_icmp_lt (tgt := 388) X (xdec_at tL_goes_3 11 rfl) (by decide) (fun h9 => absurd h9 (Int32.not_lt.mpr (nI_le hh (by omega)))) (fun _ => ?_)
            refine v_iload X (xdec_at tL_goes_3 12 rfl) rfl ?_
            refine v_aload X (xdec_at tL_goes_3 13 rfl) rfl ?_
            refine v_iload X (xdec_at tL_goes_3 14 rfl) rfl ?_
            refine x_iald (v := nI n1) X (302, 0) W2_g2 (vp_in_nI (n := t) (N := 40) (by omega) (by decide)) rfl ((wF_at ht (by omega)).trans p2) (xdec_at tL_goes_3 15 rfl) ?_
            refine v_iload X (xdec_at tL_goes_3 16 rfl) rfl ?_
            refine v_iadd X (xdec_at tL_goes_3 17 rfl) ?_
            refine v_st (st' := [.int (nI (n1 + gD z)), .int (nI n2)]) (by rw [nI_add] <;> rfl) ?_
            refine v_icmp_gt (tgt := 388) X (xdec_at tL_goes_3 18 rfl) (by decide) (fun h9 => absurd h9 (Int32.not_lt.mpr (nI_le hh2 (by omega)))) (fun _ => ?_)
            refine v_aload X (xdec_at tL_goes_3 19 rfl) rfl ?_
            refine v_iload X (xdec_at tL_goes_3 20 rfl) rfl ?_
            refine x_iald (v := μ.1 23 t) X (301, 0) W2_g1 (vp_in_nI (n := t) (N := 40) (by omega) (by decide)) rfl (wF_at ht (by omega)) (xdec_at tL_goes_3 21 rfl) ?_
            refine v_iconst (v := 2) X (xdec_at tL_goes_3 22 rfl) (by decide) ?_
            refine v_icmp_ge (tgt := 262) X (xdec_at tL_goes_3 23 rfl) (by decide) (fun h9 => absurd h9 hwn.2) (fun _ => ?_)
            refine v_iload X (xdec_at tL_goes_3 24 rfl) rfl ?_
            refine v_iconst (v := 3) X (xdec_at tL_goes_3 25 rfl) (by decide) ?_
            refine v_icmp_ge (tgt := 388) X (xdec_at tL_goes_3 26 rfl) (by decide) (fun h9 => absurd h9 (by decide)) (fun _ => ?_)
            refine v_goto (tgt := 282) X (xdec_at tL_goes_3 27 rfl) (by decide) ?_
            refine v_iload X (xdec_at tL_goes_3 38 rfl) rfl ?_
            refine v_iconst (v := 1) X (xdec_at tL_goes_3 39 rfl) (by decide) ?_
            refine v_icmp_ne (tgt := 292) X (xdec_at tL_goes_4 0 rfl) (by decide) (fun _ => ?_) (fun h9 => absurd h9 (by decide))
            refine v_iconst (v := 0) X (xdec_at tL_goes_4 3 rfl) (by decide) ?_
            refine v_aload_n X (xdec_at tL_goes_4 4 rfl) rfl rfl ?_
            refine v_iload X (xdec_at tL_goes_4 5 rfl) rfl ?_
            refine v_iconst (v := 2) X (xdec_at tL_goes_4 6 rfl) (by decide) ?_
            refine v_wN X hE myX4_ofThing [.int (nI t), .int 2] [.int 0] (qy_ofThing (t := t) (w := 2) hl0 hJ.I hJ.K hTn (by decide)) (xw_at tW_5 30 rfl) (0, 0) cX_X rfl rfl rfl rfl (by rfl) (Nat.le_of_ble_eq_true rfl) (xdec_at tL_goes_4 7 rfl) ⟨(Nat.le_of_ble_eq_true rfl), (Nat.le_of_ble_eq_true rfl)⟩ ⟨by show (_ : Nat) ≤ 900 + 2 * D; omega, by show (_ : Nat) ≤ 7000 + 4 * D; omega⟩ ?_
            rintro v9 lay9 C9 ⟨rfl, rfl, rfl⟩
            refine v_lconst (v := 0) X (xdec_at tL_goes_4 8 rfl) (by decide) ?_
            refine v_lcmp X (xdec_at tL_goes_4 9 rfl) ?_
            refine v_if_le (tgt := 309) X (xdec_at tL_goes_4 10 rfl) (by decide) (fun _ => ?_) (fun h9 => absurd (lc0 (hQn.2.2.1 (by rw [e23]; decide))) h9)
            refine v_iconst (v := 0) X (xdec_at tL_goes_4 13 rfl) (by decide) ?_
            refine v_icmp_ne (tgt := 388) X (xdec_at tL_goes_4 14 rfl) (by decide) (fun h9 => absurd h9 (by decide)) (fun _ => ?_)
            refine v_iload X (xdec_at tL_goes_4 15 rfl) rfl ?_
            refine v_iconst (v := 2) X (xdec_at tL_goes_4 16 rfl) (by decide) ?_
            refine v_icmp_ne (tgt := 333) X (xdec_at tL_goes_4 17 rfl) (by decide) (fun h9 => absurd h9 (by decide)) (fun _ => ?_)
            refine v_iload X (xdec_at tL_goes_4 18 rfl) rfl ?_
            refine v_i2l X (xdec_at tL_goes_4 19 rfl) rfl ?_
            refine v_aload_n X (xdec_at tL_goes_4 20 rfl) rfl rfl ?_
            refine v_iload X (xdec_at tL_goes_4 21 rfl) rfl ?_
            refine v_iconst (v := 3) X (xdec_at tL_goes_4 22 rfl) (by decide) ?_
            refine v_wN X hE myX4_ofThing [.int (nI t), .int 3] [.long ((ν.1 24 t)).toInt64] (qy_ofThing (t := t) (w := 3) hl0 hJ.I hJ.K hTn (by decide)) (xw_at tW_5 30 rfl) (0, 0) cX_X rfl rfl rfl rfl (by rfl) (Nat.le_of_ble_eq_true rfl) (xdec_at tL_goes_4 23 rfl) ⟨(Nat.le_of_ble_eq_true rfl), (Nat.le_of_ble_eq_true rfl)⟩ ⟨by show (_ : Nat) ≤ 900 + 2 * D; omega, by show (_ : Nat) ≤ 7000 + 4 * D; omega⟩ ?_
            rintro v9 lay9 C9 ⟨rfl, rfl, rfl⟩
            refine v_lcmp X (xdec_at tL_goes_4 24 rfl) ?_
            refine v_if_ne (tgt := 388) X (xdec_at tL_goes_4 25 rfl) (by decide) (fun h9 => absurd (lcz (show (ν.1 24 t).toInt64 = (ν.1 19 t).toInt64 from by rw [hQn.2.2.2.2.1 e23])) h9) (fun _ => ?_)
            refine v_iload X (xdec_at tL_goes_4 26 rfl) rfl ?_
            refine v_if_ne (tgt := 352) X (xdec_at tL_goes_4 27 rfl) (by decide) (fun _ => ?_) (fun h9 => absurd h9 (by decide))
            refine v_iload X (xdec_at tL_goes_4 36 rfl) rfl ?_
            refine v_if_eq (tgt := 384) X (xdec_at tL_goes_4 37 rfl) (by decide) (fun c_354 => ?_) (fun c_354 => ?_)
            · refine v_iconst (v := 1) X (xdec_at tL_goes_5 12 rfl) (by decide) ?_
              refine v_goto (tgt := 389) X (xdec_at tL_goes_5 13 rfl) (by decide) ?_
              refine v_istore (lv' := [some (.ref (l1 (0, 0))), some (.ref (l1 (500, 0))), some (.ref (l1 (300, 0))), some (.int z), some (.int (nI (gD z))), some (.long (sm (μ.2 7) (nP μ))), none, some (.long (sm (μ.2 8) (nP μ))), none, some (.ref (l1 (301, 0))), some (.ref (l1 (302, 0))), some (.int (nI (cnt P (nT μ)))), some (.int (nI (cnt P (t + 1)))), some (.int 1), some (.int (nI t)), some (.int 2), some (.int (nI n2)), some (.int (ν.1 24 t))]) X (xdec_at tL_goes_5 15 rfl) (by decide) rfl ?_
              refine v_iinc (v := (nI (t + 1))) (lv' := [some (.ref (l1 (0, 0))), some (.ref (l1 (500, 0))), some (.ref (l1 (300, 0))), some (.int z), some (.int (nI (gD z))), some (.long (sm (μ.2 7) (nP μ))), none, some (.long (sm (μ.2 8) (nP μ))), none, some (.ref (l1 (301, 0))), some (.ref (l1 (302, 0))), some (.int (nI (cnt P (nT μ)))), some (.int (nI (cnt P (t + 1)))), some (.int 1), some (.int (nI (t + 1))), some (.int 2), some (.int (nI n2)), some (.int (ν.1 24 t))]) X (xdec_at tL_goes_5 16 rfl) rfl (nI_1 _) (by decide) rfl ?_
              refine v_goto (tgt := 152) X (xdec_at tL_goes_5 17 rfl) (by decide) ?_
              exact v_le (lv' := [some (.ref (l1 (0, 0))), some (.ref (l1 (500, 0))), some (.ref (l1 (300, 0))), some (.int z), some (.int (nI (gD z))), some (.long (sm (μ.2 7) (nP μ))), none, some (.long (sm (μ.2 8) (nP μ))), none, some (.ref (l1 (301, 0))), some (.ref (l1 (302, 0))), some (.int (nI (cnt P (nT μ)))), some (.int (nI (cnt P (t + 1)))), some (.int 1), some (.int (nI (t + 1))), none, none, none]) ⟨rfl, rfl, rfl, rfl, rfl, rfl, rfl, rfl, rfl, rfl, rfl, rfl, rfl, trivial⟩ (v_widen (by show (_ : Nat) ≤ 250 + 2 * D + 16 * (t + 1); omega) (by show (_ : Nat) ≤ 1600 + 4 * D + 96 * (t + 1); omega) K)
            · have hn0 : n2 ≠ 0 := fun q9 => c_354 (by rw [q9]; rfl)
              have h21 : ¬ ν.1 21 t = 0 := fun q9 => hn0 (m4 q9)
              refine v_iload X (xdec_at tL_goes_4 38 rfl) rfl ?_
              refine v_iconst (v := 1) X (xdec_at tL_goes_4 39 rfl) (by decide) ?_
              refine v_icmp_eq (tgt := 384) X (xdec_at tL_goes_5 0 rfl) (by decide) (fun h9 => absurd h9 (by decide)) (fun _ => ?_)
              refine v_iload X (xdec_at tL_goes_5 1 rfl) rfl ?_
              refine v_iconst (v := 3) X (xdec_at tL_goes_5 2 rfl) (by decide) ?_
              refine v_icmp_eq (tgt := 384) X (xdec_at tL_goes_5 3 rfl) (by decide) (fun h9 => absurd h9 (by decide)) (fun _ => ?_)
              refine v_aload_n X (xdec_at tL_goes_5 4 rfl) rfl rfl ?_
              refine v_iload X (xdec_at tL_goes_5 5 rfl) rfl ?_
              refine v_iload X (xdec_at tL_goes_5 6 rfl) rfl ?_
              refine v_iconst (v := 1) X (xdec_at tL_goes_5 7 rfl) (by decide) ?_
              refine v_isub X (xdec_at tL_goes_5 8 rfl) ?_
              refine v_st (st' := [.int (nI (n2 - 1)), .int (nI t), .ref (l1 (0, 0))]) (by rw [show (1 : Int32) = nI 1 from rfl, pk_sub (b := 1) (by omega)] <;> rfl) ?_
              refine v_wN X hE myX4_hand [.int (nI t), .int (nI (n2 - 1))] [] (qy_hand (t := t) (n := n2 - 1) hl0 hJ.I hJ.H.choose_spec hTn m2 (by omega) (by omega)) (xw_at tW_11 36 rfl) (0, 0) cX_X rfl rfl rfl rfl (by rfl) (Nat.le_of_ble_eq_true rfl) (xdec_at tL_goes_5 9 rfl) ⟨(Nat.le_of_ble_eq_true rfl), (Nat.le_of_ble_eq_true rfl)⟩ ⟨by show (_ : Nat) ≤ 900 + 2 * D; omega, by show (_ : Nat) ≤ 7000 + 4 * D; omega⟩ ?_
              rintro v9 lay9 C9 ⟨rfl, rfl, rfl⟩
              refine v_iload X (xdec_at tL_goes_5 10 rfl) rfl ?_
              refine v_icmp_ne (tgt := 388) X (xdec_at tL_goes_5 11 rfl) (by decide) (fun h9 => absurd ((m5 h21).2.1 (Or.inr e23)) h9) (fun _ => ?_)
              refine v_iconst (v := 1) X (xdec_at tL_goes_5 12 rfl) (by decide) ?_
              refine v_goto (tgt := 389) X (xdec_at tL_goes_5 13 rfl) (by decide) ?_
              refine v_istore (lv' := [some (.ref (l1 (0, 0))), some (.ref (l1 (500, 0))), some (.ref (l1 (300, 0))), some (.int z), some (.int (nI (gD z))), some (.long (sm (μ.2 7) (nP μ))), none, some (.long (sm (μ.2 8) (nP μ))), none, some (.ref (l1 (301, 0))), some (.ref (l1 (302, 0))), some (.int (nI (cnt P (nT μ)))), some (.int (nI (cnt P (t + 1)))), some (.int 1), some (.int (nI t)), some (.int 2), some (.int (nI n2)), some (.int (ν.1 24 t))]) X (xdec_at tL_goes_5 15 rfl) (by decide) rfl ?_
              refine v_iinc (v := (nI (t + 1))) (lv' := [some (.ref (l1 (0, 0))), some (.ref (l1 (500, 0))), some (.ref (l1 (300, 0))), some (.int z), some (.int (nI (gD z))), some (.long (sm (μ.2 7) (nP μ))), none, some (.long (sm (μ.2 8) (nP μ))), none, some (.ref (l1 (301, 0))), some (.ref (l1 (302, 0))), some (.int (nI (cnt P (nT μ)))), some (.int (nI (cnt P (t + 1)))), some (.int 1), some (.int (nI (t + 1))), some (.int 2), some (.int (nI n2)), some (.int (ν.1 24 t))]) X (xdec_at tL_goes_5 16 rfl) rfl (nI_1 _) (by decide) rfl ?_
              refine v_goto (tgt := 152) X (xdec_at tL_goes_5 17 rfl) (by decide) ?_
              exact v_le (lv' := [some (.ref (l1 (0, 0))), some (.ref (l1 (500, 0))), some (.ref (l1 (300, 0))), some (.int z), some (.int (nI (gD z))), some (.long (sm (μ.2 7) (nP μ))), none, some (.long (sm (μ.2 8) (nP μ))), none, some (.ref (l1 (301, 0))), some (.ref (l1 (302, 0))), some (.int (nI (cnt P (nT μ)))), some (.int (nI (cnt P (t + 1)))), some (.int 1), some (.int (nI (t + 1))), none, none, none]) ⟨rfl, rfl, rfl, rfl, rfl, rfl, rfl, rfl, rfl, rfl, rfl, rfl, rfl, trivial⟩ (v_widen (by show (_ : Nat) ≤ 250 + 2 * D + 16 * (t + 1); omega) (by show (_ : Nat) ≤ 1600 + 4 * D + 96 * (t + 1); omega) K)
          · exact absurd e23 hw3
        · by_cases hw2 : μ.1 23 t = 2
          · have e23 : ν.1 23 t = 2 := by rw [(k2 (Or.inl hw2)).1]; exact hw2
            have hnn : n2 = n1 := nI_inj (by omega) (by omega) (m2.symm.trans ((k2 (Or.inl hw2)).2.trans p2))
            have hcS : cnt P (t + 1) = cnt P t := by rw [cnt, if_neg (by rw [hP]; exact fun q9 => (of_decide_eq_true q9).2 hw2), Nat.add_zero]
            refine v_iload X (xdec_at tL_goes_2 8 rfl) rfl ?_
            refine v_aload_n X (xdec_at tL_goes_2 9 rfl) rfl rfl ?_
            refine v_iconst (v := 2) X (xdec_at tL_goes_2 10 rfl) (by decide) ?_
            refine x_iald (v := nI (nT μ)) X (300, 0) W2_gd (vp_in_nI (n := 2) (N := 3) (by decide) (by decide)) rfl hf.2.2 (xdec_at tL_goes_2 11 rfl) ?_
            refine v_icmp_ge (tgt := 397) X (xdec_at tL_goes_2 12 rfl) (by decide) (fun h9 => absurd h9 (nI_ge ht (by omega))) (fun _ => ?_)
            refine v_iload X (xdec_at tL_goes_2 13 rfl) rfl ?_
            refine v_if_eq (tgt := 397) X (xdec_at tL_goes_2 14 rfl) (by decide) (fun h9 => absurd h9 (by decide)) (fun _ => ?_)
            refine v_aload_n X (xdec_at tL_goes_2 15 rfl) rfl rfl ?_
            refine v_iload X (xdec_at tL_goes_2 16 rfl) rfl ?_
            refine v_iconst (v := 0) X (xdec_at tL_goes_2 17 rfl) (by decide) ?_
            refine v_wN X hE myX4_ofThing [.int (nI t), .int 0] [] (qy_ofThing (t := t) (w := 0) hl0 hJ.I hJ.K hTn (by decide)) (xw_at tW_5 30 rfl) (0, 0) cX_X rfl rfl rfl rfl (by rfl) (Nat.le_of_ble_eq_true rfl) (xdec_at tL_goes_2 18 rfl) ⟨(Nat.le_of_ble_eq_true rfl), (Nat.le_of_ble_eq_true rfl)⟩ ⟨by show (_ : Nat) ≤ 900 + 2 * D; omega, by show (_ : Nat) ≤ 7000 + 4 * D; omega⟩ ?_
            rintro v9 lay9 C9 ⟨rfl, rfl, rfl⟩
            refine v_l2i (v := ν.1 23 t) X (xdec_at tL_goes_2 19 rfl) (Int32.toInt32_toInt64 _) ?_
            refine v_st (st' := [.int 2]) (by rw [e23] <;> rfl) ?_
            refine v_istore (lv' := [some (.ref (l1 (0, 0))), some (.ref (l1 (500, 0))), some (.ref (l1 (300, 0))), some (.int z), some (.int (nI (gD z))), some (.long (sm (μ.2 7) (nP μ))), none, some (.long (sm (μ.2 8) (nP μ))), none, some (.ref (l1 (301, 0))), some (.ref (l1 (302, 0))), some (.int (nI (cnt P (nT μ)))), some (.int (nI (cnt P t))), some (.int 1), some (.int (nI t)), some (.int 2), none, none]) X (xdec_at tL_goes_2 20 rfl) (by decide) rfl ?_
            refine v_aload_n X (xdec_at tL_goes_2 21 rfl) rfl rfl ?_
            refine v_iload X (xdec_at tL_goes_2 22 rfl) rfl ?_
            refine v_bipush (v := 6) X (xdec_at tL_goes_2 23 rfl) (by decide) ?_
            refine v_wN X hE myX4_ofThing [.int (nI t), .int 6] [] (qy_ofThing (t := t) (w := 6) hl0 hJ.I hJ.K hTn (by decide)) (xw_at tW_5 30 rfl) (0, 0) cX_X rfl rfl rfl rfl (by rfl) (Nat.le_of_ble_eq_true rfl) (xdec_at tL_goes_2 24 rfl) ⟨(Nat.le_of_ble_eq_true rfl), (Nat.le_of_ble_eq_true rfl)⟩ ⟨by show (_ : Nat) ≤ 900 + 2 * D; omega, by show (_ : Nat) ≤ 7000 + 4 * D; omega⟩ ?_
            rintro v9 lay9 C9 ⟨rfl, rfl, rfl⟩
            refine v_l2i (v := ν.1 35 t) X (xdec_at tL_goes_2 25 rfl) (Int32.toInt32_toInt64 _) ?_
            refine v_st (st' := [.int (nI n2)]) (by rw [m2] <;> rfl) ?_
            refine v_istore (lv' := [some (.ref (l1 (0, 0))), some (.ref (l1 (500, 0))), some (.ref (l1 (300, 0))), some (.int z), some (.int (nI (gD z))), some (.long (sm (μ.2 7) (nP μ))), none, some (.long (sm (μ.2 8) (nP μ))), none, some (.ref (l1 (301, 0))), some (.ref (l1 (302, 0))), some (.int (nI (cnt P (nT μ)))), some (.int (nI (cnt P t))), some (.int 1), some (.int (nI t)), some (.int 2), some (.int (nI n2)), none]) X (xdec_at tL_goes_2 26 rfl) (by decide) rfl ?_
            refine v_aload_n X (xdec_at tL_goes_2 27 rfl) rfl rfl ?_
            refine v_iload X (xdec_at tL_goes_2 28 rfl) rfl ?_
            refine v_iconst (v := 1) X (xdec_at tL_goes_2 29 rfl) (by decide) ?_
            refine v_wN X hE myX4_ofThing [.int (nI t), .int 1] [] (qy_ofThing (t := t) (w := 1) hl0 hJ.I hJ.K hTn (by decide)) (xw_at tW_5 30 rfl) (0, 0) cX_X rfl rfl rfl rfl (by rfl) (Nat.le_of_ble_eq_true rfl) (xdec_at tL_goes_2 30 rfl) ⟨(Nat.le_of_ble_eq_true rfl), (Nat.le_of_ble_eq_true rfl)⟩ ⟨by show (_ : Nat) ≤ 900 + 2 * D; omega, by show (_ : Nat) ≤ 7000 + 4 * D; omega⟩ ?_
            rintro v9 lay9 C9 ⟨rfl, rfl, rfl⟩
            refine v_l2i (v := ν.1 24 t) X (xdec_at tL_goes_2 31 rfl) (Int32.toInt32_toInt64 _) ?_
            refine v_istore (lv' := [some (.ref (l1 (0, 0))), some (.ref (l1 (500, 0))), some (.ref (l1 (300, 0))), some (.int z), some (.int (nI (gD z))), some (.long (sm (μ.2 7) (nP μ))), none, some (.long (sm (μ.2 8) (nP μ))), none, some (.ref (l1 (301, 0))), some (.ref (l1 (302, 0))), some (.int (nI (cnt P (nT μ)))), some (.int (nI (cnt P t))), some (.int 1), some (.int (nI t)), some (.int 2), some (.int (nI n2)), some (.int (ν.1 24 t))]) X (xdec_at tL_goes_2 32 rfl) (by decide) rfl ?_
            refine v_iload X (xdec_at tL_goes_2 33 rfl) rfl ?_
            refine v_iload X (xdec_at tL_goes_2 34 rfl) rfl ?_
            refine v_iconst (v := 2) X (xdec_at tL_goes_2 35 rfl) (by decide) ?_
            refine v_icmp_ne (tgt := 217) X (xdec_at tL_goes_2 36 rfl) (by decide) (fun h9 => absurd h9 (by decide)) (fun _ => ?_)
            refine v_aload X (xdec_at tL_goes_2 37 rfl) rfl ?_
            refine v_iload X (xdec_at tL_goes_2 38 rfl) rfl ?_
            refine x_iald (v := 2) X (301, 0) W2_g1 (vp_in_nI (n := t) (N := 40) (by omega) (by decide)) rfl ((wF_at ht (by omega)).trans hw2) (xdec_at tL_goes_2 39 rfl) ?_
            refine v_iconst (v := 2) X (xdec_at tL_goes_3 0 rfl) (by decide) ?_
            refine v_icmp_eq (tgt := 217) X (xdec_at tL_goes_3 1 rfl) (by decide) (fun _ => ?_) (fun h9 => absurd h9 (by decide))
            refine v_iconst (v := 0) X (xdec_at tL_goes_3 4 rfl) (by decide) ?_
            refine v_iadd X (xdec_at tL_goes_3 5 rfl) ?_
            refine v_st (st' := [.int (nI (cnt P (t + 1)))]) (by rw [hcS, Int32.add_zero] <;> rfl) ?_
            refine v_istore (lv' := [some (.ref (l1 (0, 0))), some (.ref (l1 (500, 0))), some (.ref (l1 (300, 0))), some (.int z), some (.int (nI (gD z))), some (.long (sm (μ.2 7) (nP μ))), none, some (.long (sm (μ.2 8) (nP μ))), none, some (.ref (l1 (301, 0))), some (.ref (l1 (302, 0))), some (.int (nI (cnt P (nT μ)))), some (.int (nI (cnt P (t + 1)))), some (.int 1), some (.int (nI t)), some (.int 2), some (.int (nI n2)), some (.int (ν.1 24 t))]) X (xdec_at tL_goes_3 6 rfl) (by decide) rfl ?_
            refine v_iload X (xdec_at tL_goes_3 7 rfl) rfl ?_
            refine v_aload X (xdec_at tL_goes_3 8 rfl) rfl ?_
            refine v_iload X (xdec_at tL_goes_3 9 rfl) rfl ?_
            refine x_iald (v := nI n1) X (302, 0) W2_g2 (vp_in_nI (n := t) (N := 40) (by omega) (by decide)) rfl ((wF_at ht (by omega)).trans p2) (xdec_at tL_goes_3 10 rfl) ?_
            refine v_icmp_lt (tgt := 388) X (xdec_at tL_goes_3 11 rfl) (by decide) (fun h9 => absurd h9 (Int32.not_lt.mpr (nI_le hh (by omega)))) (fun _ => ?_)
            refine v_iload X (xdec_at tL_goes_3 12 rfl) rfl ?_
            refine v_aload X (xdec_at tL_goes_3 13 rfl) rfl ?_
            refine v_iload X (xdec_at tL_goes_3 14 rfl) rfl ?_
            refine x_iald (v := nI n1) X (302, 0) W2_g2 (vp_in_nI (n := t) (N := 40) (by omega) (by decide)) rfl ((wF_at ht (by omega)).trans p2) (xdec_at tL_goes_3 15 rfl) ?_
            refine v_iload X (xdec_at tL_goes_3 16 rfl) rfl ?_
            refine v_iadd X (xdec_at tL_goes_3 17 rfl) ?_
            refine v_st (st' := [.int (nI (n1 + gD z)), .int (nI n2)]) (by rw [nI_add] <;> rfl) ?_
            refine v_icmp_gt (tgt := 388) X (xdec_at tL_goes_3 18 rfl) (by decide) (fun h9 => absurd h9 (Int32.not_lt.mpr (nI_le hh2 (by omega)))) (fun _ => ?_)
            refine v_aload X (xdec_at tL_goes_3 19 rfl) rfl ?_
            refine v_iload X (xdec_at tL_goes_3 20 rfl) rfl ?_
            refine x_iald (v := 2) X (301, 0) W2_g1 (vp_in_nI (n := t) (N := 40) (by omega) (by decide)) rfl ((wF_at ht (by omega)).trans hw2) (xdec_at tL_goes_3 21 rfl) ?_
            refine v_iconst (v := 2) X (xdec_at tL_goes_3 22 rfl) (by decide) ?_
            refine v_icmp_ge (tgt := 262) X (xdec_at tL_goes_3 23 rfl) (by decide) (fun _ => ?_) (fun h9 => absurd h9 (by decide))
            refine v_iload X (xdec_at tL_goes_3 28 rfl) rfl ?_
            refine v_aload X (xdec_at tL_goes_3 29 rfl) rfl ?_
            refine v_iload X (xdec_at tL_goes_3 30 rfl) rfl ?_
            refine x_iald (v := 2) X (301, 0) W2_g1 (vp_in_nI (n := t) (N := 40) (by omega) (by decide)) rfl ((wF_at ht (by omega)).trans hw2) (xdec_at tL_goes_3 31 rfl) ?_
            refine v_icmp_ne (tgt := 388) X (xdec_at tL_goes_3 32 rfl) (by decide) (fun h9 => absurd h9 (by decide)) (fun _ => ?_)
            refine v_iload X (xdec_at tL_goes_3 33 rfl) rfl ?_
            refine v_aload X (xdec_at tL_goes_3 34 rfl) rfl ?_
            refine v_iload X (xdec_at tL_goes_3 35 rfl) rfl ?_
            refine x_iald (v := nI n1) X (302, 0) W2_g2 (vp_in_nI (n := t) (N := 40) (by omega) (by decide)) rfl ((wF_at ht (by omega)).trans p2) (xdec_at tL_goes_3 36 rfl) ?_
            refine v_icmp_ne (tgt := 388) X (xdec_at tL_goes_3 37 rfl) (by decide) (fun h9 => absurd (congrArg nI hnn) h9) (fun _ => ?_)
            refine v_iload X (xdec_at tL_goes_3 38 rfl) rfl ?_
            refine v_iconst (v := 1) X (xdec_at tL_goes_3 39 rfl) (by decide) ?_
            refine v_icmp_ne (tgt := 292) X (xdec_at tL_goes_4 0 rfl) (by decide) (fun _ => ?_) (fun h9 => absurd h9 (by decide))
            refine v_iconst (v := 0) X (xdec_at tL_goes_4 3 rfl) (by decide) ?_
            refine v_aload_n X (xdec_at tL_goes_4 4 rfl) rfl rfl ?_
            refine v_iload X (xdec_at tL_goes_4 5 rfl) rfl ?_
            refine v_iconst (v := 2) X (xdec_at tL_goes_4 6 rfl) (by decide) ?_
            refine v_wN X hE myX4_ofThing [.int (nI t), .int 2] [.int 0] (qy_ofThing (t := t) (w := 2) hl0 hJ.I hJ.K hTn (by decide)) (xw_at tW_5 30 rfl) (0, 0) cX_X rfl rfl rfl rfl (by rfl) (Nat.le_of_ble_eq_true rfl) (xdec_at tL_goes_4 7 rfl) ⟨(Nat.le_of_ble_eq_true rfl), (Nat.le_of_ble_eq_true rfl)⟩ ⟨by show (_ : Nat) ≤ 900 + 2 * D; omega, by show (_ : Nat) ≤ 7000 + 4 * D; omega⟩ ?_
            rintro v9 lay9 C9 ⟨rfl, rfl, rfl⟩
            refine v_lconst (v := 0) X (xdec_at tL_goes_4 8 rfl) (by decide) ?_
            refine v_lcmp X (xdec_at tL_goes_4 9 rfl) ?_
            refine v_if_le (tgt := 309) X (xdec_at tL_goes_4 10 rfl) (by decide) (fun _ => ?_) (fun h9 => absurd (lc0 (hQn.2.2.1 (by rw [e23]; decide))) h9)
            refine v_iconst (v := 0) X (xdec_at tL_goes_4 13 rfl) (by decide) ?_
            refine v_icmp_ne (tgt := 388) X (xdec_at tL_goes_4 14 rfl) (by decide) (fun h9 => absurd h9 (by decide)) (fun _ => ?_)
            refine v_iload X (xdec_at tL_goes_4 15 rfl) rfl ?_
            refine v_iconst (v := 2) X (xdec_at tL_goes_4 16 rfl) (by decide) ?_
            refine v_icmp_ne (tgt := 333) X (xdec_at tL_goes_4 17 rfl) (by decide) (fun h9 => absurd h9 (by decide)) (fun _ => ?_)
            refine v_iload X (xdec_at tL_goes_4 18 rfl) rfl ?_
            refine v_i2l X (xdec_at tL_goes_4 19 rfl) rfl ?_
            refine v_aload_n X (xdec_at tL_goes_4 20 rfl) rfl rfl ?_
            refine v_iload X (xdec_at tL_goes_4 21 rfl) rfl ?_
            refine v_iconst (v := 3) X (xdec_at tL_goes_4 22 rfl) (by decide) ?_
            refine v_wN X hE myX4_ofThing [.int (nI t), .int 3] [.long ((ν.1 24 t)).toInt64] (qy_ofThing (t := t) (w := 3) hl0 hJ.I hJ.K hTn (by decide)) (xw_at tW_5 30 rfl) (0, 0) cX_X rfl rfl rfl rfl (by rfl) (Nat.le_of_ble_eq_true rfl) (xdec_at tL_goes_4 23 rfl) ⟨(Nat.le_of_ble_eq_true rfl), (Nat.le_of_ble_eq_true rfl)⟩ ⟨by show (_ : Nat) ≤ 900 + 2 * D; omega, by show (_ : Nat) ≤ 7000 + 4 * D; omega⟩ ?_
            rintro v9 lay9 C9 ⟨rfl, rfl, rfl⟩
            refine v_lcmp X (xdec_at tL_goes_4 24 rfl) ?_
            refine v_if_ne (tgt := 388) X (xdec_at tL_goes_4 25 rfl) (by decide) (fun h9 => absurd (lcz (show (ν.1 24 t).toInt64 = (ν.1 19 t).toInt64 from by rw [hQn.2.2.2.2.1 e23])) h9) (fun _ => ?_)
            refine v_iload X (xdec_at tL_goes_4 26 rfl) rfl ?_
            refine v_if_ne (tgt := 352) X (xdec_at tL_goes_4 27 rfl) (by decide) (fun _ => ?_) (fun h9 => absurd h9 (by decide))
            refine v_iload X (xdec_at tL_goes_4 36 rfl) rfl ?_
            refine v_if_eq (tgt := 384) X (xdec_at tL_goes_4 37 rfl) (by decide) (fun c_354 => ?_) (fun c_354 => ?_)
            · refine v_iconst (v := 1) X (xdec_at tL_goes_5 12 rfl) (by decide) ?_
              refine v_goto (tgt := 389) X (xdec_at tL_goes_5 13 rfl) (by decide) ?_
              refine v_istore (lv' := [some (.ref (l1 (0, 0))), some (.ref (l1 (500, 0))), some (.ref (l1 (300, 0))), some (.int z), some (.int (nI (gD z))), some (.long (sm (μ.2 7) (nP μ))), none, some (.long (sm (μ.2 8) (nP μ))), none, some (.ref (l1 (301, 0))), some (.ref (l1 (302, 0))), some (.int (nI (cnt P (nT μ)))), some (.int (nI (cnt P (t + 1)))), some (.int 1), some (.int (nI t)), some (.int 2), some (.int (nI n2)), some (.int (ν.1 24 t))]) X (xdec_at tL_goes_5 15 rfl) (by decide) rfl ?_
              refine v_iinc (v := (nI (t + 1))) (lv' := [some (.ref (l1 (0, 0))), some (.ref (l1 (500, 0))), some (.ref (l1 (300, 0))), some (.int z), some (.int (nI (gD z))), some (.long (sm (μ.2 7) (nP μ))), none, some (.long (sm (μ.2 8) (nP μ))), none, some (.ref (l1 (301, 0))), some (.ref (l1 (302, 0))), some (.int (nI (cnt P (nT μ)))), some (.int (nI (cnt P (t + 1)))), some (.int 1), some (.int (nI (t + 1))), some (.int 2), some (.int (nI n2)), some (.int (ν.1 24 t))]) X (xdec_at tL_goes_5 16 rfl) rfl (nI_1 _) (by decide) rfl ?_
              refine v_goto (tgt := 152) X (xdec_at tL_goes_5 17 rfl) (by decide) ?_
              exact v_le (lv' := [some (.ref (l1 (0, 0))), some (.ref (l1 (500, 0))), some (.ref (l1 (300, 0))), some (.int z), some (.int (nI (gD z))), some (.long (sm (μ.2 7) (nP μ))), none, some (.long (sm (μ.2 8) (nP μ))), none, some (.ref (l1 (301, 0))), some (.ref (l1 (302, 0))), some (.int (nI (cnt P (nT μ)))), some (.int (nI (cnt P (t + 1)))), some (.int 1), some (.int (nI (t + 1))), none, none, none]) ⟨rfl, rfl, rfl, rfl, rfl, rfl, rfl, rfl, rfl, rfl, rfl, rfl, rfl, trivial⟩ (v_widen (by show (_ : Nat) ≤ 250 + 2 * D + 16 * (t + 1); omega) (by show (_ : Nat) ≤ 1600 + 4 * D + 96 * (t + 1); omega) K)
            · have hn0 : n2 ≠ 0 := fun q9 => c_354 (by rw [q9]; rfl)
              have h21 : ¬ ν.1 21 t = 0 := fun q9 => hn0 (m4 q9)
              refine v_iload X (xdec_at tL_goes_4 38 rfl) rfl ?_
              refine v_iconst (v := 1) X (xdec_at tL_goes_4 39 rfl) (by decide) ?_
              refine v_icmp_eq (tgt := 384) X (xdec_at tL_goes_5 0 rfl) (by decide) (fun h9 => absurd h9 (by decide)) (fun _ => ?_)
              refine v_iload X (xdec_at tL_goes_5 1 rfl) rfl ?_
              refine v_iconst (v := 3) X (xdec_at tL_goes_5 2 rfl) (by decide) ?_
              refine v_icmp_eq (tgt := 384) X (xdec_at tL_goes_5 3 rfl) (by decide) (fun h9 => absurd h9 (by decide)) (fun _ => ?_)
              refine v_aload_n X (xdec_at tL_goes_5 4 rfl) rfl rfl ?_
              refine v_iload X (xdec_at tL_goes_5 5 rfl) rfl ?_
              refine v_iload X (xdec_at tL_goes_5 6 rfl) rfl ?_
              refine v_iconst (v := 1) X (xdec_at tL_goes_5 7 rfl) (by decide) ?_
              refine v_isub X (xdec_at tL_goes_5 8 rfl) ?_
              refine v_st (st' := [.int (nI (n2 - 1)), .int (nI t), .ref (l1 (0, 0))]) (by rw [show (1 : Int32) = nI 1 from rfl, pk_sub (b := 1) (by omega)] <;> rfl) ?_
              refine v_wN X hE myX4_hand [.int (nI t), .int (nI (n2 - 1))] [] (qy_hand (t := t) (n := n2 - 1) hl0 hJ.I hJ.H.choose_spec hTn m2 (by omega) (by omega)) (xw_at tW_11 36 rfl) (0, 0) cX_X rfl rfl rfl rfl (by rfl) (Nat.le_of_ble_eq_true rfl) (xdec_at tL_goes_5 9 rfl) ⟨(Nat.le_of_ble_eq_true rfl), (Nat.le_of_ble_eq_true rfl)⟩ ⟨by show (_ : Nat) ≤ 900 + 2 * D; omega, by show (_ : Nat) ≤ 7000 + 4 * D; omega⟩ ?_
              rintro v9 lay9 C9 ⟨rfl, rfl, rfl⟩
              refine v_iload X (xdec_at tL_goes_5 10 rfl) rfl ?_
              refine v_icmp_ne (tgt := 388) X (xdec_at tL_goes_5 11 rfl) (by decide) (fun h9 => absurd ((m5 h21).2.1 (Or.inr e23)) h9) (fun _ => ?_)
              refine v_iconst (v := 1) X (xdec_at tL_goes_5 12 rfl) (by decide) ?_
              refine v_goto (tgt := 389) X (xdec_at tL_goes_5 13 rfl) (by decide) ?_
              refine v_istore (lv' := [some (.ref (l1 (0, 0))), some (.ref (l1 (500, 0))), some (.ref (l1 (300, 0))), some (.int z), some (.int (nI (gD z))), some (.long (sm (μ.2 7) (nP μ))), none, some (.long (sm (μ.2 8) (nP μ))), none, some (.ref (l1 (301, 0))), some (.ref (l1 (302, 0))), some (.int (nI (cnt P (nT μ)))), some (.int (nI (cnt P (t + 1)))), some (.int 1), some (.int (nI t)), some (.int 2), some (.int (nI n2)), some (.int (ν.1 24 t))]) X (xdec_at tL_goes_5 15 rfl) (by decide) rfl ?_
              refine v_iinc (v := (nI (t + 1))) (lv' := [some (.ref (l1 (0, 0))), some (.ref (l1 (500, 0))), some (.ref (l1 (300, 0))), some (.int z), some (.int (nI (gD z))), some (.long (sm (μ.2 7) (nP μ))), none, some (.long (sm (μ.2 8) (nP μ))), none, some (.ref (l1 (301, 0))), some (.ref (l1 (302, 0))), some (.int (nI (cnt P (nT μ)))), some (.int (nI (cnt P (t + 1)))), some (.int 1), some (.int (nI (t + 1))), some (.int 2), some (.int (nI n2)), some (.int (ν.1 24 t))]) X (xdec_at tL_goes_5 16 rfl) rfl (nI_1 _) (by decide) rfl ?_
              refine v_goto (tgt := 152) X (xdec_at tL_goes_5 17 rfl) (by decide) ?_
              exact v_le (lv' := [some (.ref (l1 (0, 0))), some (.ref (l1 (500, 0))), some (.ref (l1 (300, 0))), some (.int z), some (.int (nI (gD z))), some (.long (sm (μ.2 7) (nP μ))), none, some (.long (sm (μ.2 8) (nP μ))), none, some (.ref (l1 (301, 0))), some (.ref (l1 (302, 0))), some (.int (nI (cnt P (nT μ)))), some (.int (nI (cnt P (t + 1)))), some (.int 1), some (.int (nI (t + 1))), none, none, none]) ⟨rfl, rfl, rfl, rfl, rfl, rfl, rfl, rfl, rfl, rfl, rfl, rfl, rfl, trivial⟩ (v_widen (by show (_ : Nat) ≤ 250 + 2 * D + 16 * (t + 1); omega) (by show (_ : Nat) ≤ 1600 + 4 * D + 96 * (t + 1); omega) K)
          · have hw3 : μ.1 23 t = 3 := ((hQm.1.resolve_left (fun q => hw (Or.inl q))).resolve_left (fun q => hw (Or.inr q))).resolve_left hw2
            have e23 : ν.1 23 t = 3 := by rw [(k2 (Or.inr hw3)).1]; exact hw3
            have hnn : n2 = n1 := nI_inj (by omega) (by omega) (m2.symm.trans ((k2 (Or.inr hw3)).2.trans p2))
            have hcS : cnt P (t + 1) = cnt P t := by rw [cnt, if_neg (by rw [hP]; exact fun q9 => absurd ((of_decide_eq_true q9).1.symm.trans e23) (by decide)), Nat.add_zero]
            refine v_iload X (xdec_at tL_goes_2 8 rfl) rfl ?_
            refine v_aload_n X (xdec_at tL_goes_2 9 rfl) rfl rfl ?_
            refine v_iconst (v := 2) X (xdec_at tL_goes_2 10 rfl) (by decide) ?_
            refine x_iald (v := nI (nT μ)) X (300, 0) W2_gd (vp_in_nI (n := 2) (N := 3) (by decide) (by decide)) rfl hf.2.2 (xdec_at tL_goes_2 11 rfl) ?_
            refine v_icmp_ge (tgt := 397) X (xdec_at tL_goes_2 12 rfl) (by decide) (fun h9 => absurd h9 (nI_ge ht (by omega))) (fun _ => ?_)
            refine v_iload X (xdec_at tL_goes_2 13 rfl) rfl ?_
            refine v_if_eq (tgt := 397) X (xdec_at tL_goes_2 14 rfl) (by decide) (fun h9 => absurd h9 (by decide)) (fun _ => ?_)
            refine v_aload_n X (xdec_at tL_goes_2 15 rfl) rfl rfl ?_
            refine v_iload X (xdec_at tL_goes_2 16 rfl) rfl ?_
            refine v_iconst (v := 0) X (xdec_at tL_goes_2 17 rfl) (by decide) ?_
            refine v_wN X hE myX4_ofThing [.int (nI t), .int 0] [] (qy_ofThing (t := t) (w := 0) hl0 hJ.I hJ.K hTn (by decide)) (xw_at tW_5 30 rfl) (0, 0) cX_X rfl rfl rfl rfl (by rfl) (Nat.le_of_ble_eq_true rfl) (xdec_at tL_goes_2 18 rfl) ⟨(Nat.le_of_ble_eq_true rfl), (Nat.le_of_ble_eq_true rfl)⟩ ⟨by show (_ : Nat) ≤ 900 + 2 * D; omega, by show (_ : Nat) ≤ 7000 + 4 * D; omega⟩ ?_
            rintro v9 lay9 C9 ⟨rfl, rfl, rfl⟩
            refine v_l2i (v := ν.1 23 t) X (xdec_at tL_goes_2 19 rfl) (Int32.toInt32_toInt64 _) ?_
            refine v_st (st' := [.int 3]) (by rw [e23] <;> rfl) ?_
            refine v_istore (lv' := [some (.ref (l1 (0, 0))), some (.ref (l1 (500, 0))), some (.ref (l1 (300, 0))), some (.int z), some (.int (nI (gD z))), some (.long (sm (μ.2 7) (nP μ))), none, some (.long (sm (μ.2 8) (nP μ))), none, some (.ref (l1 (301, 0))), some (.ref (l1 (302, 0))), some (.int (nI (cnt P (nT μ)))), some (.int (nI (cnt P t))), some (.int 1), some (.int (nI t)), some (.int 3), none, none]) X (xdec_at tL_goes_2 20 rfl) (by decide) rfl ?_
            refine v_aload_n X (xdec_at tL_goes_2 21 rfl) rfl rfl ?_
            refine v_iload X (xdec_at tL_goes_2 22 rfl) rfl ?_
            refine v_bipush (v := 6) X (xdec_at tL_goes_2 23 rfl) (by decide) ?_
            refine v_wN X hE myX4_ofThing [.int (nI t), .int 6] [] (qy_ofThing (t := t) (w := 6) hl0 hJ.I hJ.K hTn (by decide)) (xw_at tW_5 30 rfl) (0, 0) cX_X rfl rfl rfl rfl (by rfl) (Nat.le_of_ble_eq_true rfl) (xdec_at tL_goes_2 24 rfl) ⟨(Nat.le_of_ble_eq_true rfl), (Nat.le_of_ble_eq_true rfl)⟩ ⟨by show (_ : Nat) ≤ 900 + 2 * D; omega, by show (_ : Nat) ≤ 7000 + 4 * D; omega⟩ ?_
            rintro v9 lay9 C9 ⟨rfl, rfl, rfl⟩
            refine v_l2i (v := ν.1 35 t) X (xdec_at tL_goes_2 25 rfl) (Int32.toInt32_toInt64 _) ?_
            refine v_st (st' := [.int (nI n2)]) (by rw [m2] <;> rfl) ?_
            refine v_istore (lv' := [some (.ref (l1 (0, 0))), some (.ref (l1 (500, 0))), some (.ref (l1 (300, 0))), some (.int z), some (.int (nI (gD z))), some (.long (sm (μ.2 7) (nP μ))), none, some (.long (sm (μ.2 8) (nP μ))), none, some (.ref (l1 (301, 0))), some (.ref (l1 (302, 0))), some (.int (nI (cnt P (nT μ)))), some (.int (nI (cnt P t))), some (.int 1), some (.int (nI t)), some (.int 3), some (.int (nI n2)), none]) X (xdec_at tL_goes_2 26 rfl) (by decide) rfl ?_
            refine v_aload_n X (xdec_at tL_goes_2 27 rfl) rfl rfl ?_
            refine v_iload X (xdec_at tL_goes_2 28 rfl) rfl ?_
            refine v_iconst (v := 1) X (xdec_at tL_goes_2 29 rfl) (by decide) ?_
            refine v_wN X hE myX4_ofThing [.int (nI t), .int 1] [] (qy_ofThing (t := t) (w := 1) hl0 hJ.I hJ.K hTn (by decide)) (xw_at tW_5 30 rfl) (0, 0) cX_X rfl rfl rfl rfl (by rfl) (Nat.le_of_ble_eq_true rfl) (xdec_at tL_goes_2 30 rfl) ⟨(Nat.le_of_ble_eq_true rfl), (Nat.le_of_ble_eq_true rfl)⟩ ⟨by show (_ : Nat) ≤ 900 + 2 * D; omega, by show (_ : Nat) ≤ 7000 + 4 * D; omega⟩ ?_
            rintro v9 lay9 C9 ⟨rfl, rfl, rfl⟩
            refine v_l2i (v := ν.1 24 t) X (xdec_at tL_goes_2 31 rfl) (Int32.toInt32_toInt64 _) ?_
            refine v_istore (lv' := [some (.ref (l1 (0, 0))), some (.ref (l1 (500, 0))), some (.ref (l1 (300, 0))), some (.int z), some (.int (nI (gD z))), some (.long (sm (μ.2 7) (nP μ))), none, some (.long (sm (μ.2 8) (nP μ))), none, some (.ref (l1 (301, 0))), some (.ref (l1 (302, 0))), some (.int (nI (cnt P (nT μ)))), some (.int (nI (cnt P t))), some (.int 1), some (.int (nI t)), some (.int 3), some (.int (nI n2)), some (.int (ν.1 24 t))]) X (xdec_at tL_goes_2 32 rfl) (by decide) rfl ?_
            refine v_iload X (xdec_at tL_goes_2 33 rfl) rfl ?_
            refine v_iload X (xdec_at tL_goes_2 34 rfl) rfl ?_
            refine v_iconst (v := 2) X (xdec_at tL_goes_2 35 rfl) (by decide) ?_
            refine v_icmp_ne (tgt := 217) X (xdec_at tL_goes_2 36 rfl) (by decide) (fun _ => ?_) (fun h9 => absurd h9 (by decide))
            refine v_iconst (v := 0) X (xdec_at tL_goes_3 4 rfl) (by decide) ?_
            refine v_iadd X (xdec_at tL_goes_3 5 rfl) ?_
            refine v_st (st' := [.int (nI (cnt P (t + 1)))]) (by rw [hcS, Int32.add_zero] <;> rfl) ?_
            refine v_istore (lv' := [some (.ref (l1 (0, 0))), some (.ref (l1 (500, 0))), some (.ref (l1 (300, 0))), some (.int z), some (.int (nI (gD z))), some (.long (sm (μ.2 7) (nP μ))), none, some (.long (sm (μ.2 8) (nP μ))), none, some (.ref (l1 (301, 0))), some (.ref (l1 (302, 0))), some (.int (nI (cnt P (nT μ)))), some (.int (nI (cnt P (t + 1)))), some (.int 1), some (.int (nI t)), some (.int 3), some (.int (nI n2)), some (.int (ν.1 24 t))]) X (xdec_at tL_goes_3 6 rfl) (by decide) rfl ?_
            refine v_iload X (xdec_at tL_goes_3 7 rfl) rfl ?_
            refine v_aload X (xdec_at tL_goes_3 8 rfl) rfl ?_
            refine v_iload X (xdec_at tL_goes_3 9 rfl) rfl ?_
            refine x_iald (v := nI n1) X (302, 0) W2_g2 (vp_in_nI (n := t) (N := 40) (by omega) (by decide)) rfl ((wF_at ht (by omega)).trans p2) (xdec_at tL_goes_3 10 rfl) ?_
            refine v_icmp_lt (tgt := 388) X (xdec_at tL_goes_3 11 rfl) (by decide) (fun h9 => absurd h9 (Int32.not_lt.mpr (nI_le hh (by omega)))) (fun _ => ?_)
            refine v_iload X (xdec_at tL_goes_3 12 rfl) rfl ?_
            refine v_aload X (xdec_at tL_goes_3 13 rfl) rfl ?_
            refine v_iload X (xdec_at tL_goes_3 14 rfl) rfl ?_
            refine x_iald (v := nI n1) X (302, 0) W2_g2 (vp_in_nI (n := t) (N := 40) (by omega) (by decide)) rfl ((wF_at ht (by omega)).trans p2) (xdec_at tL_goes_3 15 rfl) ?_
            refine v_iload X (xdec_at tL_goes_3 16 rfl) rfl ?_
            refine v_iadd X (xdec_at tL_goes_3 17 rfl) ?_
            refine v_st (st' := [.int (nI (n1 + gD z)), .int (nI n2)]) (by rw [nI_add] <;> rfl) ?_
            refine v_icmp_gt (tgt := 388) X (xdec_at tL_goes_3 18 rfl) (by decide) (fun h9 => absurd h9 (Int32.not_lt.mpr (nI_le hh2 (by omega)))) (fun _ => ?_)
            refine v_aload X (xdec_at tL_goes_3 19 rfl) rfl ?_
            refine v_iload X (xdec_at tL_goes_3 20 rfl) rfl ?_
            refine x_iald (v := 3) X (301, 0) W2_g1 (vp_in_nI (n := t) (N := 40) (by omega) (by decide)) rfl ((wF_at ht (by omega)).trans hw3) (xdec_at tL_goes_3 21 rfl) ?_
            refine v_iconst (v := 2) X (xdec_at tL_goes_3 22 rfl) (by decide) ?_
            refine v_icmp_ge (tgt := 262) X (xdec_at tL_goes_3 23 rfl) (by decide) (fun _ => ?_) (fun h9 => absurd h9 (by decide))
            refine v_iload X (xdec_at tL_goes_3 28 rfl) rfl ?_
            refine v_aload X (xdec_at tL_goes_3 29 rfl) rfl ?_
            refine v_iload X (xdec_at tL_goes_3 30 rfl) rfl ?_
            refine x_iald (v := 3) X (301, 0) W2_g1 (vp_in_nI (n := t) (N := 40) (by omega) (by decide)) rfl ((wF_at ht (by omega)).trans hw3) (xdec_at tL_goes_3 31 rfl) ?_
            refine v_icmp_ne (tgt := 388) X (xdec_at tL_goes_3 32 rfl) (by decide) (fun h9 => absurd h9 (by decide)) (fun _ => ?_)
            refine v_iload X (xdec_at tL_goes_3 33 rfl) rfl ?_
            refine v_aload X (xdec_at tL_goes_3 34 rfl) rfl ?_
            refine v_iload X (xdec_at tL_goes_3 35 rfl) rfl ?_
            refine x_iald (v := nI n1) X (302, 0) W2_g2 (vp_in_nI (n := t) (N := 40) (by omega) (by decide)) rfl ((wF_at ht (by omega)).trans p2) (xdec_at tL_goes_3 36 rfl) ?_
            refine v_icmp_ne (tgt := 388) X (xdec_at tL_goes_3 37 rfl) (by decide) (fun h9 => absurd (congrArg nI hnn) h9) (fun _ => ?_)
            refine v_iload X (xdec_at tL_goes_3 38 rfl) rfl ?_
            refine v_iconst (v := 1) X (xdec_at tL_goes_3 39 rfl) (by decide) ?_
            refine v_icmp_ne (tgt := 292) X (xdec_at tL_goes_4 0 rfl) (by decide) (fun _ => ?_) (fun h9 => absurd h9 (by decide))
            refine v_iconst (v := 0) X (xdec_at tL_goes_4 3 rfl) (by decide) ?_
            refine v_aload_n X (xdec_at tL_goes_4 4 rfl) rfl rfl ?_
            refine v_iload X (xdec_at tL_goes_4 5 rfl) rfl ?_
            refine v_iconst (v := 2) X (xdec_at tL_goes_4 6 rfl) (by decide) ?_
            refine v_wN X hE myX4_ofThing [.int (nI t), .int 2] [.int 0] (qy_ofThing (t := t) (w := 2) hl0 hJ.I hJ.K hTn (by decide)) (xw_at tW_5 30 rfl) (0, 0) cX_X rfl rfl rfl rfl (by rfl) (Nat.le_of_ble_eq_true rfl) (xdec_at tL_goes_4 7 rfl) ⟨(Nat.le_of_ble_eq_true rfl), (Nat.le_of_ble_eq_true rfl)⟩ ⟨by show (_ : Nat) ≤ 900 + 2 * D; omega, by show (_ : Nat) ≤ 7000 + 4 * D; omega⟩ ?_
            rintro v9 lay9 C9 ⟨rfl, rfl, rfl⟩
            refine v_lconst (v := 0) X (xdec_at tL_goes_4 8 rfl) (by decide) ?_
            refine v_lcmp X (xdec_at tL_goes_4 9 rfl) ?_
            refine v_if_le (tgt := 309) X (xdec_at tL_goes_4 10 rfl) (by decide) (fun _ => ?_) (fun h9 => absurd (lc0 (hQn.2.2.1 (by rw [e23]; decide))) h9)
            refine v_iconst (v := 0) X (xdec_at tL_goes_4 13 rfl) (by decide) ?_
            refine v_icmp_ne (tgt := 388) X (xdec_at tL_goes_4 14 rfl) (by decide) (fun h9 => absurd h9 (by decide)) (fun _ => ?_)
            refine v_iload X (xdec_at tL_goes_4 15 rfl) rfl ?_
            refine v_iconst (v := 2) X (xdec_at tL_goes_4 16 rfl) (by decide) ?_
            refine v_icmp_ne (tgt := 333) X (xdec_at tL_goes_4 17 rfl) (by decide) (fun _ => ?_) (fun h9 => absurd h9 (by decide))
            refine v_iload X (xdec_at tL_goes_4 26 rfl) rfl ?_
            refine v_if_ne (tgt := 352) X (xdec_at tL_goes_4 27 rfl) (by decide) (fun _ => ?_) (fun h9 => absurd h9 (by decide))
            refine v_iload X (xdec_at tL_goes_4 36 rfl) rfl ?_
            refine v_if_eq (tgt := 384) X (xdec_at tL_goes_4 37 rfl) (by decide) (fun c_354 => ?_) (fun c_354 => ?_)
            · refine v_iconst (v := 1) X (xdec_at tL_goes_5 12 rfl) (by decide) ?_
              refine v_goto (tgt := 389) X (xdec_at tL_goes_5 13 rfl) (by decide) ?_
              refine v_istore (lv' := [some (.ref (l1 (0, 0))), some (.ref (l1 (500, 0))), some (.ref (l1 (300, 0))), some (.int z), some (.int (nI (gD z))), some (.long (sm (μ.2 7) (nP μ))), none, some (.long (sm (μ.2 8) (nP μ))), none, some (.ref (l1 (301, 0))), some (.ref (l1 (302, 0))), some (.int (nI (cnt P (nT μ)))), some (.int (nI (cnt P (t + 1)))), some (.int 1), some (.int (nI t)), some (.int 3), some (.int (nI n2)), some (.int (ν.1 24 t))]) X (xdec_at tL_goes_5 15 rfl) (by decide) rfl ?_
              refine v_iinc (v := (nI (t + 1))) (lv' := [some (.ref (l1 (0, 0))), some (.ref (l1 (500, 0))), some (.ref (l1 (300, 0))), some (.int z), some (.int (nI (gD z))), some (.long (sm (μ.2 7) (nP μ))), none, some (.long (sm (μ.2 8) (nP μ))), none, some (.ref (l1 (301, 0))), some (.ref (l1 (302, 0))), some (.int (nI (cnt P (nT μ)))), some (.int (nI (cnt P (t + 1)))), some (.int 1), some (.int (nI (t + 1))), some (.int 3), some (.int (nI n2)), some (.int (ν.1 24 t))]) X (xdec_at tL_goes_5 16 rfl) rfl (nI_1 _) (by decide) rfl ?_
              refine v_goto (tgt := 152) X (xdec_at tL_goes_5 17 rfl) (by decide) ?_
              exact v_le (lv' := [some (.ref (l1 (0, 0))), some (.ref (l1 (500, 0))), some (.ref (l1 (300, 0))), some (.int z), some (.int (nI (gD z))), some (.long (sm (μ.2 7) (nP μ))), none, some (.long (sm (μ.2 8) (nP μ))), none, some (.ref (l1 (301, 0))), some (.ref (l1 (302, 0))), some (.int (nI (cnt P (nT μ)))), some (.int (nI (cnt P (t + 1)))), some (.int 1), some (.int (nI (t + 1))), none, none, none]) ⟨rfl, rfl, rfl, rfl, rfl, rfl, rfl, rfl, rfl, rfl, rfl, rfl, rfl, trivial⟩ (v_widen (by show (_ : Nat) ≤ 250 + 2 * D + 16 * (t + 1); omega) (by show (_ : Nat) ≤ 1600 + 4 * D + 96 * (t + 1); omega) K)
            · have hn0 : n2 ≠ 0 := fun q9 => c_354 (by rw [q9]; rfl)
              have h21 : ¬ ν.1 21 t = 0 := fun q9 => hn0 (m4 q9)
              refine v_iload X (xdec_at tL_goes_4 38 rfl) rfl ?_
              refine v_iconst (v := 1) X (xdec_at tL_goes_4 39 rfl) (by decide) ?_
              refine v_icmp_eq (tgt := 384) X (xdec_at tL_goes_5 0 rfl) (by decide) (fun h9 => absurd h9 (by decide)) (fun _ => ?_)
              refine v_iload X (xdec_at tL_goes_5 1 rfl) rfl ?_
              refine v_iconst (v := 3) X (xdec_at tL_goes_5 2 rfl) (by decide) ?_
              refine v_icmp_eq (tgt := 384) X (xdec_at tL_goes_5 3 rfl) (by decide) (fun _ => ?_) (fun h9 => absurd h9 (by decide))
              refine v_iconst (v := 1) X (xdec_at tL_goes_5 12 rfl) (by decide) ?_
              refine v_goto (tgt := 389) X (xdec_at tL_goes_5 13 rfl) (by decide) ?_
              refine v_istore (lv' := [some (.ref (l1 (0, 0))), some (.ref (l1 (500, 0))), some (.ref (l1 (300, 0))), some (.int z), some (.int (nI (gD z))), some (.long (sm (μ.2 7) (nP μ))), none, some (.long (sm (μ.2 8) (nP μ))), none, some (.ref (l1 (301, 0))), some (.ref (l1 (302, 0))), some (.int (nI (cnt P (nT μ)))), some (.int (nI (cnt P (t + 1)))), some (.int 1), some (.int (nI t)), some (.int 3), some (.int (nI n2)), some (.int (ν.1 24 t))]) X (xdec_at tL_goes_5 15 rfl) (by decide) rfl ?_
              refine v_iinc (v := (nI (t + 1))) (lv' := [some (.ref (l1 (0, 0))), some (.ref (l1 (500, 0))), some (.ref (l1 (300, 0))), some (.int z), some (.int (nI (gD z))), some (.long (sm (μ.2 7) (nP μ))), none, some (.long (sm (μ.2 8) (nP μ))), none, some (.ref (l1 (301, 0))), some (.ref (l1 (302, 0))), some (.int (nI (cnt P (nT μ)))), some (.int (nI (cnt P (t + 1)))), some (.int 1), some (.int (nI (t + 1))), some (.int 3), some (.int (nI n2)), some (.int (ν.1 24 t))]) X (xdec_at tL_goes_5 16 rfl) rfl (nI_1 _) (by decide) rfl ?_
              refine v_goto (tgt := 152) X (xdec_at tL_goes_5 17 rfl) (by decide) ?_
              exact v_le (lv' := [some (.ref (l1 (0, 0))), some (.ref (l1 (500, 0))), some (.ref (l1 (300, 0))), some (.int z), some (.int (nI (gD z))), some (.long (sm (μ.2 7) (nP μ))), none, some (.long (sm (μ.2 8) (nP μ))), none, some (.ref (l1 (301, 0))), some (.ref (l1 (302, 0))), some (.int (nI (cnt P (nT μ)))), some (.int (nI (cnt P (t + 1)))), some (.int 1), some (.int (nI (t + 1))), none, none, none]) ⟨rfl, rfl, rfl, rfl, rfl, rfl, rfl, rfl, rfl, rfl, rfl, rfl, rfl, trivial⟩ (v_widen (by show (_ : Nat) ≤ 250 + 2 * D + 16 * (t + 1); omega) (by show (_ : Nat) ≤ 1600 + 4 * D + 96 * (t + 1); omega) K)
      · refine v_iload X (xdec_at tL_goes_2 8 rfl) rfl ?_
        refine v_aload_n X (xdec_at tL_goes_2 9 rfl) rfl rfl ?_
        refine v_iconst (v := 2) X (xdec_at tL_goes_2 10 rfl) (by decide) ?_
        refine x_iald (v := nI (nT μ)) X (300, 0) W2_gd (vp_in_nI (n := 2) (N := 3) (by decide) (by decide)) rfl hf.2.2 (xdec_at tL_goes_2 11 rfl) ?_
        refine v_icmp_ge (tgt := 397) X (xdec_at tL_goes_2 12 rfl) (by decide) (fun _ => ?_) (fun h9 => absurd (nI_le (Nat.le_refl _) (by omega)) h9)
        refine v_iload X (xdec_at tL_goes_5 18 rfl) rfl ?_
        refine v_if_eq (tgt := 413) X (xdec_at tL_goes_5 19 rfl) (by decide) (fun h9 => absurd h9 (by decide)) (fun _ => ?_)
        refine v_iload X (xdec_at tL_goes_5 20 rfl) rfl ?_
        refine v_iload X (xdec_at tL_goes_5 21 rfl) rfl ?_
        refine v_icmp_ne (tgt := 413) X (xdec_at tL_goes_5 22 rfl) (by decide) (fun h9 => absurd rfl h9) (fun _ => ?_)
        refine v_iconst (v := 1) X (xdec_at tL_goes_5 23 rfl) (by decide) ?_
        refine v_goto (tgt := 414) X (xdec_at tL_goes_5 24 rfl) (by decide) ?_
        have e3 : l1 (300, 0) = lay (300, 0) := (y_l1.2.2 (300, 0) (by decide) (by decide)).trans ((nm2 (300, 0) (by decide)).trans (nm1 (300, 0) (by decide)))
        refine v_congr (lay' := lyE lay l1) (C' := W2 Z (lyE lay l1) ν tbn ν tbn (dR Z (dv μ))) (gE_C e3) (gE_L e3) ?_
        have yE : lyL lay (lyE lay l1) := ⟨y_l1.1.trans ((nm2 (0, 0) (by decide)).trans (nm1 (0, 0) (by decide))), y_l1.2.1.trans ((nm2 (500, 0) (by decide)).trans (nm1 (500, 0) (by decide))), fun q h1 h2 => if_pos ⟨h1, h2⟩⟩
        exact v_xr (v_zret X hr (xdec_at tL_goes_5 26 rfl) (by show (_ : Nat) ≤ 900 + 2 * D; omega) (by show (_ : Nat) ≤ 7000 + 4 * D; omega) (by rfl) ⟨rfl, yE, ν, tbn, by rw [dv_e (μ := μ) (ν := ν) (by rw [gp2 0 rfl]) (by rw [gp2 10 rfl]) (by rw [gp2 16 rfl])] <;> rfl, hJ.up, by rw [nGn, nPn]; exact hg, by omega⟩)
  · refine v_iload_n X (xdec_at tL_goes_0 1 rfl) rfl rfl ?_
    refine v_iload_n X (xdec_at tL_goes_0 2 rfl) rfl rfl ?_
    refine v_iconst (v := 4) X (xdec_at tL_goes_0 3 rfl) (by decide) ?_
    refine v_ishrN X rfl (xdec_at tL_goes_0 4 rfl) ?_
    refine v_iconst (v := 3) X (xdec_at tL_goes_0 5 rfl) (by decide) ?_
    refine v_wL X hE myL_some [.int (z >>> (4 &&& 31)), .int (nI 3)] [.int z, .int 1] (c_someN (z >>> (4 &&& 31)) (n := 3) (by decide) (by decide)) (xw_at tW_2 29 rfl) rfl rfl (by rfl) (Nat.le_of_ble_eq_true rfl) (xdec_at tL_goes_0 6 rfl) ⟨(Nat.le_of_ble_eq_true rfl), (Nat.le_of_ble_eq_true rfl)⟩ ⟨by show (_ : Nat) ≤ 900 + 2 * D; omega, by show (_ : Nat) ≤ 7000 + 4 * D; omega⟩ ?_
    rintro v9 lay9 C9 ⟨rfl, rfl, rfl⟩
    refine v_if_ne (tgt := 17) X (xdec_at tL_goes_0 7 rfl) (by decide) (fun c_9 => ?_) (fun c_9 => ?_)
    · refine v_iconst (v := 4) X (xdec_at tL_goes_0 10 rfl) (by decide) ?_
      refine v_wL X hE myL_some [.int z, .int (nI 4)] [.int 1] (c_someN z (n := 4) (by decide) (by decide)) (xw_at tW_2 29 rfl) rfl rfl (by rfl) (Nat.le_of_ble_eq_true rfl) (xdec_at tL_goes_0 11 rfl) ⟨(Nat.le_of_ble_eq_true rfl), (Nat.le_of_ble_eq_true rfl)⟩ ⟨by show (_ : Nat) ≤ 900 + 2 * D; omega, by show (_ : Nat) ≤ 7000 + 4 * D; omega⟩ ?_
      rintro v9 lay9 C9 ⟨rfl, rfl, rfl⟩
      refine v_iadd X (xdec_at tL_goes_0 12 rfl) ?_
      refine v_st (st' := [.int (nI (gD z))]) (by rw [show (1 : Int32) = nI 1 from rfl, nI_add, gD, if_neg (fun q9 => c_9 (by rw [q9]; rfl))] <;> rfl) ?_
      refine v_istore (lv' := [some (.ref (lay (0, 0))), some (.ref (lay (500, 0))), some (.ref (lay (300, 0))), some (.int z), some (.int (nI (gD z))), none, none, none, none, none, none, none, none, none, none, none, none, none]) X (xdec_at tL_goes_0 13 rfl) (by decide) rfl ?_
      exact J24
    · refine v_bipush (v := 14) X (xdec_at tL_goes_0 8 rfl) (by decide) ?_
      refine v_goto (tgt := 18) X (xdec_at tL_goes_0 9 rfl) (by decide) ?_
      refine v_wL X hE myL_some [.int z, .int (nI 14)] [.int 1] (c_someN z (n := 14) (by decide) (by decide)) (xw_at tW_2 29 rfl) rfl rfl (by rfl) (Nat.le_of_ble_eq_true rfl) (xdec_at tL_goes_0 11 rfl) ⟨(Nat.le_of_ble_eq_true rfl), (Nat.le_of_ble_eq_true rfl)⟩ ⟨by show (_ : Nat) ≤ 900 + 2 * D; omega, by show (_ : Nat) ≤ 7000 + 4 * D; omega⟩ ?_
      rintro v9 lay9 C9 ⟨rfl, rfl, rfl⟩
      refine v_iadd X (xdec_at tL_goes_0 12 rfl) ?_
      refine v_st (st' := [.int (nI (gD z))]) (by rw [show (1 : Int32) = nI 1 from rfl, nI_add, gD, if_pos (nI_inj (b := 0) (Nat.lt_trans (sN_lt _ (by decide)) (by decide)) (by decide) c_9)] <;> rfl) ?_
      refine v_istore (lv' := [some (.ref (lay (0, 0))), some (.ref (lay (500, 0))), some (.ref (lay (300, 0))), some (.int z), some (.int (nI (gD z))), none, none, none, none, none, none, none, none, none, none, none, none, none]) X (xdec_at tL_goes_0 13 rfl) (by decide) rfl ?_
      exact J24
