/-! the law's mails -/
theorem Pp_mailK {μ : Mu} {tb : Tb} {k : Nat} (h : LJ μ tb k) (a rg : Int32) : Pp tb ≤ Pp (KT_mail μ tb a rg) := by
  have e : ∀ t, tb.2.2 t ≤ (KT_mail μ tb a rg).2.2 t := fun t => by
    unfold KT_mail
    dsimp only
    by_cases ht : t = nT μ
    · rw [ht, h.1.1.2.2.2.2.2.2 _ (Nat.le_refl _)]
      exact Nat.zero_le _
    · rw [if_neg ht]
      exact Nat.le_refl _
  have : ∀ n, capS tb n ≤ capS (KT_mail μ tb a rg) n := by
    intro n
    induction n with
    | zero => exact Nat.le_refl _
    | succ n ih =>
      rw [capS, capS]
      have := e n
      omega
  exact this 40
theorem arG_n {q g : Nat} (h1 : 1 ≤ g) (h : g ≤ (if q = 1 then 20 else 2000)) (hq : q < 3 := by omega) : arG (nI q) (nI g) := by
  unfold arG
  by_cases hq1 : q = 1
  · subst hq1
    rw [if_pos rfl] at h
    rw [if_pos (show nI 1 = 1 from rfl)]
    exact ⟨nI_le (a := 1) h1 (by omega), nI_le (b := 20) h (by decide)⟩
  · rw [if_neg hq1] at h
    rw [if_neg (show ¬ nI q = 1 from fun z => hq1 (nI_inj (b := 1) (by omega) (by decide) z))]
    exact ⟨nI_le (a := 1) h1 (by omega), nI_le (b := 2000) h (by decide)⟩
set_option maxRecDepth 100000 in
set_option maxHeartbeats 8000000 in
theorem c_mails {l : Launch} (hl0 : l.stackTraces = false) {Z : xZ} {B0 : Nat} {lay : xK → Nat} {μ : Mu} {tb : Tb} {k : Nat} (z : Int32) (hL : LJ μ tb k) (hk : k < 500) (hg : 0 < nG μ → 3 ≤ nP μ) (hP3 : 3 ≤ nP μ) : YL l yL_mails cL_mails 14 (some FieldType.boolean) 23 850 900 7000 Z B0 [.ref (lay (0, 0)), .ref (lay (500, 0)), .ref (lay (300, 0)), .int z] lay (W2 Z lay μ tb μ tb (dR Z (dv μ))) (LPo Z lay tb k) := by
  have hP8 := nP8 hL.I
  have hG20 := nG20 hL.I
  have hT40 := nT40 hL.I
  have hf := dv_F hL.I
  refine YL_of myL_mails.2 RL rfl [some (.ref (lay (0, 0))), some (.ref (lay (500, 0))), some (.ref (lay (300, 0))), some (.int z), none, none, none, none, none, none, none, none, none, none] rfl (Nat.le_of_ble_eq_true rfl) ?_
  intro P1 P2 P3 P4 P5 P6 P7 P8 X hr hE
  refine v_iload_n X (xdec_at tL_mails_0 0 rfl) rfl rfl ?_
  refine v_iconst (v := 3) X (xdec_at tL_mails_0 1 rfl) (by decide) ?_
  refine v_wL X hE myL_some [.int z, .int (nI 3)] [] (c_some z (n := 3) (by decide) (by decide)) (xw_at tW_2 29 rfl) rfl rfl (by rfl) (Nat.le_of_ble_eq_true rfl) (xdec_at tL_mails_0 2 rfl) ⟨(Nat.le_of_ble_eq_true rfl), (Nat.le_of_ble_eq_true rfl)⟩ ⟨(Nat.le_of_ble_eq_true rfl), (Nat.le_of_ble_eq_true rfl)⟩ ?_
  rintro v9 lay9 C9 ⟨rfl, rfl, u0, hu0, rfl⟩
  refine v_istore (lv' := [some (.ref (lay (0, 0))), some (.ref (lay (500, 0))), some (.ref (lay (300, 0))), some (.int z), some (.int (nI u0)), none, none, none, none, none, none, none, none, none]) X (xdec_at tL_mails_0 3 rfl) (by decide) rfl ?_
  refine v_iload_n X (xdec_at tL_mails_0 4 rfl) rfl rfl ?_
  refine v_iconst (v := 3) X (xdec_at tL_mails_0 5 rfl) (by decide) ?_
  refine v_ishr X (xdec_at tL_mails_0 6 rfl) fun u1 => ?_
  refine v_aload_n X (xdec_at tL_mails_0 7 rfl) rfl rfl ?_
  refine v_iconst (v := 0) X (xdec_at tL_mails_0 8 rfl) (by decide) ?_
  refine x_iald (v := nI (nP μ)) X (300, 0) W2_d (vp_in_nI (n := 0) (N := 3) (by decide) (by decide)) rfl hf.1 (xdec_at tL_mails_0 9 rfl) ?_
  refine v_wL X hE myL_some [.int u1, .int (nI (nP μ))] [] (c_some u1 (n := nP μ) (by omega) (by omega)) (xw_at tW_2 29 rfl) rfl rfl (by rfl) (Nat.le_of_ble_eq_true rfl) (xdec_at tL_mails_0 10 rfl) ⟨(Nat.le_of_ble_eq_true rfl), (Nat.le_of_ble_eq_true rfl)⟩ ⟨(Nat.le_of_ble_eq_true rfl), (Nat.le_of_ble_eq_true rfl)⟩ ?_
  rintro v9 lay9 C9 ⟨rfl, rfl, u2, hu2, rfl⟩
  refine v_istore (lv' := [some (.ref (lay (0, 0))), some (.ref (lay (500, 0))), some (.ref (lay (300, 0))), some (.int z), some (.int (nI u0)), some (.int (nI u2)), none, none, none, none, none, none, none, none]) X (xdec_at tL_mails_0 11 rfl) (by decide) rfl ?_
  refine v_iload X (xdec_at tL_mails_0 12 rfl) rfl ?_
  refine v_iconst (v := 1) X (xdec_at tL_mails_0 13 rfl) (by decide) ?_
  refine v_iadd X (xdec_at tL_mails_0 14 rfl) ?_
  refine v_st (st' := [.int (nI (u2 + 1))]) (by rw [nI_1] <;> rfl) ?_
  refine v_iload_n X (xdec_at tL_mails_0 15 rfl) rfl rfl ?_
  refine v_bipush (v := 6) X (xdec_at tL_mails_0 16 rfl) (by decide) ?_
  refine v_ishr X (xdec_at tL_mails_0 17 rfl) fun u3 => ?_
  refine v_aload_n X (xdec_at tL_mails_0 18 rfl) rfl rfl ?_
  refine v_iconst (v := 0) X (xdec_at tL_mails_0 19 rfl) (by decide) ?_
  refine x_iald (v := nI (nP μ)) X (300, 0) W2_d (vp_in_nI (n := 0) (N := 3) (by decide) (by decide)) rfl hf.1 (xdec_at tL_mails_0 20 rfl) ?_
  refine v_iconst (v := 1) X (xdec_at tL_mails_0 21 rfl) (by decide) ?_
  refine v_isub X (xdec_at tL_mails_0 22 rfl) ?_
  refine v_st (st' := [.int (nI ((nP μ) - 1)), .int u3, .int (nI (u2 + 1))]) (by rw [show nI (nP μ) - 1 = nI ((nP μ) - 1) from pk_sub (b := 1) (by omega)]) ?_
  refine v_wL X hE myL_some [.int u3, .int (nI ((nP μ) - 1))] [.int (nI (u2 + 1))] (c_some u3 (n := (nP μ) - 1) (by omega) (by omega)) (xw_at tW_2 29 rfl) rfl rfl (by rfl) (Nat.le_of_ble_eq_true rfl) (xdec_at tL_mails_0 23 rfl) ⟨(Nat.le_of_ble_eq_true rfl), (Nat.le_of_ble_eq_true rfl)⟩ ⟨(Nat.le_of_ble_eq_true rfl), (Nat.le_of_ble_eq_true rfl)⟩ ?_
  rintro v9 lay9 C9 ⟨rfl, rfl, u4, hu4, rfl⟩
  refine v_iadd X (xdec_at tL_mails_0 24 rfl) ?_
  refine v_st (st' := [.int (nI (u2 + 1 + u4))]) (by rw [nI_add] <;> rfl) ?_
  refine v_aload_n X (xdec_at tL_mails_0 25 rfl) rfl rfl ?_
  refine v_iconst (v := 0) X (xdec_at tL_mails_0 26 rfl) (by decide) ?_
  refine x_iald (v := nI (nP μ)) X (300, 0) W2_d (vp_in_nI (n := 0) (N := 3) (by decide) (by decide)) rfl hf.1 (xdec_at tL_mails_0 27 rfl) ?_
  refine v_irem X (xdec_at tL_mails_0 28 rfl) (nI_ne0 (by omega) (by omega)) ?_
  obtain ⟨o_, ho_⟩ : ∃ o_, o_ = (u2 + 1 + u4) % (nP μ) := ⟨_, rfl⟩
  have ho := oth_ne (p := u2) (j := u4) (P := nP μ) (by omega) (by omega)
  rw [← ho_] at ho
  refine v_st (st' := [.int (nI o_)]) (by rw [pk_rem (by omega) (by omega) (by omega), ho_]) ?_
  refine v_istore (lv' := [some (.ref (lay (0, 0))), some (.ref (lay (500, 0))), some (.ref (lay (300, 0))), some (.int z), some (.int (nI u0)), some (.int (nI u2)), some (.int (nI o_)), none, none, none, none, none, none, none]) X (xdec_at tL_mails_0 29 rfl) (by decide) rfl ?_
  refine v_iload X (xdec_at tL_mails_0 30 rfl) rfl ?_
  refine v_iconst (v := 1) X (xdec_at tL_mails_0 31 rfl) (by decide) ?_
  refine v_icmp_ne (tgt := 61) X (xdec_at tL_mails_0 32 rfl) (by decide) (fun c_44 => ?_) (fun c_44 => ?_)
  · have hq1 : ¬ u0 = 1 := fun q9 => c_44 (by rw [q9]; rfl)
    refine v_iconst (v := 1) X (xdec_at tL_mails_1 1 rfl) (by decide) ?_
    refine v_iload_n X (xdec_at tL_mails_1 2 rfl) rfl rfl ?_
    refine v_bipush (v := 9) X (xdec_at tL_mails_1 3 rfl) (by decide) ?_
    refine v_ishr X (xdec_at tL_mails_1 4 rfl) fun u5 => ?_
    refine v_bipush (v := 120) X (xdec_at tL_mails_1 5 rfl) (by decide) ?_
    refine v_wL X hE myL_some [.int u5, .int (nI 120)] [.int 1] (c_some u5 (n := 120) (by decide) (by decide)) (xw_at tW_2 29 rfl) rfl rfl (by rfl) (Nat.le_of_ble_eq_true rfl) (xdec_at tL_mails_1 6 rfl) ⟨(Nat.le_of_ble_eq_true rfl), (Nat.le_of_ble_eq_true rfl)⟩ ⟨(Nat.le_of_ble_eq_true rfl), (Nat.le_of_ble_eq_true rfl)⟩ ?_
    rintro v9 lay9 C9 ⟨rfl, rfl, u6, hu6, rfl⟩
    refine v_iadd X (xdec_at tL_mails_1 7 rfl) ?_
    refine v_st (st' := [.int (nI (1 + u6))]) (by rw [show (1 : Int32) = nI 1 from rfl, nI_add] <;> rfl) ?_
    refine v_istore (lv' := [some (.ref (lay (0, 0))), some (.ref (lay (500, 0))), some (.ref (lay (300, 0))), some (.int z), some (.int (nI u0)), some (.int (nI u2)), some (.int (nI o_)), some (.int (nI (1 + u6))), none, none, none, none, none, none]) X (xdec_at tL_mails_1 8 rfl) (by decide) rfl ?_
    have hgr : 1 + u6 ≤ (if u0 = 1 then 20 else 2000) := by rw [if_neg hq1]; omega
    refine v_iload_n X (xdec_at tL_mails_1 9 rfl) rfl rfl ?_
    refine v_bipush (v := 12) X (xdec_at tL_mails_1 10 rfl) (by decide) ?_
    refine v_ishr X (xdec_at tL_mails_1 11 rfl) fun u7 => ?_
    refine v_sipush (v := 400) X (xdec_at tL_mails_1 12 rfl) (by decide) ?_
    refine v_wL X hE myL_some [.int u7, .int (nI 400)] [] (c_some u7 (n := 400) (by decide) (by decide)) (xw_at tW_2 29 rfl) rfl rfl (by rfl) (Nat.le_of_ble_eq_true rfl) (xdec_at tL_mails_1 13 rfl) ⟨(Nat.le_of_ble_eq_true rfl), (Nat.le_of_ble_eq_true rfl)⟩ ⟨(Nat.le_of_ble_eq_true rfl), (Nat.le_of_ble_eq_true rfl)⟩ ?_
    rintro v9 lay9 C9 ⟨rfl, rfl, u8, hu8, rfl⟩
    refine v_istore (lv' := [some (.ref (lay (0, 0))), some (.ref (lay (500, 0))), some (.ref (lay (300, 0))), some (.int z), some (.int (nI u0)), some (.int (nI u2)), some (.int (nI o_)), some (.int (nI (1 + u6))), some (.int (nI u8)), none, none, none, none, none]) X (xdec_at tL_mails_1 14 rfl) (by decide) rfl ?_
    refine v_iload_n X (xdec_at tL_mails_1 15 rfl) rfl rfl ?_
    refine v_iconst (v := 5) X (xdec_at tL_mails_1 16 rfl) (by decide) ?_
    refine v_ishr X (xdec_at tL_mails_1 17 rfl) fun u9 => ?_
    refine v_iconst (v := 2) X (xdec_at tL_mails_1 18 rfl) (by decide) ?_
    refine v_wL X hE myL_some [.int u9, .int (nI 2)] [] (c_some u9 (n := 2) (by decide) (by decide)) (xw_at tW_2 29 rfl) rfl rfl (by rfl) (Nat.le_of_ble_eq_true rfl) (xdec_at tL_mails_1 19 rfl) ⟨(Nat.le_of_ble_eq_true rfl), (Nat.le_of_ble_eq_true rfl)⟩ ⟨(Nat.le_of_ble_eq_true rfl), (Nat.le_of_ble_eq_true rfl)⟩ ?_
    rintro v9 lay9 C9 ⟨rfl, rfl, u10, hu10, rfl⟩
    refine v_istore (lv' := [some (.ref (lay (0, 0))), some (.ref (lay (500, 0))), some (.ref (lay (300, 0))), some (.int z), some (.int (nI u0)), some (.int (nI u2)), some (.int (nI o_)), some (.int (nI (1 + u6))), some (.int (nI u8)), some (.int (nI u10)), none, none, none, none]) X (xdec_at tL_mails_1 20 rfl) (by decide) rfl ?_
    obtain rfl | rfl : u10 = 0 ∨ u10 = 1 := by omega
    · refine v_aload_n X (xdec_at tL_mails_1 21 rfl) rfl rfl ?_
      refine v_iload X (xdec_at tL_mails_1 22 rfl) rfl ?_
      refine v_wN X hE myX4_till [.int (nI u2)] [] (qy_till hl0 hL.I hu2) (xw_at tW_4 9 rfl) (0, 0) cX_X rfl rfl rfl rfl (by rfl) (Nat.le_of_ble_eq_true rfl) (xdec_at tL_mails_1 23 rfl) ⟨(Nat.le_of_ble_eq_true rfl), (Nat.le_of_ble_eq_true rfl)⟩ ⟨(Nat.le_of_ble_eq_true rfl), (Nat.le_of_ble_eq_true rfl)⟩ ?_
      rintro v9 lay9 C9 ⟨rfl, rfl, rfl⟩
      refine v_lstore (lv' := [some (.ref (lay (0, 0))), some (.ref (lay (500, 0))), some (.ref (lay (300, 0))), some (.int z), some (.int (nI u0)), some (.int (nI u2)), some (.int (nI o_)), some (.int (nI (1 + u6))), some (.int (nI u8)), some (.int (nI 0)), some (.long (μ.2 8 u2)), none, none, none]) X (xdec_at tL_mails_1 24 rfl) (by decide) rfl ?_
      refine v_aload_n X (xdec_at tL_mails_1 25 rfl) rfl rfl ?_
      refine v_iload X (xdec_at tL_mails_1 26 rfl) rfl ?_
      refine v_iload X (xdec_at tL_mails_1 27 rfl) rfl ?_
      refine v_iload X (xdec_at tL_mails_1 28 rfl) rfl ?_
      refine v_iload X (xdec_at tL_mails_1 29 rfl) rfl ?_
      refine v_iconst (v := 1) X (xdec_at tL_mails_1 30 rfl) (by decide) ?_
      refine v_icmp_ne (tgt := 120) X (xdec_at tL_mails_1 31 rfl) (by decide) (fun _ => ?_) (fun h9 => absurd h9 (show ¬ nI 0 = 1 from by decide))
      refine v_iconst (v := 0) X (xdec_at tL_mails_1 34 rfl) (by decide) ?_
      refine v_st (st' := [.int (nI 0), .int (nI (1 + u6)), .int (nI u2), .int (nI u0), .ref (lay (0, 0))]) (by rfl) ?_
      have hgA : arG (nI u0) (nI (1 + u6)) := arG_n (by omega) hgr
      refine v_wN X hE myX4_rate [.int (nI u0), .int (nI u2), .int (nI (1 + u6)), .int (nI 0)] [] (qy_rate hl0 hL.I hu2 (isK_n hu0) hgA) (xw_at tW_4 38 rfl) (0, 0) cX_X rfl rfl rfl rfl (by rfl) (Nat.le_of_ble_eq_true rfl) (xdec_at tL_mails_1 35 rfl) ⟨(Nat.le_of_ble_eq_true rfl), (Nat.le_of_ble_eq_true rfl)⟩ ⟨(Nat.le_of_ble_eq_true rfl), (Nat.le_of_ble_eq_true rfl)⟩ ?_
      rintro v9 lay9 C9 ⟨rfl, rfl, rfl⟩
      refine v_istore (lv' := [some (.ref (lay (0, 0))), some (.ref (lay (500, 0))), some (.ref (lay (300, 0))), some (.int z), some (.int (nI u0)), some (.int (nI u2)), some (.int (nI o_)), some (.int (nI (1 + u6))), some (.int (nI u8)), some (.int (nI 0)), some (.long (μ.2 8 u2)), none, some (.int (M_rateOf μ (nI u0) (nI u2) (nI (1 + u6)) (nI 0))), none]) X (xdec_at tL_mails_1 36 rfl) (by decide) rfl ?_
      have hb9 : bo (nI 0) = nI 0 := by decide
      by_cases hT : nT μ < 40
      · obtain ⟨eM, hJ, ⟨n1, n2, n3⟩, e8, ⟨f23, f24, f26, f19, f27, f35, fh⟩, htx⟩ := cm_mail (a := u2) (b := o_) (q := u0) (g := 1 + u6) (pd := u8) (rg := 0) hL hk hu2 ho.1 ho.2 hu0 (by omega) hgr (by omega) (by omega) hT
        obtain ⟨ν, hν⟩ : ∃ ν, ν = M_mailS μ (nI u0) (nI u2) (nI o_) (nI (1 + u6)) (nI u8) (nI 0) := ⟨_, rfl⟩
        rw [← hν] at eM hJ n1 n2 n3 e8 f23 f24 f26 f19 f27 f35 htx
        have e38 : (M_mail μ (nI u0) (nI u2) (nI o_) (nI (1 + u6)) (nI u8) (nI 0)).2.1 38 0 = 0 := by rw [eM]; exact hJ.z
        have hOK : MailOK l Z B0 μ tb (nI u0) (nI u2) (nI o_) (nI (1 + u6)) (nI u8) (nI 0) (nI (nT μ)) ν (KT_mail μ tb (nI u2) (nI 0)) := by
          intro lay r hr2
          refine mail_of hl0 hL.I hL.K hr2 (hL.M hk) (fun _ => ⟨by rw [hb9, eM], fun _ => by rw [hb9, eM]⟩) ?_
          rw [hb9]
          rintro E (⟨rfl, h9⟩ | ⟨rfl, h9⟩ | ⟨rfl, h9⟩) <;> exact absurd (e38.symm.trans h9) (by decide)
        refine v_aload_n X (xdec_at tL_mails_1 37 rfl) rfl rfl ?_
        refine v_iload X (xdec_at tL_mails_1 38 rfl) rfl ?_
        refine v_iload X (xdec_at tL_mails_1 39 rfl) rfl ?_
        refine v_iload X (xdec_at tL_mails_2 0 rfl) rfl ?_
        refine v_iload X (xdec_at tL_mails_2 1 rfl) rfl ?_
        refine v_iload X (xdec_at tL_mails_2 2 rfl) rfl ?_
        refine v_iload X (xdec_at tL_mails_2 3 rfl) rfl ?_
        refine v_wC X hE mw_mail [.ref (lay (0, 0)), .int (nI u0), .int (nI u2), .int (nI o_), .int (nI (1 + u6)), .int (nI u8), .int (nI 0)] [] (mail_W rfl hOK) (xw_at tW_12 8 rfl) rfl (by rfl) (Nat.le_of_ble_eq_true rfl) (xdec_at tL_mails_2 4 rfl) ⟨(Nat.le_of_ble_eq_true rfl), (Nat.le_of_ble_eq_true rfl)⟩ ⟨(Nat.le_of_ble_eq_true rfl), (Nat.le_of_ble_eq_true rfl)⟩ ?_
        rintro v9 l1 C9 ⟨rfl, y_l1, rfl⟩
        rw [← y_l1.1, ← y_l1.2.1, ← y_l1.2.2 (300, 0) (by decide) (by decide)]
        refine v_istore (lv' := [some (.ref (l1 (0, 0))), some (.ref (l1 (500, 0))), some (.ref (l1 (300, 0))), some (.int z), some (.int (nI u0)), some (.int (nI u2)), some (.int (nI o_)), some (.int (nI (1 + u6))), some (.int (nI u8)), some (.int (nI 0)), some (.long (μ.2 8 u2)), none, some (.int (M_rateOf μ (nI u0) (nI u2) (nI (1 + u6)) (nI 0))), some (.int (nI (nT μ)))]) X (xdec_at tL_mails_2 5 rfl) (by decide) rfl ?_
        refine v_iload X (xdec_at tL_mails_2 6 rfl) rfl ?_
        refine v_aload_n X (xdec_at tL_mails_2 7 rfl) rfl rfl ?_
        refine v_iload X (xdec_at tL_mails_2 8 rfl) rfl ?_
        refine v_iload X (xdec_at tL_mails_2 9 rfl) rfl ?_
        refine v_iload X (xdec_at tL_mails_2 10 rfl) rfl ?_
        refine v_iload X (xdec_at tL_mails_2 11 rfl) rfl ?_
        refine v_iload X (xdec_at tL_mails_2 12 rfl) rfl ?_
        refine v_iload X (xdec_at tL_mails_2 13 rfl) rfl ?_
        refine v_wC X hE mw_mail [.ref (l1 (500, 0)), .int (nI u0), .int (nI u2), .int (nI o_), .int (nI (1 + u6)), .int (nI u8), .int (nI 0)] [.int (nI (nT μ))] (mail_T rfl hOK) (xw_at tW_12 8 rfl) rfl (by rfl) (Nat.le_of_ble_eq_true rfl) (xdec_at tL_mails_2 14 rfl) ⟨(Nat.le_of_ble_eq_true rfl), (Nat.le_of_ble_eq_true rfl)⟩ ⟨(Nat.le_of_ble_eq_true rfl), (Nat.le_of_ble_eq_true rfl)⟩ ?_
        rintro v9 l2 C9 ⟨rfl, y_l2, rfl⟩
        rw [← y_l2.1, ← y_l2.2.1, ← y_l2.2.2 (300, 0) (by decide) (by decide)]
        refine v_icmp_eq (tgt := 167) X (xdec_at tL_mails_2 15 rfl) (by decide) (fun _ => ?_) (fun h9 => absurd rfl h9)
        refine v_iload X (xdec_at tL_mails_2 18 rfl) rfl ?_
        refine v_ldc (v := -2000000003) X (xw_at tW_12 2 rfl) (xdec_at tL_mails_2 19 rfl) ?_
        refine v_icmp_ne (tgt := 200) X (xdec_at tL_mails_2 20 rfl) (by decide) (fun _ => ?_) (fun h9 => absurd h9 (notneg (n := nT μ) (by omega)))
        refine v_aload_n X (xdec_at tL_mails_2 36 rfl) rfl rfl ?_
        refine v_iconst (v := 2) X (xdec_at tL_mails_2 37 rfl) (by decide) ?_
        refine v_dup2_11 X (xdec_at tL_mails_2 38 rfl) rfl rfl ?_
        refine x_iald (v := nI (nT μ)) X (300, 0) W2_d (vp_in_nI (n := 2) (N := 3) (by decide) (by decide)) rfl hf.2.2 (xdec_at tL_mails_2 39 rfl) ?_
        refine v_iconst (v := 1) X (xdec_at tL_mails_3 0 rfl) (by decide) ?_
        refine v_iadd X (xdec_at tL_mails_3 1 rfl) ?_
        refine x_iast (C' := W2 Z l2 ν (KT_mail μ tb (nI u2) (nI 0)) ν (KT_mail μ tb (nI u2) (nI 0)) (dR Z (dv ν))) X (300, 0) W2_d (vp_in_nI (n := 2) (N := 3) (by decide) (by decide)) rfl (W2_up (i := 2) (dv_2 (by rw [nPe hJ.I, n1, ← nPe hL.I]) (by rw [nGe hJ.I, n2, ← nGe hL.I]) (by rw [nI_1, nTe hJ.I, n3]))) (xdec_at tL_mails_3 2 rfl) ?_
        refine v_iload X (xdec_at tL_mails_3 3 rfl) rfl ?_
        refine v_aload_n X (xdec_at tL_mails_3 4 rfl) rfl rfl ?_
        refine v_iconst (v := 2) X (xdec_at tL_mails_3 5 rfl) (by decide) ?_
        refine x_iald (v := nI (nT μ + 1)) X (300, 0) W2_d (vp_in_nI (n := 2) (N := 3) (by decide) (by decide)) rfl (show dv ν 2 = _ from by show ν.1 16 0 = _; rw [nTe hJ.I, n3]) (xdec_at tL_mails_3 6 rfl) ?_
        refine v_iconst (v := 1) X (xdec_at tL_mails_3 7 rfl) (by decide) ?_
        refine v_isub X (xdec_at tL_mails_3 8 rfl) ?_
        refine v_icmp_ne (tgt := 369) X (xdec_at tL_mails_3 9 rfl) (by decide) (fun h9 => absurd (show nI (nT μ) = nI (nT μ + 1) - 1 from (nI_pred _).symm) h9) (fun _ => ?_)
        refine v_aload_n X (xdec_at tL_mails_3 10 rfl) rfl rfl ?_
        refine v_iload X (xdec_at tL_mails_3 11 rfl) rfl ?_
        refine v_wN X hE myX4_till [.int (nI u2)] [] (qy_till hl0 hJ.I (show u2 < nP ν from by omega)) (xw_at tW_4 9 rfl) (0, 0) cX_X rfl rfl rfl rfl (by rfl) (Nat.le_of_ble_eq_true rfl) (xdec_at tL_mails_3 12 rfl) ⟨(Nat.le_of_ble_eq_true rfl), (Nat.le_of_ble_eq_true rfl)⟩ ⟨(Nat.le_of_ble_eq_true rfl), (Nat.le_of_ble_eq_true rfl)⟩ ?_
        rintro v9 lay9 C9 ⟨rfl, rfl, rfl⟩
        refine v_lload X (xdec_at tL_mails_3 13 rfl) rfl ?_
        refine v_iload X (xdec_at tL_mails_3 14 rfl) rfl ?_
        refine v_i2l X (xdec_at tL_mails_3 15 rfl) rfl ?_
        refine v_ladd X (xdec_at tL_mails_3 16 rfl) ?_
        refine v_lcmp X (xdec_at tL_mails_3 17 rfl) ?_
        refine v_if_ne (tgt := 369) X (xdec_at tL_mails_3 18 rfl) (by decide) (fun h9 => absurd (lcz e8) h9) (fun _ => ?_)
        refine v_aload_n X (xdec_at tL_mails_3 19 rfl) rfl rfl ?_
        refine v_iload X (xdec_at tL_mails_3 20 rfl) rfl ?_
        refine v_iconst (v := 0) X (xdec_at tL_mails_3 21 rfl) (by decide) ?_
        refine v_wN X hE myX4_ofThing [.int (nI (nT μ)), .int 0] [] (qy_ofThing (t := nT μ) (w := 0) hl0 hJ.I hJ.K (show nT μ < nT ν from by omega) (by decide)) (xw_at tW_5 30 rfl) (0, 0) cX_X rfl rfl rfl rfl (by rfl) (Nat.le_of_ble_eq_true rfl) (xdec_at tL_mails_3 22 rfl) ⟨(Nat.le_of_ble_eq_true rfl), (Nat.le_of_ble_eq_true rfl)⟩ ⟨(Nat.le_of_ble_eq_true rfl), (Nat.le_of_ble_eq_true rfl)⟩ ?_
        rintro v9 lay9 C9 ⟨rfl, rfl, rfl⟩
        refine v_lconst (v := 0) X (xdec_at tL_mails_3 23 rfl) (by decide) ?_
        refine v_lcmp X (xdec_at tL_mails_3 24 rfl) ?_
        refine v_if_ne (tgt := 369) X (xdec_at tL_mails_3 25 rfl) (by decide) (fun h9 => absurd (lcz (show (ν.1 23 (nT μ)).toInt64 = 0 from by rw [f23]; rfl)) h9) (fun _ => ?_)
        refine v_aload_n X (xdec_at tL_mails_3 26 rfl) rfl rfl ?_
        refine v_iload X (xdec_at tL_mails_3 27 rfl) rfl ?_
        refine v_iconst (v := 1) X (xdec_at tL_mails_3 28 rfl) (by decide) ?_
        refine v_wN X hE myX4_ofThing [.int (nI (nT μ)), .int 1] [] (qy_ofThing (t := nT μ) (w := 1) hl0 hJ.I hJ.K (show nT μ < nT ν from by omega) (by decide)) (xw_at tW_5 30 rfl) (0, 0) cX_X rfl rfl rfl rfl (by rfl) (Nat.le_of_ble_eq_true rfl) (xdec_at tL_mails_3 29 rfl) ⟨(Nat.le_of_ble_eq_true rfl), (Nat.le_of_ble_eq_true rfl)⟩ ⟨(Nat.le_of_ble_eq_true rfl), (Nat.le_of_ble_eq_true rfl)⟩ ?_
        rintro v9 lay9 C9 ⟨rfl, rfl, rfl⟩
        refine v_iload X (xdec_at tL_mails_3 30 rfl) rfl ?_
        refine v_i2l X (xdec_at tL_mails_3 31 rfl) rfl ?_
        refine v_lcmp X (xdec_at tL_mails_3 32 rfl) ?_
        refine v_if_ne (tgt := 369) X (xdec_at tL_mails_3 33 rfl) (by decide) (fun h9 => absurd (lcz (show (ν.1 24 (nT μ)).toInt64 = _ from by rw [f24])) h9) (fun _ => ?_)
        refine v_aload_n X (xdec_at tL_mails_3 34 rfl) rfl rfl ?_
        refine v_iload X (xdec_at tL_mails_3 35 rfl) rfl ?_
        refine v_iconst (v := 2) X (xdec_at tL_mails_3 36 rfl) (by decide) ?_
        refine v_wN X hE myX4_ofThing [.int (nI (nT μ)), .int 2] [] (qy_ofThing (t := nT μ) (w := 2) hl0 hJ.I hJ.K (show nT μ < nT ν from by omega) (by decide)) (xw_at tW_5 30 rfl) (0, 0) cX_X rfl rfl rfl rfl (by rfl) (Nat.le_of_ble_eq_true rfl) (xdec_at tL_mails_3 37 rfl) ⟨(Nat.le_of_ble_eq_true rfl), (Nat.le_of_ble_eq_true rfl)⟩ ⟨(Nat.le_of_ble_eq_true rfl), (Nat.le_of_ble_eq_true rfl)⟩ ?_
        rintro v9 lay9 C9 ⟨rfl, rfl, rfl⟩
        refine v_lconst (v := 0) X (xdec_at tL_mails_3 38 rfl) (by decide) ?_
        refine v_lcmp X (xdec_at tL_mails_3 39 rfl) ?_
        refine v_if_ne (tgt := 369) X (xdec_at tL_mails_4 0 rfl) (by decide) (fun h9 => absurd (lcz (show (ν.1 26 (nT μ)).toInt64 = 0 from by rw [f26]; rfl)) h9) (fun _ => ?_)
        refine v_aload_n X (xdec_at tL_mails_4 1 rfl) rfl rfl ?_
        refine v_iload X (xdec_at tL_mails_4 2 rfl) rfl ?_
        refine v_iconst (v := 3) X (xdec_at tL_mails_4 3 rfl) (by decide) ?_
        refine v_wN X hE myX4_ofThing [.int (nI (nT μ)), .int 3] [] (qy_ofThing (t := nT μ) (w := 3) hl0 hJ.I hJ.K (show nT μ < nT ν from by omega) (by decide)) (xw_at tW_5 30 rfl) (0, 0) cX_X rfl rfl rfl rfl (by rfl) (Nat.le_of_ble_eq_true rfl) (xdec_at tL_mails_4 4 rfl) ⟨(Nat.le_of_ble_eq_true rfl), (Nat.le_of_ble_eq_true rfl)⟩ ⟨(Nat.le_of_ble_eq_true rfl), (Nat.le_of_ble_eq_true rfl)⟩ ?_
        rintro v9 lay9 C9 ⟨rfl, rfl, rfl⟩
        refine v_iload X (xdec_at tL_mails_4 5 rfl) rfl ?_
        refine v_i2l X (xdec_at tL_mails_4 6 rfl) rfl ?_
        refine v_lcmp X (xdec_at tL_mails_4 7 rfl) ?_
        refine v_if_ne (tgt := 369) X (xdec_at tL_mails_4 8 rfl) (by decide) (fun h9 => absurd (lcz (show (ν.1 19 (nT μ)).toInt64 = _ from by rw [f19])) h9) (fun _ => ?_)
        refine v_aload_n X (xdec_at tL_mails_4 9 rfl) rfl rfl ?_
        refine v_iload X (xdec_at tL_mails_4 10 rfl) rfl ?_
        refine v_iconst (v := 4) X (xdec_at tL_mails_4 11 rfl) (by decide) ?_
        refine v_wN X hE myX4_ofThing [.int (nI (nT μ)), .int 4] [] (qy_ofThing (t := nT μ) (w := 4) hl0 hJ.I hJ.K (show nT μ < nT ν from by omega) (by decide)) (xw_at tW_5 30 rfl) (0, 0) cX_X rfl rfl rfl rfl (by rfl) (Nat.le_of_ble_eq_true rfl) (xdec_at tL_mails_4 12 rfl) ⟨(Nat.le_of_ble_eq_true rfl), (Nat.le_of_ble_eq_true rfl)⟩ ⟨(Nat.le_of_ble_eq_true rfl), (Nat.le_of_ble_eq_true rfl)⟩ ?_
        rintro v9 lay9 C9 ⟨rfl, rfl, rfl⟩
        refine v_lconst (v := 0) X (xdec_at tL_mails_4 13 rfl) (by decide) ?_
        refine v_lcmp X (xdec_at tL_mails_4 14 rfl) ?_
        refine v_if_eq (tgt := 304) X (xdec_at tL_mails_4 15 rfl) (by decide) (fun c_294 => ?_) (fun c_294 => ?_)
        · refine v_aload_n X (xdec_at tL_mails_4 19 rfl) rfl rfl ?_
          refine v_iload X (xdec_at tL_mails_4 20 rfl) rfl ?_
          refine v_iconst (v := 5) X (xdec_at tL_mails_4 21 rfl) (by decide) ?_
          refine v_wN X hE myX4_ofThing [.int (nI (nT μ)), .int 5] [] (qy_ofThing (t := nT μ) (w := 5) hl0 hJ.I hJ.K (show nT μ < nT ν from by omega) (by decide)) (xw_at tW_5 30 rfl) (0, 0) cX_X rfl rfl rfl rfl (by rfl) (Nat.le_of_ble_eq_true rfl) (xdec_at tL_mails_4 22 rfl) ⟨(Nat.le_of_ble_eq_true rfl), (Nat.le_of_ble_eq_true rfl)⟩ ⟨(Nat.le_of_ble_eq_true rfl), (Nat.le_of_ble_eq_true rfl)⟩ ?_
          rintro v9 lay9 C9 ⟨rfl, rfl, rfl⟩
          refine v_lconst (v := 0) X (xdec_at tL_mails_4 23 rfl) (by decide) ?_
          refine v_lcmp X (xdec_at tL_mails_4 24 rfl) ?_
          refine v_if_ne (tgt := 369) X (xdec_at tL_mails_4 25 rfl) (by decide) (fun h9 => absurd (lcz (if_pos f27)) h9) (fun _ => ?_)
          refine v_aload_n X (xdec_at tL_mails_4 26 rfl) rfl rfl ?_
          refine v_iload X (xdec_at tL_mails_4 27 rfl) rfl ?_
          refine v_bipush (v := 6) X (xdec_at tL_mails_4 28 rfl) (by decide) ?_
          refine v_wN X hE myX4_ofThing [.int (nI (nT μ)), .int 6] [] (qy_ofThing (t := nT μ) (w := 6) hl0 hJ.I hJ.K (show nT μ < nT ν from by omega) (by decide)) (xw_at tW_5 30 rfl) (0, 0) cX_X rfl rfl rfl rfl (by rfl) (Nat.le_of_ble_eq_true rfl) (xdec_at tL_mails_4 29 rfl) ⟨(Nat.le_of_ble_eq_true rfl), (Nat.le_of_ble_eq_true rfl)⟩ ⟨(Nat.le_of_ble_eq_true rfl), (Nat.le_of_ble_eq_true rfl)⟩ ?_
          rintro v9 lay9 C9 ⟨rfl, rfl, rfl⟩
          refine v_iload X (xdec_at tL_mails_4 30 rfl) rfl ?_
          refine v_i2l X (xdec_at tL_mails_4 31 rfl) rfl ?_
          refine v_lcmp X (xdec_at tL_mails_4 32 rfl) ?_
          refine v_if_ne (tgt := 369) X (xdec_at tL_mails_4 33 rfl) (by decide) (fun h9 => absurd (lcz (show (ν.1 35 (nT μ)).toInt64 = _ from by rw [f35])) h9) (fun _ => ?_)
          refine v_iload X (xdec_at tL_mails_4 34 rfl) rfl ?_
          refine v_if_eq (tgt := 348) X (xdec_at tL_mails_4 35 rfl) (by decide) (fun _ => ?_) (fun h9 => absurd (show nI 0 = 0 from rfl) h9)
          refine v_aload_n X (xdec_at tL_mails_5 2 rfl) rfl rfl ?_
          refine v_bipush (v := 18) X (xdec_at tL_mails_5 3 rfl) (by decide) ?_
          refine v_iload X (xdec_at tL_mails_5 4 rfl) rfl ?_
          refine v_iload X (xdec_at tL_mails_5 5 rfl) rfl ?_
          refine v_iconst (v := 0) X (xdec_at tL_mails_5 6 rfl) (by decide) ?_
          refine v_iconst (v := 0) X (xdec_at tL_mails_5 7 rfl) (by decide) ?_
          have e39 : (M_hand ν (nI (nT μ)) (nI 0)).2.1 38 0 = 1 := by
            have g1 := isT_n hJ.I (p := nT μ) (by omega)
            unfold M_hand
            rw [g1.2, if_neg (fun q9 => q9.2.2 (by rw [f35]; exact Int32.le_refl _))]
            exact th_38 ν 1
          refine v_wC X hE mw_call [.ref (l2 (0, 0)), .int 18, .int (nI (nT μ)), .int (nI 0), .int 0, .int 0] [] (call_W rfl (ckE_hand_1 hl0 hJ e39)) (xw_at tW_6 13 rfl) rfl (by rfl) (Nat.le_of_ble_eq_true rfl) (xdec_at tL_mails_5 8 rfl) ⟨(Nat.le_of_ble_eq_true rfl), (Nat.le_of_ble_eq_true rfl)⟩ ⟨(Nat.le_of_ble_eq_true rfl), (Nat.le_of_ble_eq_true rfl)⟩ ?_
          rintro v9 l3 C9 ⟨rfl, y_l3, rfl⟩
          rw [← y_l3.1, ← y_l3.2.1, ← y_l3.2.2 (300, 0) (by decide) (by decide)]
          refine v_ldc (v := -2000000001) X (xw_at tW_12 0 rfl) (xdec_at tL_mails_5 9 rfl) ?_
          refine v_icmp_ne (tgt := 369) X (xdec_at tL_mails_5 10 rfl) (by decide) (fun h9 => absurd h9 (by decide)) (fun _ => ?_)
          refine v_iconst (v := 1) X (xdec_at tL_mails_5 11 rfl) (by decide) ?_
          refine v_goto (tgt := 370) X (xdec_at tL_mails_5 12 rfl) (by decide) ?_
          exact v_xr (v_zret X hr (xdec_at tL_mails_5 14 rfl) (Nat.le_of_ble_eq_true rfl) (Nat.le_of_ble_eq_true rfl) (by rfl) ⟨rfl, (lyL_tr (lyL_tr y_l1 y_l2) y_l3), ν, (KT_mail μ tb (nI u2) (nI 0)), rfl, hJ.up, (fun q9 => by have := hg (by omega); omega), Pp_mailK hL _ _⟩)
        · refine v_iload X (xdec_at tL_mails_4 16 rfl) rfl ?_
          refine v_iload X (xdec_at tL_mails_4 17 rfl) rfl ?_
          refine v_icmp_ge (tgt := 369) X (xdec_at tL_mails_4 18 rfl) (by decide) (fun h9 => absurd h9 (Int32.not_le.mpr (htx.resolve_left (fun q9 => c_294 (lcz q9))))) (fun _ => ?_)
          refine v_aload_n X (xdec_at tL_mails_4 19 rfl) rfl rfl ?_
          refine v_iload X (xdec_at tL_mails_4 20 rfl) rfl ?_
          refine v_iconst (v := 5) X (xdec_at tL_mails_4 21 rfl) (by decide) ?_
          refine v_wN X hE myX4_ofThing [.int (nI (nT μ)), .int 5] [] (qy_ofThing (t := nT μ) (w := 5) hl0 hJ.I hJ.K (show nT μ < nT ν from by omega) (by decide)) (xw_at tW_5 30 rfl) (0, 0) cX_X rfl rfl rfl rfl (by rfl) (Nat.le_of_ble_eq_true rfl) (xdec_at tL_mails_4 22 rfl) ⟨(Nat.le_of_ble_eq_true rfl), (Nat.le_of_ble_eq_true rfl)⟩ ⟨(Nat.le_of_ble_eq_true rfl), (Nat.le_of_ble_eq_true rfl)⟩ ?_
          rintro v9 lay9 C9 ⟨rfl, rfl, rfl⟩
          refine v_lconst (v := 0) X (xdec_at tL_mails_4 23 rfl) (by decide) ?_
          refine v_lcmp X (xdec_at tL_mails_4 24 rfl) ?_
          refine v_if_ne (tgt := 369) X (xdec_at tL_mails_4 25 rfl) (by decide) (fun h9 => absurd (lcz (if_pos f27)) h9) (fun _ => ?_)
          refine v_aload_n X (xdec_at tL_mails_4 26 rfl) rfl rfl ?_
          refine v_iload X (xdec_at tL_mails_4 27 rfl) rfl ?_
          refine v_bipush (v := 6) X (xdec_at tL_mails_4 28 rfl) (by decide) ?_
          refine v_wN X hE myX4_ofThing [.int (nI (nT μ)), .int 6] [] (qy_ofThing (t := nT μ) (w := 6) hl0 hJ.I hJ.K (show nT μ < nT ν from by omega) (by decide)) (xw_at tW_5 30 rfl) (0, 0) cX_X rfl rfl rfl rfl (by rfl) (Nat.le_of_ble_eq_true rfl) (xdec_at tL_mails_4 29 rfl) ⟨(Nat.le_of_ble_eq_true rfl), (Nat.le_of_ble_eq_true rfl)⟩ ⟨(Nat.le_of_ble_eq_true rfl), (Nat.le_of_ble_eq_true rfl)⟩ ?_
          rintro v9 lay9 C9 ⟨rfl, rfl, rfl⟩
          refine v_iload X (xdec_at tL_mails_4 30 rfl) rfl ?_
          refine v_i2l X (xdec_at tL_mails_4 31 rfl) rfl ?_
          refine v_lcmp X (xdec_at tL_mails_4 32 rfl) ?_
          refine v_if_ne (tgt := 369) X (xdec_at tL_mails_4 33 rfl) (by decide) (fun h9 => absurd (lcz (show (ν.1 35 (nT μ)).toInt64 = _ from by rw [f35])) h9) (fun _ => ?_)
          refine v_iload X (xdec_at tL_mails_4 34 rfl) rfl ?_
          refine v_if_eq (tgt := 348) X (xdec_at tL_mails_4 35 rfl) (by decide) (fun _ => ?_) (fun h9 => absurd (show nI 0 = 0 from rfl) h9)
          refine v_aload_n X (xdec_at tL_mails_5 2 rfl) rfl rfl ?_
          refine v_bipush (v := 18) X (xdec_at tL_mails_5 3 rfl) (by decide) ?_
          refine v_iload X (xdec_at tL_mails_5 4 rfl) rfl ?_
          refine v_iload X (xdec_at tL_mails_5 5 rfl) rfl ?_
          refine v_iconst (v := 0) X (xdec_at tL_mails_5 6 rfl) (by decide) ?_
          refine v_iconst (v := 0) X (xdec_at tL_mails_5 7 rfl) (by decide) ?_
          have e39 : (M_hand ν (nI (nT μ)) (nI 0)).2.1 38 0 = 1 := by
            have g1 := isT_n hJ.I (p := nT μ) (by omega)
            unfold M_hand
            rw [g1.2, if_neg (fun q9 => q9.2.2 (by rw [f35]; exact Int32.le_refl _))]
            exact th_38 ν 1
          refine v_wC X hE mw_call [.ref (l2 (0, 0)), .int 18, .int (nI (nT μ)), .int (nI 0), .int 0, .int 0] [] (call_W rfl (ckE_hand_1 hl0 hJ e39)) (xw_at tW_6 13 rfl) rfl (by rfl) (Nat.le_of_ble_eq_true rfl) (xdec_at tL_mails_5 8 rfl) ⟨(Nat.le_of_ble_eq_true rfl), (Nat.le_of_ble_eq_true rfl)⟩ ⟨(Nat.le_of_ble_eq_true rfl), (Nat.le_of_ble_eq_true rfl)⟩ ?_
          rintro v9 l4 C9 ⟨rfl, y_l4, rfl⟩
          rw [← y_l4.1, ← y_l4.2.1, ← y_l4.2.2 (300, 0) (by decide) (by decide)]
          refine v_ldc (v := -2000000001) X (xw_at tW_12 0 rfl) (xdec_at tL_mails_5 9 rfl) ?_
          refine v_icmp_ne (tgt := 369) X (xdec_at tL_mails_5 10 rfl) (by decide) (fun h9 => absurd h9 (by decide)) (fun _ => ?_)
          refine v_iconst (v := 1) X (xdec_at tL_mails_5 11 rfl) (by decide) ?_
          refine v_goto (tgt := 370) X (xdec_at tL_mails_5 12 rfl) (by decide) ?_
          exact v_xr (v_zret X hr (xdec_at tL_mails_5 14 rfl) (Nat.le_of_ble_eq_true rfl) (Nat.le_of_ble_eq_true rfl) (by rfl) ⟨rfl, (lyL_tr (lyL_tr y_l1 y_l2) y_l4), ν, (KT_mail μ tb (nI u2) (nI 0)), rfl, hJ.up, (fun q9 => by have := hg (by omega); omega), Pp_mailK hL _ _⟩)
      · have hT9 : nT μ = 40 := by omega
        have e38 := cm_mail40 (a := u2) (b := o_) (q := u0) (g := 1 + u6) (pd := u8) (rg := 0) hL hu2 ho.1 ho.2 hu0 (by omega) hgr (by omega) hT9
        have e38' : (M_mail μ (nI u0) (nI u2) (nI o_) (nI (1 + u6)) (nI u8) (bo (nI 0))).2.1 38 0 = 3 := by rw [hb9]; exact e38
        have hOK : MailOK l Z B0 μ tb (nI u0) (nI u2) (nI o_) (nI (1 + u6)) (nI u8) (nI 0) (-2000000003) μ tb := by
          intro lay r hr2
          refine mail_of hl0 hL.I hL.K hr2 (hL.M hk) (fun q9 => absurd (e38'.symm.trans q9) (by decide)) ?_
          rw [hb9]
          rintro E (⟨rfl, h9⟩ | ⟨rfl, h9⟩ | ⟨rfl, h9⟩)
          · exact absurd (e38.symm.trans h9) (by decide)
          · exact absurd (e38.symm.trans h9) (by decide)
          · exact ⟨rfl, Or.inr (Or.inr ⟨rfl, rfl⟩)⟩
        refine v_aload_n X (xdec_at tL_mails_1 37 rfl) rfl rfl ?_
        refine v_iload X (xdec_at tL_mails_1 38 rfl) rfl ?_
        refine v_iload X (xdec_at tL_mails_1 39 rfl) rfl ?_
        refine v_iload X (xdec_at tL_mails_2 0 rfl) rfl ?_
        refine v_iload X (xdec_at tL_mails_2 1 rfl) rfl ?_
        refine v_iload X (xdec_at tL_mails_2 2 rfl) rfl ?_
        refine v_iload X (xdec_at tL_mails_2 3 rfl) rfl ?_
        refine v_wC X hE mw_mail [.ref (lay (0, 0)), .int (nI u0), .int (nI u2), .int (nI o_), .int (nI (1 + u6)), .int (nI u8), .int (nI 0)] [] (mail_W rfl hOK) (xw_at tW_12 8 rfl) rfl (by rfl) (Nat.le_of_ble_eq_true rfl) (xdec_at tL_mails_2 4 rfl) ⟨(Nat.le_of_ble_eq_true rfl), (Nat.le_of_ble_eq_true rfl)⟩ ⟨(Nat.le_of_ble_eq_true rfl), (Nat.le_of_ble_eq_true rfl)⟩ ?_
        rintro v9 l5 C9 ⟨rfl, y_l5, rfl⟩
        rw [← y_l5.1, ← y_l5.2.1, ← y_l5.2.2 (300, 0) (by decide) (by decide)]
        refine v_istore (lv' := [some (.ref (l5 (0, 0))), some (.ref (l5 (500, 0))), some (.ref (l5 (300, 0))), some (.int z), some (.int (nI u0)), some (.int (nI u2)), some (.int (nI o_)), some (.int (nI (1 + u6))), some (.int (nI u8)), some (.int (nI 0)), some (.long (μ.2 8 u2)), none, some (.int (M_rateOf μ (nI u0) (nI u2) (nI (1 + u6)) (nI 0))), some (.int (-2000000003))]) X (xdec_at tL_mails_2 5 rfl) (by decide) rfl ?_
        refine v_iload X (xdec_at tL_mails_2 6 rfl) rfl ?_
        refine v_aload_n X (xdec_at tL_mails_2 7 rfl) rfl rfl ?_
        refine v_iload X (xdec_at tL_mails_2 8 rfl) rfl ?_
        refine v_iload X (xdec_at tL_mails_2 9 rfl) rfl ?_
        refine v_iload X (xdec_at tL_mails_2 10 rfl) rfl ?_
        refine v_iload X (xdec_at tL_mails_2 11 rfl) rfl ?_
        refine v_iload X (xdec_at tL_mails_2 12 rfl) rfl ?_
        refine v_iload X (xdec_at tL_mails_2 13 rfl) rfl ?_
        refine v_wC X hE mw_mail [.ref (l5 (500, 0)), .int (nI u0), .int (nI u2), .int (nI o_), .int (nI (1 + u6)), .int (nI u8), .int (nI 0)] [.int (-2000000003)] (mail_T rfl hOK) (xw_at tW_12 8 rfl) rfl (by rfl) (Nat.le_of_ble_eq_true rfl) (xdec_at tL_mails_2 14 rfl) ⟨(Nat.le_of_ble_eq_true rfl), (Nat.le_of_ble_eq_true rfl)⟩ ⟨(Nat.le_of_ble_eq_true rfl), (Nat.le_of_ble_eq_true rfl)⟩ ?_
        rintro v9 l6 C9 ⟨rfl, y_l6, rfl⟩
        rw [← y_l6.1, ← y_l6.2.1, ← y_l6.2.2 (300, 0) (by decide) (by decide)]
        refine v_icmp_eq (tgt := 167) X (xdec_at tL_mails_2 15 rfl) (by decide) (fun _ => ?_) (fun h9 => absurd rfl h9)
        refine v_iload X (xdec_at tL_mails_2 18 rfl) rfl ?_
        refine v_ldc (v := -2000000003) X (xw_at tW_12 2 rfl) (xdec_at tL_mails_2 19 rfl) ?_
        refine v_icmp_ne (tgt := 200) X (xdec_at tL_mails_2 20 rfl) (by decide) (fun h9 => absurd h9 (by decide)) (fun _ => ?_)
        refine v_aload_n X (xdec_at tL_mails_2 21 rfl) rfl rfl ?_
        refine v_iconst (v := 2) X (xdec_at tL_mails_2 22 rfl) (by decide) ?_
        refine x_iald (v := nI (nT μ)) X (300, 0) W2_d (vp_in_nI (n := 2) (N := 3) (by decide) (by decide)) rfl hf.2.2 (xdec_at tL_mails_2 23 rfl) ?_
        refine v_bipush (v := 40) X (xdec_at tL_mails_2 24 rfl) (by decide) ?_
        refine v_icmp_ne (tgt := 198) X (xdec_at tL_mails_2 25 rfl) (by decide) (fun h9 => absurd (show nI (nT μ) = 40 from by rw [hT9]; rfl) h9) (fun _ => ?_)
        refine v_aload_n X (xdec_at tL_mails_2 26 rfl) rfl rfl ?_
        refine v_iload X (xdec_at tL_mails_2 27 rfl) rfl ?_
        refine v_wN X hE myX4_till [.int (nI u2)] [] (qy_till hl0 hL.I hu2) (xw_at tW_4 9 rfl) (0, 0) cX_X rfl rfl rfl rfl (by rfl) (Nat.le_of_ble_eq_true rfl) (xdec_at tL_mails_2 28 rfl) ⟨(Nat.le_of_ble_eq_true rfl), (Nat.le_of_ble_eq_true rfl)⟩ ⟨(Nat.le_of_ble_eq_true rfl), (Nat.le_of_ble_eq_true rfl)⟩ ?_
        rintro v9 lay9 C9 ⟨rfl, rfl, rfl⟩
        refine v_lload X (xdec_at tL_mails_2 29 rfl) rfl ?_
        refine v_lcmp X (xdec_at tL_mails_2 30 rfl) ?_
        refine v_if_ne (tgt := 198) X (xdec_at tL_mails_2 31 rfl) (by decide) (fun h9 => absurd (lcz rfl) h9) (fun _ => ?_)
        refine v_iconst (v := 1) X (xdec_at tL_mails_2 32 rfl) (by decide) ?_
        refine v_goto (tgt := 199) X (xdec_at tL_mails_2 33 rfl) (by decide) ?_
        exact v_xr (v_zret X hr (xdec_at tL_mails_2 35 rfl) (Nat.le_of_ble_eq_true rfl) (Nat.le_of_ble_eq_true rfl) (by rfl) ⟨rfl, (lyL_tr y_l5 y_l6), μ, tb, rfl, hL.up.up, hg, Nat.le_refl _⟩)
    · refine v_aload_n X (xdec_at tL_mails_1 21 rfl) rfl rfl ?_
      refine v_iload X (xdec_at tL_mails_1 22 rfl) rfl ?_
      refine v_wN X hE myX4_till [.int (nI u2)] [] (qy_till hl0 hL.I hu2) (xw_at tW_4 9 rfl) (0, 0) cX_X rfl rfl rfl rfl (by rfl) (Nat.le_of_ble_eq_true rfl) (xdec_at tL_mails_1 23 rfl) ⟨(Nat.le_of_ble_eq_true rfl), (Nat.le_of_ble_eq_true rfl)⟩ ⟨(Nat.le_of_ble_eq_true rfl), (Nat.le_of_ble_eq_true rfl)⟩ ?_
      rintro v9 lay9 C9 ⟨rfl, rfl, rfl⟩
      refine v_lstore (lv' := [some (.ref (lay (0, 0))), some (.ref (lay (500, 0))), some (.ref (lay (300, 0))), some (.int z), some (.int (nI u0)), some (.int (nI u2)), some (.int (nI o_)), some (.int (nI (1 + u6))), some (.int (nI u8)), some (.int (nI 1)), some (.long (μ.2 8 u2)), none, none, none]) X (xdec_at tL_mails_1 24 rfl) (by decide) rfl ?_
      refine v_aload_n X (xdec_at tL_mails_1 25 rfl) rfl rfl ?_
      refine v_iload X (xdec_at tL_mails_1 26 rfl) rfl ?_
      refine v_iload X (xdec_at tL_mails_1 27 rfl) rfl ?_
      refine v_iload X (xdec_at tL_mails_1 28 rfl) rfl ?_
      refine v_iload X (xdec_at tL_mails_1 29 rfl) rfl ?_
      refine v_iconst (v := 1) X (xdec_at tL_mails_1 30 rfl) (by decide) ?_
      refine v_icmp_ne (tgt := 120) X (xdec_at tL_mails_1 31 rfl) (by decide) (fun h9 => absurd (show nI 1 = 1 from rfl) h9) (fun _ => ?_)
      refine v_iconst (v := 1) X (xdec_at tL_mails_1 32 rfl) (by decide) ?_
      refine v_goto (tgt := 121) X (xdec_at tL_mails_1 33 rfl) (by decide) ?_
      refine v_st (st' := [.int (nI 1), .int (nI (1 + u6)), .int (nI u2), .int (nI u0), .ref (lay (0, 0))]) (by rfl) ?_
      have hgA : arG (nI u0) (nI (1 + u6)) := arG_n (by omega) hgr
      refine v_wN X hE myX4_rate [.int (nI u0), .int (nI u2), .int (nI (1 + u6)), .int (nI 1)] [] (qy_rate hl0 hL.I hu2 (isK_n hu0) hgA) (xw_at tW_4 38 rfl) (0, 0) cX_X rfl rfl rfl rfl (by rfl) (Nat.le_of_ble_eq_true rfl) (xdec_at tL_mails_1 35 rfl) ⟨(Nat.le_of_ble_eq_true rfl), (Nat.le_of_ble_eq_true rfl)⟩ ⟨(Nat.le_of_ble_eq_true rfl), (Nat.le_of_ble_eq_true rfl)⟩ ?_
      rintro v9 lay9 C9 ⟨rfl, rfl, rfl⟩
      refine v_istore (lv' := [some (.ref (lay (0, 0))), some (.ref (lay (500, 0))), some (.ref (lay (300, 0))), some (.int z), some (.int (nI u0)), some (.int (nI u2)), some (.int (nI o_)), some (.int (nI (1 + u6))), some (.int (nI u8)), some (.int (nI 1)), some (.long (μ.2 8 u2)), none, some (.int (M_rateOf μ (nI u0) (nI u2) (nI (1 + u6)) (nI 1))), none]) X (xdec_at tL_mails_1 36 rfl) (by decide) rfl ?_
      have hb9 : bo (nI 1) = nI 1 := by decide
      by_cases hT : nT μ < 40
      · obtain ⟨eM, hJ, ⟨n1, n2, n3⟩, e8, ⟨f23, f24, f26, f19, f27, f35, fh⟩, htx⟩ := cm_mail (a := u2) (b := o_) (q := u0) (g := 1 + u6) (pd := u8) (rg := 1) hL hk hu2 ho.1 ho.2 hu0 (by omega) hgr (by omega) (by omega) hT
        obtain ⟨ν, hν⟩ : ∃ ν, ν = M_mailS μ (nI u0) (nI u2) (nI o_) (nI (1 + u6)) (nI u8) (nI 1) := ⟨_, rfl⟩
        rw [← hν] at eM hJ n1 n2 n3 e8 f23 f24 f26 f19 f27 f35 htx
        have e38 : (M_mail μ (nI u0) (nI u2) (nI o_) (nI (1 + u6)) (nI u8) (nI 1)).2.1 38 0 = 0 := by rw [eM]; exact hJ.z
        have hOK : MailOK l Z B0 μ tb (nI u0) (nI u2) (nI o_) (nI (1 + u6)) (nI u8) (nI 1) (nI (nT μ)) ν (KT_mail μ tb (nI u2) (nI 1)) := by
          intro lay r hr2
          refine mail_of hl0 hL.I hL.K hr2 (hL.M hk) (fun _ => ⟨by rw [hb9, eM], fun _ => by rw [hb9, eM]⟩) ?_
          rw [hb9]
          rintro E (⟨rfl, h9⟩ | ⟨rfl, h9⟩ | ⟨rfl, h9⟩) <;> exact absurd (e38.symm.trans h9) (by decide)
        refine v_aload_n X (xdec_at tL_mails_1 37 rfl) rfl rfl ?_
        refine v_iload X (xdec_at tL_mails_1 38 rfl) rfl ?_
        refine v_iload X (xdec_at tL_mails_1 39 rfl) rfl ?_
        refine v_iload X (xdec_at tL_mails_2 0 rfl) rfl ?_
        refine v_iload X (xdec_at tL_mails_2 1 rfl) rfl ?_
        refine v_iload X (xdec_at tL_mails_2 2 rfl) rfl ?_
        refine v_iload X (xdec_at tL_mails_2 3 rfl) rfl ?_
        refine v_wC X hE mw_mail [.ref (lay (0, 0)), .int (nI u0), .int (nI u2), .int (nI o_), .int (nI (1 + u6)), .int (nI u8), .int (nI 1)] [] (mail_W rfl hOK) (xw_at tW_12 8 rfl) rfl (by rfl) (Nat.le_of_ble_eq_true rfl) (xdec_at tL_mails_2 4 rfl) ⟨(Nat.le_of_ble_eq_true rfl), (Nat.le_of_ble_eq_true rfl)⟩ ⟨(Nat.le_of_ble_eq_true rfl), (Nat.le_of_ble_eq_true rfl)⟩ ?_
        rintro v9 l7 C9 ⟨rfl, y_l7, rfl⟩
        rw [← y_l7.1, ← y_l7.2.1, ← y_l7.2.2 (300, 0) (by decide) (by decide)]
        refine v_istore (lv' := [some (.ref (l7 (0, 0))), some (.ref (l7 (500, 0))), some (.ref (l7 (300, 0))), some (.int z), some (.int (nI u0)), some (.int (nI u2)), some (.int (nI o_)), some (.int (nI (1 + u6))), some (.int (nI u8)), some (.int (nI 1)), some (.long (μ.2 8 u2)), none, some (.int (M_rateOf μ (nI u0) (nI u2) (nI (1 + u6)) (nI 1))), some (.int (nI (nT μ)))]) X (xdec_at tL_mails_2 5 rfl) (by decide) rfl ?_
        refine v_iload X (xdec_at tL_mails_2 6 rfl) rfl ?_
        refine v_aload_n X (xdec_at tL_mails_2 7 rfl) rfl rfl ?_
        refine v_iload X (xdec_at tL_mails_2 8 rfl) rfl ?_
        refine v_iload X (xdec_at tL_mails_2 9 rfl) rfl ?_
        refine v_iload X (xdec_at tL_mails_2 10 rfl) rfl ?_
        refine v_iload X (xdec_at tL_mails_2 11 rfl) rfl ?_
        refine v_iload X (xdec_at tL_mails_2 12 rfl) rfl ?_
        refine v_iload X (xdec_at tL_mails_2 13 rfl) rfl ?_
        refine v_wC X hE mw_mail [.ref (l7 (500, 0)), .int (nI u0), .int (nI u2), .int (nI o_), .int (nI (1 + u6)), .int (nI u8), .int (nI 1)] [.int (nI (nT μ))] (mail_T rfl hOK) (xw_at tW_12 8 rfl) rfl (by rfl) (Nat.le_of_ble_eq_true rfl) (xdec_at tL_mails_2 14 rfl) ⟨(Nat.le_of_ble_eq_true rfl), (Nat.le_of_ble_eq_true rfl)⟩ ⟨(Nat.le_of_ble_eq_true rfl), (Nat.le_of_ble_eq_true rfl)⟩ ?_
        rintro v9 l8 C9 ⟨rfl, y_l8, rfl⟩
        rw [← y_l8.1, ← y_l8.2.1, ← y_l8.2.2 (300, 0) (by decide) (by decide)]
        refine v_icmp_eq (tgt := 167) X (xdec_at tL_mails_2 15 rfl) (by decide) (fun _ => ?_) (fun h9 => absurd rfl h9)
        refine v_iload X (xdec_at tL_mails_2 18 rfl) rfl ?_
        refine v_ldc (v := -2000000003) X (xw_at tW_12 2 rfl) (xdec_at tL_mails_2 19 rfl) ?_
        refine v_icmp_ne (tgt := 200) X (xdec_at tL_mails_2 20 rfl) (by decide) (fun _ => ?_) (fun h9 => absurd h9 (notneg (n := nT μ) (by omega)))
        refine v_aload_n X (xdec_at tL_mails_2 36 rfl) rfl rfl ?_
        refine v_iconst (v := 2) X (xdec_at tL_mails_2 37 rfl) (by decide) ?_
        refine v_dup2_11 X (xdec_at tL_mails_2 38 rfl) rfl rfl ?_
        refine x_iald (v := nI (nT μ)) X (300, 0) W2_d (vp_in_nI (n := 2) (N := 3) (by decide) (by decide)) rfl hf.2.2 (xdec_at tL_mails_2 39 rfl) ?_
        refine v_iconst (v := 1) X (xdec_at tL_mails_3 0 rfl) (by decide) ?_
        refine v_iadd X (xdec_at tL_mails_3 1 rfl) ?_
        refine x_iast (C' := W2 Z l8 ν (KT_mail μ tb (nI u2) (nI 1)) ν (KT_mail μ tb (nI u2) (nI 1)) (dR Z (dv ν))) X (300, 0) W2_d (vp_in_nI (n := 2) (N := 3) (by decide) (by decide)) rfl (W2_up (i := 2) (dv_2 (by rw [nPe hJ.I, n1, ← nPe hL.I]) (by rw [nGe hJ.I, n2, ← nGe hL.I]) (by rw [nI_1, nTe hJ.I, n3]))) (xdec_at tL_mails_3 2 rfl) ?_
        refine v_iload X (xdec_at tL_mails_3 3 rfl) rfl ?_
        refine v_aload_n X (xdec_at tL_mails_3 4 rfl) rfl rfl ?_
        refine v_iconst (v := 2) X (xdec_at tL_mails_3 5 rfl) (by decide) ?_
        refine x_iald (v := nI (nT μ + 1)) X (300, 0) W2_d (vp_in_nI (n := 2) (N := 3) (by decide) (by decide)) rfl (show dv ν 2 = _ from by show ν.1 16 0 = _; rw [nTe hJ.I, n3]) (xdec_at tL_mails_3 6 rfl) ?_
        refine v_iconst (v := 1) X (xdec_at tL_mails_3 7 rfl) (by decide) ?_
        refine v_isub X (xdec_at tL_mails_3 8 rfl) ?_
        refine v_icmp_ne (tgt := 369) X (xdec_at tL_mails_3 9 rfl) (by decide) (fun h9 => absurd (show nI (nT μ) = nI (nT μ + 1) - 1 from (nI_pred _).symm) h9) (fun _ => ?_)
        refine v_aload_n X (xdec_at tL_mails_3 10 rfl) rfl rfl ?_
        refine v_iload X (xdec_at tL_mails_3 11 rfl) rfl ?_
        refine v_wN X hE myX4_till [.int (nI u2)] [] (qy_till hl0 hJ.I (show u2 < nP ν from by omega)) (xw_at tW_4 9 rfl) (0, 0) cX_X rfl rfl rfl rfl (by rfl) (Nat.le_of_ble_eq_true rfl) (xdec_at tL_mails_3 12 rfl) ⟨(Nat.le_of_ble_eq_true rfl), (Nat.le_of_ble_eq_true rfl)⟩ ⟨(Nat.le_of_ble_eq_true rfl), (Nat.le_of_ble_eq_true rfl)⟩ ?_
        rintro v9 lay9 C9 ⟨rfl, rfl, rfl⟩
        refine v_lload X (xdec_at tL_mails_3 13 rfl) rfl ?_
        refine v_iload X (xdec_at tL_mails_3 14 rfl) rfl ?_
        refine v_i2l X (xdec_at tL_mails_3 15 rfl) rfl ?_
        refine v_ladd X (xdec_at tL_mails_3 16 rfl) ?_
        refine v_lcmp X (xdec_at tL_mails_3 17 rfl) ?_
        refine v_if_ne (tgt := 369) X (xdec_at tL_mails_3 18 rfl) (by decide) (fun h9 => absurd (lcz e8) h9) (fun _ => ?_)
        refine v_aload_n X (xdec_at tL_mails_3 19 rfl) rfl rfl ?_
        refine v_iload X (xdec_at tL_mails_3 20 rfl) rfl ?_
        refine v_iconst (v := 0) X (xdec_at tL_mails_3 21 rfl) (by decide) ?_
        refine v_wN X hE myX4_ofThing [.int (nI (nT μ)), .int 0] [] (qy_ofThing (t := nT μ) (w := 0) hl0 hJ.I hJ.K (show nT μ < nT ν from by omega) (by decide)) (xw_at tW_5 30 rfl) (0, 0) cX_X rfl rfl rfl rfl (by rfl) (Nat.le_of_ble_eq_true rfl) (xdec_at tL_mails_3 22 rfl) ⟨(Nat.le_of_ble_eq_true rfl), (Nat.le_of_ble_eq_true rfl)⟩ ⟨(Nat.le_of_ble_eq_true rfl), (Nat.le_of_ble_eq_true rfl)⟩ ?_
        rintro v9 lay9 C9 ⟨rfl, rfl, rfl⟩
        refine v_lconst (v := 0) X (xdec_at tL_mails_3 23 rfl) (by decide) ?_
        refine v_lcmp X (xdec_at tL_mails_3 24 rfl) ?_
        refine v_if_ne (tgt := 369) X (xdec_at tL_mails_3 25 rfl) (by decide) (fun h9 => absurd (lcz (show (ν.1 23 (nT μ)).toInt64 = 0 from by rw [f23]; rfl)) h9) (fun _ => ?_)
        refine v_aload_n X (xdec_at tL_mails_3 26 rfl) rfl rfl ?_
        refine v_iload X (xdec_at tL_mails_3 27 rfl) rfl ?_
        refine v_iconst (v := 1) X (xdec_at tL_mails_3 28 rfl) (by decide) ?_
        refine v_wN X hE myX4_ofThing [.int (nI (nT μ)), .int 1] [] (qy_ofThing (t := nT μ) (w := 1) hl0 hJ.I hJ.K (show nT μ < nT ν from by omega) (by decide)) (xw_at tW_5 30 rfl) (0, 0) cX_X rfl rfl rfl rfl (by rfl) (Nat.le_of_ble_eq_true rfl) (xdec_at tL_mails_3 29 rfl) ⟨(Nat.le_of_ble_eq_true rfl), (Nat.le_of_ble_eq_true rfl)⟩ ⟨(Nat.le_of_ble_eq_true rfl), (Nat.le_of_ble_eq_true rfl)⟩ ?_
        rintro v9 lay9 C9 ⟨rfl, rfl, rfl⟩
        refine v_iload X (xdec_at tL_mails_3 30 rfl) rfl ?_
        refine v_i2l X (xdec_at tL_mails_3 31 rfl) rfl ?_
        refine v_lcmp X (xdec_at tL_mails_3 32 rfl) ?_
        refine v_if_ne (tgt := 369) X (xdec_at tL_mails_3 33 rfl) (by decide) (fun h9 => absurd (lcz (show (ν.1 24 (nT μ)).toInt64 = _ from by rw [f24])) h9) (fun _ => ?_)
        refine v_aload_n X (xdec_at tL_mails_3 34 rfl) rfl rfl ?_
        refine v_iload X (xdec_at tL_mails_3 35 rfl) rfl ?_
        refine v_iconst (v := 2) X (xdec_at tL_mails_3 36 rfl) (by decide) ?_
        refine v_wN X hE myX4_ofThing [.int (nI (nT μ)), .int 2] [] (qy_ofThing (t := nT μ) (w := 2) hl0 hJ.I hJ.K (show nT μ < nT ν from by omega) (by decide)) (xw_at tW_5 30 rfl) (0, 0) cX_X rfl rfl rfl rfl (by rfl) (Nat.le_of_ble_eq_true rfl) (xdec_at tL_mails_3 37 rfl) ⟨(Nat.le_of_ble_eq_true rfl), (Nat.le_of_ble_eq_true rfl)⟩ ⟨(Nat.le_of_ble_eq_true rfl), (Nat.le_of_ble_eq_true rfl)⟩ ?_
        rintro v9 lay9 C9 ⟨rfl, rfl, rfl⟩
        refine v_lconst (v := 0) X (xdec_at tL_mails_3 38 rfl) (by decide) ?_
        refine v_lcmp X (xdec_at tL_mails_3 39 rfl) ?_
        refine v_if_ne (tgt := 369) X (xdec_at tL_mails_4 0 rfl) (by decide) (fun h9 => absurd (lcz (show (ν.1 26 (nT μ)).toInt64 = 0 from by rw [f26]; rfl)) h9) (fun _ => ?_)
        refine v_aload_n X (xdec_at tL_mails_4 1 rfl) rfl rfl ?_
        refine v_iload X (xdec_at tL_mails_4 2 rfl) rfl ?_
        refine v_iconst (v := 3) X (xdec_at tL_mails_4 3 rfl) (by decide) ?_
        refine v_wN X hE myX4_ofThing [.int (nI (nT μ)), .int 3] [] (qy_ofThing (t := nT μ) (w := 3) hl0 hJ.I hJ.K (show nT μ < nT ν from by omega) (by decide)) (xw_at tW_5 30 rfl) (0, 0) cX_X rfl rfl rfl rfl (by rfl) (Nat.le_of_ble_eq_true rfl) (xdec_at tL_mails_4 4 rfl) ⟨(Nat.le_of_ble_eq_true rfl), (Nat.le_of_ble_eq_true rfl)⟩ ⟨(Nat.le_of_ble_eq_true rfl), (Nat.le_of_ble_eq_true rfl)⟩ ?_
        rintro v9 lay9 C9 ⟨rfl, rfl, rfl⟩
        refine v_iload X (xdec_at tL_mails_4 5 rfl) rfl ?_
        refine v_i2l X (xdec_at tL_mails_4 6 rfl) rfl ?_
        refine v_lcmp X (xdec_at tL_mails_4 7 rfl) ?_
        refine v_if_ne (tgt := 369) X (xdec_at tL_mails_4 8 rfl) (by decide) (fun h9 => absurd (lcz (show (ν.1 19 (nT μ)).toInt64 = _ from by rw [f19])) h9) (fun _ => ?_)
        refine v_aload_n X (xdec_at tL_mails_4 9 rfl) rfl rfl ?_
        refine v_iload X (xdec_at tL_mails_4 10 rfl) rfl ?_
        refine v_iconst (v := 4) X (xdec_at tL_mails_4 11 rfl) (by decide) ?_
        refine v_wN X hE myX4_ofThing [.int (nI (nT μ)), .int 4] [] (qy_ofThing (t := nT μ) (w := 4) hl0 hJ.I hJ.K (show nT μ < nT ν from by omega) (by decide)) (xw_at tW_5 30 rfl) (0, 0) cX_X rfl rfl rfl rfl (by rfl) (Nat.le_of_ble_eq_true rfl) (xdec_at tL_mails_4 12 rfl) ⟨(Nat.le_of_ble_eq_true rfl), (Nat.le_of_ble_eq_true rfl)⟩ ⟨(Nat.le_of_ble_eq_true rfl), (Nat.le_of_ble_eq_true rfl)⟩ ?_
        rintro v9 lay9 C9 ⟨rfl, rfl, rfl⟩
        refine v_lconst (v := 0) X (xdec_at tL_mails_4 13 rfl) (by decide) ?_
        refine v_lcmp X (xdec_at tL_mails_4 14 rfl) ?_
        refine v_if_eq (tgt := 304) X (xdec_at tL_mails_4 15 rfl) (by decide) (fun c_294 => ?_) (fun c_294 => ?_)
        · refine v_aload_n X (xdec_at tL_mails_4 19 rfl) rfl rfl ?_
          refine v_iload X (xdec_at tL_mails_4 20 rfl) rfl ?_
          refine v_iconst (v := 5) X (xdec_at tL_mails_4 21 rfl) (by decide) ?_
          refine v_wN X hE myX4_ofThing [.int (nI (nT μ)), .int 5] [] (qy_ofThing (t := nT μ) (w := 5) hl0 hJ.I hJ.K (show nT μ < nT ν from by omega) (by decide)) (xw_at tW_5 30 rfl) (0, 0) cX_X rfl rfl rfl rfl (by rfl) (Nat.le_of_ble_eq_true rfl) (xdec_at tL_mails_4 22 rfl) ⟨(Nat.le_of_ble_eq_true rfl), (Nat.le_of_ble_eq_true rfl)⟩ ⟨(Nat.le_of_ble_eq_true rfl), (Nat.le_of_ble_eq_true rfl)⟩ ?_
          rintro v9 lay9 C9 ⟨rfl, rfl, rfl⟩
          refine v_lconst (v := 0) X (xdec_at tL_mails_4 23 rfl) (by decide) ?_
          refine v_lcmp X (xdec_at tL_mails_4 24 rfl) ?_
          refine v_if_ne (tgt := 369) X (xdec_at tL_mails_4 25 rfl) (by decide) (fun h9 => absurd (lcz (if_pos f27)) h9) (fun _ => ?_)
          refine v_aload_n X (xdec_at tL_mails_4 26 rfl) rfl rfl ?_
          refine v_iload X (xdec_at tL_mails_4 27 rfl) rfl ?_
          refine v_bipush (v := 6) X (xdec_at tL_mails_4 28 rfl) (by decide) ?_
          refine v_wN X hE myX4_ofThing [.int (nI (nT μ)), .int 6] [] (qy_ofThing (t := nT μ) (w := 6) hl0 hJ.I hJ.K (show nT μ < nT ν from by omega) (by decide)) (xw_at tW_5 30 rfl) (0, 0) cX_X rfl rfl rfl rfl (by rfl) (Nat.le_of_ble_eq_true rfl) (xdec_at tL_mails_4 29 rfl) ⟨(Nat.le_of_ble_eq_true rfl), (Nat.le_of_ble_eq_true rfl)⟩ ⟨(Nat.le_of_ble_eq_true rfl), (Nat.le_of_ble_eq_true rfl)⟩ ?_
          rintro v9 lay9 C9 ⟨rfl, rfl, rfl⟩
          refine v_iload X (xdec_at tL_mails_4 30 rfl) rfl ?_
          refine v_i2l X (xdec_at tL_mails_4 31 rfl) rfl ?_
          refine v_lcmp X (xdec_at tL_mails_4 32 rfl) ?_
          refine v_if_ne (tgt := 369) X (xdec_at tL_mails_4 33 rfl) (by decide) (fun h9 => absurd (lcz (show (ν.1 35 (nT μ)).toInt64 = _ from by rw [f35])) h9) (fun _ => ?_)
          refine v_iload X (xdec_at tL_mails_4 34 rfl) rfl ?_
          refine v_if_eq (tgt := 348) X (xdec_at tL_mails_4 35 rfl) (by decide) (fun h9 => absurd h9 (show ¬ nI 1 = 0 from by decide)) (fun _ => ?_)
          refine v_aload_n X (xdec_at tL_mails_4 36 rfl) rfl rfl ?_
          refine v_iload X (xdec_at tL_mails_4 37 rfl) rfl ?_
          refine v_iconst (v := 0) X (xdec_at tL_mails_4 38 rfl) (by decide) ?_
          refine v_wN X hE myX4_hand [.int (nI (nT μ)), .int (nI 0)] [] (qy_hand (t := nT μ) (n := 0) hl0 hJ.I hJ.H.choose_spec (show nT μ < nT ν from by omega) f35 (by decide) (by decide)) (xw_at tW_11 36 rfl) (0, 0) cX_X rfl rfl rfl rfl (by rfl) (Nat.le_of_ble_eq_true rfl) (xdec_at tL_mails_4 39 rfl) ⟨(Nat.le_of_ble_eq_true rfl), (Nat.le_of_ble_eq_true rfl)⟩ ⟨(Nat.le_of_ble_eq_true rfl), (Nat.le_of_ble_eq_true rfl)⟩ ?_
          rintro v9 lay9 C9 ⟨rfl, rfl, rfl⟩
          refine v_iload X (xdec_at tL_mails_5 0 rfl) rfl ?_
          refine v_icmp_ne (tgt := 369) X (xdec_at tL_mails_5 1 rfl) (by decide) (fun h9 => absurd (fh (by decide)) h9) (fun _ => ?_)
          refine v_aload_n X (xdec_at tL_mails_5 2 rfl) rfl rfl ?_
          refine v_bipush (v := 18) X (xdec_at tL_mails_5 3 rfl) (by decide) ?_
          refine v_iload X (xdec_at tL_mails_5 4 rfl) rfl ?_
          refine v_iload X (xdec_at tL_mails_5 5 rfl) rfl ?_
          refine v_iconst (v := 0) X (xdec_at tL_mails_5 6 rfl) (by decide) ?_
          refine v_iconst (v := 0) X (xdec_at tL_mails_5 7 rfl) (by decide) ?_
          have e39 : (M_hand ν (nI (nT μ)) (nI 1)).2.1 38 0 = 1 := by
            have g1 := isT_n hJ.I (p := nT μ) (by omega)
            unfold M_hand
            rw [g1.2, if_neg (fun q9 => q9.2.2 (by rw [f35]; exact Int32.le_refl _))]
            exact th_38 ν 1
          refine v_wC X hE mw_call [.ref (l8 (0, 0)), .int 18, .int (nI (nT μ)), .int (nI 1), .int 0, .int 0] [] (call_W rfl (ckE_hand_1 hl0 hJ e39)) (xw_at tW_6 13 rfl) rfl (by rfl) (Nat.le_of_ble_eq_true rfl) (xdec_at tL_mails_5 8 rfl) ⟨(Nat.le_of_ble_eq_true rfl), (Nat.le_of_ble_eq_true rfl)⟩ ⟨(Nat.le_of_ble_eq_true rfl), (Nat.le_of_ble_eq_true rfl)⟩ ?_
          rintro v9 l9 C9 ⟨rfl, y_l9, rfl⟩
          rw [← y_l9.1, ← y_l9.2.1, ← y_l9.2.2 (300, 0) (by decide) (by decide)]
          refine v_ldc (v := -2000000001) X (xw_at tW_12 0 rfl) (xdec_at tL_mails_5 9 rfl) ?_
          refine v_icmp_ne (tgt := 369) X (xdec_at tL_mails_5 10 rfl) (by decide) (fun h9 => absurd h9 (by decide)) (fun _ => ?_)
          refine v_iconst (v := 1) X (xdec_at tL_mails_5 11 rfl) (by decide) ?_
          refine v_goto (tgt := 370) X (xdec_at tL_mails_5 12 rfl) (by decide) ?_
          exact v_xr (v_zret X hr (xdec_at tL_mails_5 14 rfl) (Nat.le_of_ble_eq_true rfl) (Nat.le_of_ble_eq_true rfl) (by rfl) ⟨rfl, (lyL_tr (lyL_tr y_l7 y_l8) y_l9), ν, (KT_mail μ tb (nI u2) (nI 1)), rfl, hJ.up, (fun q9 => by have := hg (by omega); omega), Pp_mailK hL _ _⟩)
        · refine v_iload X (xdec_at tL_mails_4 16 rfl) rfl ?_
          refine v_iload X (xdec_at tL_mails_4 17 rfl) rfl ?_
          refine v_icmp_ge (tgt := 369) X (xdec_at tL_mails_4 18 rfl) (by decide) (fun h9 => absurd h9 (Int32.not_le.mpr (htx.resolve_left (fun q9 => c_294 (lcz q9))))) (fun _ => ?_)
          refine v_aload_n X (xdec_at tL_mails_4 19 rfl) rfl rfl ?_
          refine v_iload X (xdec_at tL_mails_4 20 rfl) rfl ?_
          refine v_iconst (v := 5) X (xdec_at tL_mails_4 21 rfl) (by decide) ?_
          refine v_wN X hE myX4_ofThing [.int (nI (nT μ)), .int 5] [] (qy_ofThing (t := nT μ) (w := 5) hl0 hJ.I hJ.K (show nT μ < nT ν from by omega) (by decide)) (xw_at tW_5 30 rfl) (0, 0) cX_X rfl rfl rfl rfl (by rfl) (Nat.le_of_ble_eq_true rfl) (xdec_at tL_mails_4 22 rfl) ⟨(Nat.le_of_ble_eq_true rfl), (Nat.le_of_ble_eq_true rfl)⟩ ⟨(Nat.le_of_ble_eq_true rfl), (Nat.le_of_ble_eq_true rfl)⟩ ?_
          rintro v9 lay9 C9 ⟨rfl, rfl, rfl⟩
          refine v_lconst (v := 0) X (xdec_at tL_mails_4 23 rfl) (by decide) ?_
          refine v_lcmp X (xdec_at tL_mails_4 24 rfl) ?_
          refine v_if_ne (tgt := 369) X (xdec_at tL_mails_4 25 rfl) (by decide) (fun h9 => absurd (lcz (if_pos f27)) h9) (fun _ => ?_)
          refine v_aload_n X (xdec_at tL_mails_4 26 rfl) rfl rfl ?_
          refine v_iload X (xdec_at tL_mails_4 27 rfl) rfl ?_
          refine v_bipush (v := 6) X (xdec_at tL_mails_4 28 rfl) (by decide) ?_
          refine v_wN X hE myX4_ofThing [.int (nI (nT μ)), .int 6] [] (qy_ofThing (t := nT μ) (w := 6) hl0 hJ.I hJ.K (show nT μ < nT ν from by omega) (by decide)) (xw_at tW_5 30 rfl) (0, 0) cX_X rfl rfl rfl rfl (by rfl) (Nat.le_of_ble_eq_true rfl) (xdec_at tL_mails_4 29 rfl) ⟨(Nat.le_of_ble_eq_true rfl), (Nat.le_of_ble_eq_true rfl)⟩ ⟨(Nat.le_of_ble_eq_true rfl), (Nat.le_of_ble_eq_true rfl)⟩ ?_
          rintro v9 lay9 C9 ⟨rfl, rfl, rfl⟩
          refine v_iload X (xdec_at tL_mails_4 30 rfl) rfl ?_
          refine v_i2l X (xdec_at tL_mails_4 31 rfl) rfl ?_
          refine v_lcmp X (xdec_at tL_mails_4 32 rfl) ?_
          refine v_if_ne (tgt := 369) X (xdec_at tL_mails_4 33 rfl) (by decide) (fun h9 => absurd (lcz (show (ν.1 35 (nT μ)).toInt64 = _ from by rw [f35])) h9) (fun _ => ?_)
          refine v_iload X (xdec_at tL_mails_4 34 rfl) rfl ?_
          refine v_if_eq (tgt := 348) X (xdec_at tL_mails_4 35 rfl) (by decide) (fun h9 => absurd h9 (show ¬ nI 1 = 0 from by decide)) (fun _ => ?_)
          refine v_aload_n X (xdec_at tL_mails_4 36 rfl) rfl rfl ?_
          refine v_iload X (xdec_at tL_mails_4 37 rfl) rfl ?_
          refine v_iconst (v := 0) X (xdec_at tL_mails_4 38 rfl) (by decide) ?_
          refine v_wN X hE myX4_hand [.int (nI (nT μ)), .int (nI 0)] [] (qy_hand (t := nT μ) (n := 0) hl0 hJ.I hJ.H.choose_spec (show nT μ < nT ν from by omega) f35 (by decide) (by decide)) (xw_at tW_11 36 rfl) (0, 0) cX_X rfl rfl rfl rfl (by rfl) (Nat.le_of_ble_eq_true rfl) (xdec_at tL_mails_4 39 rfl) ⟨(Nat.le_of_ble_eq_true rfl), (Nat.le_of_ble_eq_true rfl)⟩ ⟨(Nat.le_of_ble_eq_true rfl), (Nat.le_of_ble_eq_true rfl)⟩ ?_
          rintro v9 lay9 C9 ⟨rfl, rfl, rfl⟩
          refine v_iload X (xdec_at tL_mails_5 0 rfl) rfl ?_
          refine v_icmp_ne (tgt := 369) X (xdec_at tL_mails_5 1 rfl) (by decide) (fun h9 => absurd (fh (by decide)) h9) (fun _ => ?_)
          refine v_aload_n X (xdec_at tL_mails_5 2 rfl) rfl rfl ?_
          refine v_bipush (v := 18) X (xdec_at tL_mails_5 3 rfl) (by decide) ?_
          refine v_iload X (xdec_at tL_mails_5 4 rfl) rfl ?_
          refine v_iload X (xdec_at tL_mails_5 5 rfl) rfl ?_
          refine v_iconst (v := 0) X (xdec_at tL_mails_5 6 rfl) (by decide) ?_
          refine v_iconst (v := 0) X (xdec_at tL_mails_5 7 rfl) (by decide) ?_
          have e39 : (M_hand ν (nI (nT μ)) (nI 1)).2.1 38 0 = 1 := by
            have g1 := isT_n hJ.I (p := nT μ) (by omega)
            unfold M_hand
            rw [g1.2, if_neg (fun q9 => q9.2.2 (by rw [f35]; exact Int32.le_refl _))]
            exact th_38 ν 1
          refine v_wC X hE mw_call [.ref (l8 (0, 0)), .int 18, .int (nI (nT μ)), .int (nI 1), .int 0, .int 0] [] (call_W rfl (ckE_hand_1 hl0 hJ e39)) (xw_at tW_6 13 rfl) rfl (by rfl) (Nat.le_of_ble_eq_true rfl) (xdec_at tL_mails_5 8 rfl) ⟨(Nat.le_of_ble_eq_true rfl), (Nat.le_of_ble_eq_true rfl)⟩ ⟨(Nat.le_of_ble_eq_true rfl), (Nat.le_of_ble_eq_true rfl)⟩ ?_
          rintro v9 l10 C9 ⟨rfl, y_l10, rfl⟩
          rw [← y_l10.1, ← y_l10.2.1, ← y_l10.2.2 (300, 0) (by decide) (by decide)]
          refine v_ldc (v := -2000000001) X (xw_at tW_12 0 rfl) (xdec_at tL_mails_5 9 rfl) ?_
          refine v_icmp_ne (tgt := 369) X (xdec_at tL_mails_5 10 rfl) (by decide) (fun h9 => absurd h9 (by decide)) (fun _ => ?_)
          refine v_iconst (v := 1) X (xdec_at tL_mails_5 11 rfl) (by decide) ?_
          refine v_goto (tgt := 370) X (xdec_at tL_mails_5 12 rfl) (by decide) ?_
          exact v_xr (v_zret X hr (xdec_at tL_mails_5 14 rfl) (Nat.le_of_ble_eq_true rfl) (Nat.le_of_ble_eq_true rfl) (by rfl) ⟨rfl, (lyL_tr (lyL_tr y_l7 y_l8) y_l10), ν, (KT_mail μ tb (nI u2) (nI 1)), rfl, hJ.up, (fun q9 => by have := hg (by omega); omega), Pp_mailK hL _ _⟩)
      · have hT9 : nT μ = 40 := by omega
        have e38 := cm_mail40 (a := u2) (b := o_) (q := u0) (g := 1 + u6) (pd := u8) (rg := 1) hL hu2 ho.1 ho.2 hu0 (by omega) hgr (by omega) hT9
        have e38' : (M_mail μ (nI u0) (nI u2) (nI o_) (nI (1 + u6)) (nI u8) (bo (nI 1))).2.1 38 0 = 3 := by rw [hb9]; exact e38
        have hOK : MailOK l Z B0 μ tb (nI u0) (nI u2) (nI o_) (nI (1 + u6)) (nI u8) (nI 1) (-2000000003) μ tb := by
          intro lay r hr2
          refine mail_of hl0 hL.I hL.K hr2 (hL.M hk) (fun q9 => absurd (e38'.symm.trans q9) (by decide)) ?_
          rw [hb9]
          rintro E (⟨rfl, h9⟩ | ⟨rfl, h9⟩ | ⟨rfl, h9⟩)
          · exact absurd (e38.symm.trans h9) (by decide)
          · exact absurd (e38.symm.trans h9) (by decide)
          · exact ⟨rfl, Or.inr (Or.inr ⟨rfl, rfl⟩)⟩
        refine v_aload_n X (xdec_at tL_mails_1 37 rfl) rfl rfl ?_
        refine v_iload X (xdec_at tL_mails_1 38 rfl) rfl ?_
        refine v_iload X (xdec_at tL_mails_1 39 rfl) rfl ?_
        refine v_iload X (xdec_at tL_mails_2 0 rfl) rfl ?_
        refine v_iload X (xdec_at tL_mails_2 1 rfl) rfl ?_
        refine v_iload X (xdec_at tL_mails_2 2 rfl) rfl ?_
        refine v_iload X (xdec_at tL_mails_2 3 rfl) rfl ?_
        refine v_wC X hE mw_mail [.ref (lay (0, 0)), .int (nI u0), .int (nI u2), .int (nI o_), .int (nI (1 + u6)), .int (nI u8), .int (nI 1)] [] (mail_W rfl hOK) (xw_at tW_12 8 rfl) rfl (by rfl) (Nat.le_of_ble_eq_true rfl) (xdec_at tL_mails_2 4 rfl) ⟨(Nat.le_of_ble_eq_true rfl), (Nat.le_of_ble_eq_true rfl)⟩ ⟨(Nat.le_of_ble_eq_true rfl), (Nat.le_of_ble_eq_true rfl)⟩ ?_
        rintro v9 l11 C9 ⟨rfl, y_l11, rfl⟩
        rw [← y_l11.1, ← y_l11.2.1, ← y_l11.2.2 (300, 0) (by decide) (by decide)]
        refine v_istore (lv' := [some (.ref (l11 (0, 0))), some (.ref (l11 (500, 0))), some (.ref (l11 (300, 0))), some (.int z), some (.int (nI u0)), some (.int (nI u2)), some (.int (nI o_)), some (.int (nI (1 + u6))), some (.int (nI u8)), some (.int (nI 1)), some (.long (μ.2 8 u2)), none, some (.int (M_rateOf μ (nI u0) (nI u2) (nI (1 + u6)) (nI 1))), some (.int (-2000000003))]) X (xdec_at tL_mails_2 5 rfl) (by decide) rfl ?_
        refine v_iload X (xdec_at tL_mails_2 6 rfl) rfl ?_
        refine v_aload_n X (xdec_at tL_mails_2 7 rfl) rfl rfl ?_
        refine v_iload X (xdec_at tL_mails_2 8 rfl) rfl ?_
        refine v_iload X (xdec_at tL_mails_2 9 rfl) rfl ?_
        refine v_iload X (xdec_at tL_mails_2 10 rfl) rfl ?_
        refine v_iload X (xdec_at tL_mails_2 11 rfl) rfl ?_
        refine v_iload X (xdec_at tL_mails_2 12 rfl) rfl ?_
        refine v_iload X (xdec_at tL_mails_2 13 rfl) rfl ?_
        refine v_wC X hE mw_mail [.ref (l11 (500, 0)), .int (nI u0), .int (nI u2), .int (nI o_), .int (nI (1 + u6)), .int (nI u8), .int (nI 1)] [.int (-2000000003)] (mail_T rfl hOK) (xw_at tW_12 8 rfl) rfl (by rfl) (Nat.le_of_ble_eq_true rfl) (xdec_at tL_mails_2 14 rfl) ⟨(Nat.le_of_ble_eq_true rfl), (Nat.le_of_ble_eq_true rfl)⟩ ⟨(Nat.le_of_ble_eq_true rfl), (Nat.le_of_ble_eq_true rfl)⟩ ?_
        rintro v9 l12 C9 ⟨rfl, y_l12, rfl⟩
        rw [← y_l12.1, ← y_l12.2.1, ← y_l12.2.2 (300, 0) (by decide) (by decide)]
        refine v_icmp_eq (tgt := 167) X (xdec_at tL_mails_2 15 rfl) (by decide) (fun _ => ?_) (fun h9 => absurd rfl h9)
        refine v_iload X (xdec_at tL_mails_2 18 rfl) rfl ?_
        refine v_ldc (v := -2000000003) X (xw_at tW_12 2 rfl) (xdec_at tL_mails_2 19 rfl) ?_
        refine v_icmp_ne (tgt := 200) X (xdec_at tL_mails_2 20 rfl) (by decide) (fun h9 => absurd h9 (by decide)) (fun _ => ?_)
        refine v_aload_n X (xdec_at tL_mails_2 21 rfl) rfl rfl ?_
        refine v_iconst (v := 2) X (xdec_at tL_mails_2 22 rfl) (by decide) ?_
        refine x_iald (v := nI (nT μ)) X (300, 0) W2_d (vp_in_nI (n := 2) (N := 3) (by decide) (by decide)) rfl hf.2.2 (xdec_at tL_mails_2 23 rfl) ?_
        refine v_bipush (v := 40) X (xdec_at tL_mails_2 24 rfl) (by decide) ?_
        refine v_icmp_ne (tgt := 198) X (xdec_at tL_mails_2 25 rfl) (by decide) (fun h9 => absurd (show nI (nT μ) = 40 from by rw [hT9]; rfl) h9) (fun _ => ?_)
        refine v_aload_n X (xdec_at tL_mails_2 26 rfl) rfl rfl ?_
        refine v_iload X (xdec_at tL_mails_2 27 rfl) rfl ?_
        refine v_wN X hE myX4_till [.int (nI u2)] [] (qy_till hl0 hL.I hu2) (xw_at tW_4 9 rfl) (0, 0) cX_X rfl rfl rfl rfl (by rfl) (Nat.le_of_ble_eq_true rfl) (xdec_at tL_mails_2 28 rfl) ⟨(Nat.le_of_ble_eq_true rfl), (Nat.le_of_ble_eq_true rfl)⟩ ⟨(Nat.le_of_ble_eq_true rfl), (Nat.le_of_ble_eq_true rfl)⟩ ?_
        rintro v9 lay9 C9 ⟨rfl, rfl, rfl⟩
        refine v_lload X (xdec_at tL_mails_2 29 rfl) rfl ?_
        refine v_lcmp X (xdec_at tL_mails_2 30 rfl) ?_
        refine v_if_ne (tgt := 198) X (xdec_at tL_mails_2 31 rfl) (by decide) (fun h9 => absurd (lcz rfl) h9) (fun _ => ?_)
        refine v_iconst (v := 1) X (xdec_at tL_mails_2 32 rfl) (by decide) ?_
        refine v_goto (tgt := 199) X (xdec_at tL_mails_2 33 rfl) (by decide) ?_
        exact v_xr (v_zret X hr (xdec_at tL_mails_2 35 rfl) (Nat.le_of_ble_eq_true rfl) (Nat.le_of_ble_eq_true rfl) (by rfl) ⟨rfl, (lyL_tr y_l11 y_l12), μ, tb, rfl, hL.up.up, hg, Nat.le_refl _⟩)
  · have hq1 : u0 = 1 := nI_inj (b := 1) (by omega) (by decide) c_44
    refine v_iconst (v := 1) X (xdec_at tL_mails_0 33 rfl) (by decide) ?_
    refine v_iload_n X (xdec_at tL_mails_0 34 rfl) rfl rfl ?_
    refine v_bipush (v := 9) X (xdec_at tL_mails_0 35 rfl) (by decide) ?_
    refine v_ishr X (xdec_at tL_mails_0 36 rfl) fun u11 => ?_
    refine v_bipush (v := 20) X (xdec_at tL_mails_0 37 rfl) (by decide) ?_
    refine v_wL X hE myL_some [.int u11, .int (nI 20)] [.int 1] (c_some u11 (n := 20) (by decide) (by decide)) (xw_at tW_2 29 rfl) rfl rfl (by rfl) (Nat.le_of_ble_eq_true rfl) (xdec_at tL_mails_0 38 rfl) ⟨(Nat.le_of_ble_eq_true rfl), (Nat.le_of_ble_eq_true rfl)⟩ ⟨(Nat.le_of_ble_eq_true rfl), (Nat.le_of_ble_eq_true rfl)⟩ ?_
    rintro v9 lay9 C9 ⟨rfl, rfl, u12, hu12, rfl⟩
    refine v_iadd X (xdec_at tL_mails_0 39 rfl) ?_
    refine v_st (st' := [.int (nI (1 + u12))]) (by rw [show (1 : Int32) = nI 1 from rfl, nI_add] <;> rfl) ?_
    refine v_goto (tgt := 72) X (xdec_at tL_mails_1 0 rfl) (by decide) ?_
    refine v_istore (lv' := [some (.ref (lay (0, 0))), some (.ref (lay (500, 0))), some (.ref (lay (300, 0))), some (.int z), some (.int (nI u0)), some (.int (nI u2)), some (.int (nI o_)), some (.int (nI (1 + u12))), none, none, none, none, none, none]) X (xdec_at tL_mails_1 8 rfl) (by decide) rfl ?_
    have hgr : 1 + u12 ≤ (if u0 = 1 then 20 else 2000) := by rw [if_pos hq1]; omega
    refine v_iload_n X (xdec_at tL_mails_1 9 rfl) rfl rfl ?_
    refine v_bipush (v := 12) X (xdec_at tL_mails_1 10 rfl) (by decide) ?_
    refine v_ishr X (xdec_at tL_mails_1 11 rfl) fun u13 => ?_
    refine v_sipush (v := 400) X (xdec_at tL_mails_1 12 rfl) (by decide) ?_
    refine v_wL X hE myL_some [.int u13, .int (nI 400)] [] (c_some u13 (n := 400) (by decide) (by decide)) (xw_at tW_2 29 rfl) rfl rfl (by rfl) (Nat.le_of_ble_eq_true rfl) (xdec_at tL_mails_1 13 rfl) ⟨(Nat.le_of_ble_eq_true rfl), (Nat.le_of_ble_eq_true rfl)⟩ ⟨(Nat.le_of_ble_eq_true rfl), (Nat.le_of_ble_eq_true rfl)⟩ ?_
    rintro v9 lay9 C9 ⟨rfl, rfl, u14, hu14, rfl⟩
    refine v_istore (lv' := [some (.ref (lay (0, 0))), some (.ref (lay (500, 0))), some (.ref (lay (300, 0))), some (.int z), some (.int (nI u0)), some (.int (nI u2)), some (.int (nI o_)), some (.int (nI (1 + u12))), some (.int (nI u14)), none, none, none, none, none]) X (xdec_at tL_mails_1 14 rfl) (by decide) rfl ?_
    refine v_iload_n X (xdec_at tL_mails_1 15 rfl) rfl rfl ?_
    refine v_iconst (v := 5) X (xdec_at tL_mails_1 16 rfl) (by decide) ?_
    refine v_ishr X (xdec_at tL_mails_1 17 rfl) fun u15 => ?_
    refine v_iconst (v := 2) X (xdec_at tL_mails_1 18 rfl) (by decide) ?_
    refine v_wL X hE myL_some [.int u15, .int (nI 2)] [] (c_some u15 (n := 2) (by decide) (by decide)) (xw_at tW_2 29 rfl) rfl rfl (by rfl) (Nat.le_of_ble_eq_true rfl) (xdec_at tL_mails_1 19 rfl) ⟨(Nat.le_of_ble_eq_true rfl), (Nat.le_of_ble_eq_true rfl)⟩ ⟨(Nat.le_of_ble_eq_true rfl), (Nat.le_of_ble_eq_true rfl)⟩ ?_
    rintro v9 lay9 C9 ⟨rfl, rfl, u16, hu16, rfl⟩
    refine v_istore (lv' := [some (.ref (lay (0, 0))), some (.ref (lay (500, 0))), some (.ref (lay (300, 0))), some (.int z), some (.int (nI u0)), some (.int (nI u2)), some (.int (nI o_)), some (.int (nI (1 + u12))), some (.int (nI u14)), some (.int (nI u16)), none, none, none, none]) X (xdec_at tL_mails_1 20 rfl) (by decide) rfl ?_
    obtain rfl | rfl : u16 = 0 ∨ u16 = 1 := by omega
    · refine v_aload_n X (xdec_at tL_mails_1 21 rfl) rfl rfl ?_
      refine v_iload X (xdec_at tL_mails_1 22 rfl) rfl ?_
      refine v_wN X hE myX4_till [.int (nI u2)] [] (qy_till hl0 hL.I hu2) (xw_at tW_4 9 rfl) (0, 0) cX_X rfl rfl rfl rfl (by rfl) (Nat.le_of_ble_eq_true rfl) (xdec_at tL_mails_1 23 rfl) ⟨(Nat.le_of_ble_eq_true rfl), (Nat.le_of_ble_eq_true rfl)⟩ ⟨(Nat.le_of_ble_eq_true rfl), (Nat.le_of_ble_eq_true rfl)⟩ ?_
      rintro v9 lay9 C9 ⟨rfl, rfl, rfl⟩
      refine v_lstore (lv' := [some (.ref (lay (0, 0))), some (.ref (lay (500, 0))), some (.ref (lay (300, 0))), some (.int z), some (.int (nI u0)), some (.int (nI u2)), some (.int (nI o_)), some (.int (nI (1 + u12))), some (.int (nI u14)), some (.int (nI 0)), some (.long (μ.2 8 u2)), none, none, none]) X (xdec_at tL_mails_1 24 rfl) (by decide) rfl ?_
      refine v_aload_n X (xdec_at tL_mails_1 25 rfl) rfl rfl ?_
      refine v_iload X (xdec_at tL_mails_1 26 rfl) rfl ?_
      refine v_iload X (xdec_at tL_mails_1 27 rfl) rfl ?_
      refine v_iload X (xdec_at tL_mails_1 28 rfl) rfl ?_
      refine v_iload X (xdec_at tL_mails_1 29 rfl) rfl ?_
      refine v_iconst (v := 1) X (xdec_at tL_mails_1 30 rfl) (by decide) ?_
      refine v_icmp_ne (tgt := 120) X (xdec_at tL_mails_1 31 rfl) (by decide) (fun _ => ?_) (fun h9 => absurd h9 (show ¬ nI 0 = 1 from by decide))
      refine v_iconst (v := 0) X (xdec_at tL_mails_1 34 rfl) (by decide) ?_
      refine v_st (st' := [.int (nI 0), .int (nI (1 + u12)), .int (nI u2), .int (nI u0), .ref (lay (0, 0))]) (by rfl) ?_
      have hgA : arG (nI u0) (nI (1 + u12)) := arG_n (by omega) hgr
      refine v_wN X hE myX4_rate [.int (nI u0), .int (nI u2), .int (nI (1 + u12)), .int (nI 0)] [] (qy_rate hl0 hL.I hu2 (isK_n hu0) hgA) (xw_at tW_4 38 rfl) (0, 0) cX_X rfl rfl rfl rfl (by rfl) (Nat.le_of_ble_eq_true rfl) (xdec_at tL_mails_1 35 rfl) ⟨(Nat.le_of_ble_eq_true rfl), (Nat.le_of_ble_eq_true rfl)⟩ ⟨(Nat.le_of_ble_eq_true rfl), (Nat.le_of_ble_eq_true rfl)⟩ ?_
      rintro v9 lay9 C9 ⟨rfl, rfl, rfl⟩
      refine v_istore (lv' := [some (.ref (lay (0, 0))), some (.ref (lay (500, 0))), some (.ref (lay (300, 0))), some (.int z), some (.int (nI u0)), some (.int (nI u2)), some (.int (nI o_)), some (.int (nI (1 + u12))), some (.int (nI u14)), some (.int (nI 0)), some (.long (μ.2 8 u2)), none, some (.int (M_rateOf μ (nI u0) (nI u2) (nI (1 + u12)) (nI 0))), none]) X (xdec_at tL_mails_1 36 rfl) (by decide) rfl ?_
      have hb9 : bo (nI 0) = nI 0 := by decide
      by_cases hT : nT μ < 40
      · obtain ⟨eM, hJ, ⟨n1, n2, n3⟩, e8, ⟨f23, f24, f26, f19, f27, f35, fh⟩, htx⟩ := cm_mail (a := u2) (b := o_) (q := u0) (g := 1 + u12) (pd := u14) (rg := 0) hL hk hu2 ho.1 ho.2 hu0 (by omega) hgr (by omega) (by omega) hT
        obtain ⟨ν, hν⟩ : ∃ ν, ν = M_mailS μ (nI u0) (nI u2) (nI o_) (nI (1 + u12)) (nI u14) (nI 0) := ⟨_, rfl⟩
        rw [← hν] at eM hJ n1 n2 n3 e8 f23 f24 f26 f19 f27 f35 htx
        have e38 : (M_mail μ (nI u0) (nI u2) (nI o_) (nI (1 + u12)) (nI u14) (nI 0)).2.1 38 0 = 0 := by rw [eM]; exact hJ.z
        have hOK : MailOK l Z B0 μ tb (nI u0) (nI u2) (nI o_) (nI (1 + u12)) (nI u14) (nI 0) (nI (nT μ)) ν (KT_mail μ tb (nI u2) (nI 0)) := by
          intro lay r hr2
          refine mail_of hl0 hL.I hL.K hr2 (hL.M hk) (fun _ => ⟨by rw [hb9, eM], fun _ => by rw [hb9, eM]⟩) ?_
          rw [hb9]
          rintro E (⟨rfl, h9⟩ | ⟨rfl, h9⟩ | ⟨rfl, h9⟩) <;> exact absurd (e38.symm.trans h9) (by decide)
        refine v_aload_n X (xdec_at tL_mails_1 37 rfl) rfl rfl ?_
        refine v_iload X (xdec_at tL_mails_1 38 rfl) rfl ?_
        refine v_iload X (xdec_at tL_mails_1 39 rfl) rfl ?_
        refine v_iload X (xdec_at tL_mails_2 0 rfl) rfl ?_
        refine v_iload X (xdec_at tL_mails_2 1 rfl) rfl ?_
        refine v_iload X (xdec_at tL_mails_2 2 rfl) rfl ?_
        refine v_iload X (xdec_at tL_mails_2 3 rfl) rfl ?_
        refine v_wC X hE mw_mail [.ref (lay (0, 0)), .int (nI u0), .int (nI u2), .int (nI o_), .int (nI (1 + u12)), .int (nI u14), .int (nI 0)] [] (mail_W rfl hOK) (xw_at tW_12 8 rfl) rfl (by rfl) (Nat.le_of_ble_eq_true rfl) (xdec_at tL_mails_2 4 rfl) ⟨(Nat.le_of_ble_eq_true rfl), (Nat.le_of_ble_eq_true rfl)⟩ ⟨(Nat.le_of_ble_eq_true rfl), (Nat.le_of_ble_eq_true rfl)⟩ ?_
        rintro v9 l13 C9 ⟨rfl, y_l13, rfl⟩
        rw [← y_l13.1, ← y_l13.2.1, ← y_l13.2.2 (300, 0) (by decide) (by decide)]
        refine v_istore (lv' := [some (.ref (l13 (0, 0))), some (.ref (l13 (500, 0))), some (.ref (l13 (300, 0))), some (.int z), some (.int (nI u0)), some (.int (nI u2)), some (.int (nI o_)), some (.int (nI (1 + u12))), some (.int (nI u14)), some (.int (nI 0)), some (.long (μ.2 8 u2)), none, some (.int (M_rateOf μ (nI u0) (nI u2) (nI (1 + u12)) (nI 0))), some (.int (nI (nT μ)))]) X (xdec_at tL_mails_2 5 rfl) (by decide) rfl ?_
        refine v_iload X (xdec_at tL_mails_2 6 rfl) rfl ?_
        refine v_aload_n X (xdec_at tL_mails_2 7 rfl) rfl rfl ?_
        refine v_iload X (xdec_at tL_mails_2 8 rfl) rfl ?_
        refine v_iload X (xdec_at tL_mails_2 9 rfl) rfl ?_
        refine v_iload X (xdec_at tL_mails_2 10 rfl) rfl ?_
        refine v_iload X (xdec_at tL_mails_2 11 rfl) rfl ?_
        refine v_iload X (xdec_at tL_mails_2 12 rfl) rfl ?_
        refine v_iload X (xdec_at tL_mails_2 13 rfl) rfl ?_
        refine v_wC X hE mw_mail [.ref (l13 (500, 0)), .int (nI u0), .int (nI u2), .int (nI o_), .int (nI (1 + u12)), .int (nI u14), .int (nI 0)] [.int (nI (nT μ))] (mail_T rfl hOK) (xw_at tW_12 8 rfl) rfl (by rfl) (Nat.le_of_ble_eq_true rfl) (xdec_at tL_mails_2 14 rfl) ⟨(Nat.le_of_ble_eq_true rfl), (Nat.le_of_ble_eq_true rfl)⟩ ⟨(Nat.le_of_ble_eq_true rfl), (Nat.le_of_ble_eq_true rfl)⟩ ?_
        rintro v9 l14 C9 ⟨rfl, y_l14, rfl⟩
        rw [← y_l14.1, ← y_l14.2.1, ← y_l14.2.2 (300, 0) (by decide) (by decide)]
        refine v_icmp_eq (tgt := 167) X (xdec_at tL_mails_2 15 rfl) (by decide) (fun _ => ?_) (fun h9 => absurd rfl h9)
        refine v_iload X (xdec_at tL_mails_2 18 rfl) rfl ?_
        refine v_ldc (v := -2000000003) X (xw_at tW_12 2 rfl) (xdec_at tL_mails_2 19 rfl) ?_
        refine v_icmp_ne (tgt := 200) X (xdec_at tL_mails_2 20 rfl) (by decide) (fun _ => ?_) (fun h9 => absurd h9 (notneg (n := nT μ) (by omega)))
        refine v_aload_n X (xdec_at tL_mails_2 36 rfl) rfl rfl ?_
        refine v_iconst (v := 2) X (xdec_at tL_mails_2 37 rfl) (by decide) ?_
        refine v_dup2_11 X (xdec_at tL_mails_2 38 rfl) rfl rfl ?_
        refine x_iald (v := nI (nT μ)) X (300, 0) W2_d (vp_in_nI (n := 2) (N := 3) (by decide) (by decide)) rfl hf.2.2 (xdec_at tL_mails_2 39 rfl) ?_
        refine v_iconst (v := 1) X (xdec_at tL_mails_3 0 rfl) (by decide) ?_
        refine v_iadd X (xdec_at tL_mails_3 1 rfl) ?_
        refine x_iast (C' := W2 Z l14 ν (KT_mail μ tb (nI u2) (nI 0)) ν (KT_mail μ tb (nI u2) (nI 0)) (dR Z (dv ν))) X (300, 0) W2_d (vp_in_nI (n := 2) (N := 3) (by decide) (by decide)) rfl (W2_up (i := 2) (dv_2 (by rw [nPe hJ.I, n1, ← nPe hL.I]) (by rw [nGe hJ.I, n2, ← nGe hL.I]) (by rw [nI_1, nTe hJ.I, n3]))) (xdec_at tL_mails_3 2 rfl) ?_
        refine v_iload X (xdec_at tL_mails_3 3 rfl) rfl ?_
        refine v_aload_n X (xdec_at tL_mails_3 4 rfl) rfl rfl ?_
        refine v_iconst (v := 2) X (xdec_at tL_mails_3 5 rfl) (by decide) ?_
        refine x_iald (v := nI (nT μ + 1)) X (300, 0) W2_d (vp_in_nI (n := 2) (N := 3) (by decide) (by decide)) rfl (show dv ν 2 = _ from by show ν.1 16 0 = _; rw [nTe hJ.I, n3]) (xdec_at tL_mails_3 6 rfl) ?_
        refine v_iconst (v := 1) X (xdec_at tL_mails_3 7 rfl) (by decide) ?_
        refine v_isub X (xdec_at tL_mails_3 8 rfl) ?_
        refine v_icmp_ne (tgt := 369) X (xdec_at tL_mails_3 9 rfl) (by decide) (fun h9 => absurd (show nI (nT μ) = nI (nT μ + 1) - 1 from (nI_pred _).symm) h9) (fun _ => ?_)
        refine v_aload_n X (xdec_at tL_mails_3 10 rfl) rfl rfl ?_
        refine v_iload X (xdec_at tL_mails_3 11 rfl) rfl ?_
        refine v_wN X hE myX4_till [.int (nI u2)] [] (qy_till hl0 hJ.I (show u2 < nP ν from by omega)) (xw_at tW_4 9 rfl) (0, 0) cX_X rfl rfl rfl rfl (by rfl) (Nat.le_of_ble_eq_true rfl) (xdec_at tL_mails_3 12 rfl) ⟨(Nat.le_of_ble_eq_true rfl), (Nat.le_of_ble_eq_true rfl)⟩ ⟨(Nat.le_of_ble_eq_true rfl), (Nat.le_of_ble_eq_true rfl)⟩ ?_
        rintro v9 lay9 C9 ⟨rfl, rfl, rfl⟩
        refine v_lload X (xdec_at tL_mails_3 13 rfl) rfl ?_
        refine v_iload X (xdec_at tL_mails_3 14 rfl) rfl ?_
        refine v_i2l X (xdec_at tL_mails_3 15 rfl) rfl ?_
        refine v_ladd X (xdec_at tL_mails_3 16 rfl) ?_
        refine v_lcmp X (xdec_at tL_mails_3 17 rfl) ?_
        refine v_if_ne (tgt := 369) X (xdec_at tL_mails_3 18 rfl) (by decide) (fun h9 => absurd (lcz e8) h9) (fun _ => ?_)
        refine v_aload_n X (xdec_at tL_mails_3 19 rfl) rfl rfl ?_
        refine v_iload X (xdec_at tL_mails_3 20 rfl) rfl ?_
        refine v_iconst (v := 0) X (xdec_at tL_mails_3 21 rfl) (by decide) ?_
        refine v_wN X hE myX4_ofThing [.int (nI (nT μ)), .int 0] [] (qy_ofThing (t := nT μ) (w := 0) hl0 hJ.I hJ.K (show nT μ < nT ν from by omega) (by decide)) (xw_at tW_5 30 rfl) (0, 0) cX_X rfl rfl rfl rfl (by rfl) (Nat.le_of_ble_eq_true rfl) (xdec_at tL_mails_3 22 rfl) ⟨(Nat.le_of_ble_eq_true rfl), (Nat.le_of_ble_eq_true rfl)⟩ ⟨(Nat.le_of_ble_eq_true rfl), (Nat.le_of_ble_eq_true rfl)⟩ ?_
        rintro v9 lay9 C9 ⟨rfl, rfl, rfl⟩
        refine v_lconst (v := 0) X (xdec_at tL_mails_3 23 rfl) (by decide) ?_
        refine v_lcmp X (xdec_at tL_mails_3 24 rfl) ?_
        refine v_if_ne (tgt := 369) X (xdec_at tL_mails_3 25 rfl) (by decide) (fun h9 => absurd (lcz (show (ν.1 23 (nT μ)).toInt64 = 0 from by rw [f23]; rfl)) h9) (fun _ => ?_)
        refine v_aload_n X (xdec_at tL_mails_3 26 rfl) rfl rfl ?_
        refine v_iload X (xdec_at tL_mails_3 27 rfl) rfl ?_
        refine v_iconst (v := 1) X (xdec_at tL_mails_3 28 rfl) (by decide) ?_
        refine v_wN X hE myX4_ofThing [.int (nI (nT μ)), .int 1] [] (qy_ofThing (t := nT μ) (w := 1) hl0 hJ.I hJ.K (show nT μ < nT ν from by omega) (by decide)) (xw_at tW_5 30 rfl) (0, 0) cX_X rfl rfl rfl rfl (by rfl) (Nat.le_of_ble_eq_true rfl) (xdec_at tL_mails_3 29 rfl) ⟨(Nat.le_of_ble_eq_true rfl), (Nat.le_of_ble_eq_true rfl)⟩ ⟨(Nat.le_of_ble_eq_true rfl), (Nat.le_of_ble_eq_true rfl)⟩ ?_
        rintro v9 lay9 C9 ⟨rfl, rfl, rfl⟩
        refine v_iload X (xdec_at tL_mails_3 30 rfl) rfl ?_
        refine v_i2l X (xdec_at tL_mails_3 31 rfl) rfl ?_
        refine v_lcmp X (xdec_at tL_mails_3 32 rfl) ?_
        refine v_if_ne (tgt := 369) X (xdec_at tL_mails_3 33 rfl) (by decide) (fun h9 => absurd (lcz (show (ν.1 24 (nT μ)).toInt64 = _ from by rw [f24])) h9) (fun _ => ?_)
        refine v_aload_n X (xdec_at tL_mails_3 34 rfl) rfl rfl ?_
        refine v_iload X (xdec_at tL_mails_3 35 rfl) rfl ?_
        refine v_iconst (v := 2) X (xdec_at tL_mails_3 36 rfl) (by decide) ?_
        refine v_wN X hE myX4_ofThing [.int (nI (nT μ)), .int 2] [] (qy_ofThing (t := nT μ) (w := 2) hl0 hJ.I hJ.K (show nT μ < nT ν from by omega) (by decide)) (xw_at tW_5 30 rfl) (0, 0) cX_X rfl rfl rfl rfl (by rfl) (Nat.le_of_ble_eq_true rfl) (xdec_at tL_mails_3 37 rfl) ⟨(Nat.le_of_ble_eq_true rfl), (Nat.le_of_ble_eq_true rfl)⟩ ⟨(Nat.le_of_ble_eq_true rfl), (Nat.le_of_ble_eq_true rfl)⟩ ?_
        rintro v9 lay9 C9 ⟨rfl, rfl, rfl⟩
        refine v_lconst (v := 0) X (xdec_at tL_mails_3 38 rfl) (by decide) ?_
        refine v_lcmp X (xdec_at tL_mails_3 39 rfl) ?_
        refine v_if_ne (tgt := 369) X (xdec_at tL_mails_4 0 rfl) (by decide) (fun h9 => absurd (lcz (show (ν.1 26 (nT μ)).toInt64 = 0 from by rw [f26]; rfl)) h9) (fun _ => ?_)
        refine v_aload_n X (xdec_at tL_mails_4 1 rfl) rfl rfl ?_
        refine v_iload X (xdec_at tL_mails_4 2 rfl) rfl ?_
        refine v_iconst (v := 3) X (xdec_at tL_mails_4 3 rfl) (by decide) ?_
        refine v_wN X hE myX4_ofThing [.int (nI (nT μ)), .int 3] [] (qy_ofThing (t := nT μ) (w := 3) hl0 hJ.I hJ.K (show nT μ < nT ν from by omega) (by decide)) (xw_at tW_5 30 rfl) (0, 0) cX_X rfl rfl rfl rfl (by rfl) (Nat.le_of_ble_eq_true rfl) (xdec_at tL_mails_4 4 rfl) ⟨(Nat.le_of_ble_eq_true rfl), (Nat.le_of_ble_eq_true rfl)⟩ ⟨(Nat.le_of_ble_eq_true rfl), (Nat.le_of_ble_eq_true rfl)⟩ ?_
        rintro v9 lay9 C9 ⟨rfl, rfl, rfl⟩
        refine v_iload X (xdec_at tL_mails_4 5 rfl) rfl ?_
        refine v_i2l X (xdec_at tL_mails_4 6 rfl) rfl ?_
        refine v_lcmp X (xdec_at tL_mails_4 7 rfl) ?_
        refine v_if_ne (tgt := 369) X (xdec_at tL_mails_4 8 rfl) (by decide) (fun h9 => absurd (lcz (show (ν.1 19 (nT μ)).toInt64 = _ from by rw [f19])) h9) (fun _ => ?_)
        refine v_aload_n X (xdec_at tL_mails_4 9 rfl) rfl rfl ?_
        refine v_iload X (xdec_at tL_mails_4 10 rfl) rfl ?_
        refine v_iconst (v := 4) X (xdec_at tL_mails_4 11 rfl) (by decide) ?_
        refine v_wN X hE myX4_ofThing [.int (nI (nT μ)), .int 4] [] (qy_ofThing (t := nT μ) (w := 4) hl0 hJ.I hJ.K (show nT μ < nT ν from by omega) (by decide)) (xw_at tW_5 30 rfl) (0, 0) cX_X rfl rfl rfl rfl (by rfl) (Nat.le_of_ble_eq_true rfl) (xdec_at tL_mails_4 12 rfl) ⟨(Nat.le_of_ble_eq_true rfl), (Nat.le_of_ble_eq_true rfl)⟩ ⟨(Nat.le_of_ble_eq_true rfl), (Nat.le_of_ble_eq_true rfl)⟩ ?_
        rintro v9 lay9 C9 ⟨rfl, rfl, rfl⟩
        refine v_lconst (v := 0) X (xdec_at tL_mails_4 13 rfl) (by decide) ?_
        refine v_lcmp X (xdec_at tL_mails_4 14 rfl) ?_
        refine v_if_eq (tgt := 304) X (xdec_at tL_mails_4 15 rfl) (by decide) (fun c_294 => ?_) (fun c_294 => ?_)
        · refine v_aload_n X (xdec_at tL_mails_4 19 rfl) rfl rfl ?_
          refine v_iload X (xdec_at tL_mails_4 20 rfl) rfl ?_
          refine v_iconst (v := 5) X (xdec_at tL_mails_4 21 rfl) (by decide) ?_
          refine v_wN X hE myX4_ofThing [.int (nI (nT μ)), .int 5] [] (qy_ofThing (t := nT μ) (w := 5) hl0 hJ.I hJ.K (show nT μ < nT ν from by omega) (by decide)) (xw_at tW_5 30 rfl) (0, 0) cX_X rfl rfl rfl rfl (by rfl) (Nat.le_of_ble_eq_true rfl) (xdec_at tL_mails_4 22 rfl) ⟨(Nat.le_of_ble_eq_true rfl), (Nat.le_of_ble_eq_true rfl)⟩ ⟨(Nat.le_of_ble_eq_true rfl), (Nat.le_of_ble_eq_true rfl)⟩ ?_
          rintro v9 lay9 C9 ⟨rfl, rfl, rfl⟩
          refine v_lconst (v := 0) X (xdec_at tL_mails_4 23 rfl) (by decide) ?_
          refine v_lcmp X (xdec_at tL_mails_4 24 rfl) ?_
          refine v_if_ne (tgt := 369) X (xdec_at tL_mails_4 25 rfl) (by decide) (fun h9 => absurd (lcz (if_pos f27)) h9) (fun _ => ?_)
          refine v_aload_n X (xdec_at tL_mails_4 26 rfl) rfl rfl ?_
          refine v_iload X (xdec_at tL_mails_4 27 rfl) rfl ?_
          refine v_bipush (v := 6) X (xdec_at tL_mails_4 28 rfl) (by decide) ?_
          refine v_wN X hE myX4_ofThing [.int (nI (nT μ)), .int 6] [] (qy_ofThing (t := nT μ) (w := 6) hl0 hJ.I hJ.K (show nT μ < nT ν from by omega) (by decide)) (xw_at tW_5 30 rfl) (0, 0) cX_X rfl rfl rfl rfl (by rfl) (Nat.le_of_ble_eq_true rfl) (xdec_at tL_mails_4 29 rfl) ⟨(Nat.le_of_ble_eq_true rfl), (Nat.le_of_ble_eq_true rfl)⟩ ⟨(Nat.le_of_ble_eq_true rfl), (Nat.le_of_ble_eq_true rfl)⟩ ?_
          rintro v9 lay9 C9 ⟨rfl, rfl, rfl⟩
          refine v_iload X (xdec_at tL_mails_4 30 rfl) rfl ?_
          refine v_i2l X (xdec_at tL_mails_4 31 rfl) rfl ?_
          refine v_lcmp X (xdec_at tL_mails_4 32 rfl) ?_
          refine v_if_ne (tgt := 369) X (xdec_at tL_mails_4 33 rfl) (by decide) (fun h9 => absurd (lcz (show (ν.1 35 (nT μ)).toInt64 = _ from by rw [f35])) h9) (fun _ => ?_)
          refine v_iload X (xdec_at tL_mails_4 34 rfl) rfl ?_
          refine v_if_eq (tgt := 348) X (xdec_at tL_mails_4 35 rfl) (by decide) (fun _ => ?_) (fun h9 => absurd (show nI 0 = 0 from rfl) h9)
          refine v_aload_n X (xdec_at tL_mails_5 2 rfl) rfl rfl ?_
          refine v_bipush (v := 18) X (xdec_at tL_mails_5 3 rfl) (by decide) ?_
          refine v_iload X (xdec_at tL_mails_5 4 rfl) rfl ?_
          refine v_iload X (xdec_at tL_mails_5 5 rfl) rfl ?_
          refine v_iconst (v := 0) X (xdec_at tL_mails_5 6 rfl) (by decide) ?_
          refine v_iconst (v := 0) X (xdec_at tL_mails_5 7 rfl) (by decide) ?_
          have e39 : (M_hand ν (nI (nT μ)) (nI 0)).2.1 38 0 = 1 := by
            have g1 := isT_n hJ.I (p := nT μ) (by omega)
            unfold M_hand
            rw [g1.2, if_neg (fun q9 => q9.2.2 (by rw [f35]; exact Int32.le_refl _))]
            exact th_38 ν 1
          refine v_wC X hE mw_call [.ref (l14 (0, 0)), .int 18, .int (nI (nT μ)), .int (nI 0), .int 0, .int 0] [] (call_W rfl (ckE_hand_1 hl0 hJ e39)) (xw_at tW_6 13 rfl) rfl (by rfl) (Nat.le_of_ble_eq_true rfl) (xdec_at tL_mails_5 8 rfl) ⟨(Nat.le_of_ble_eq_true rfl), (Nat.le_of_ble_eq_true rfl)⟩ ⟨(Nat.le_of_ble_eq_true rfl), (Nat.le_of_ble_eq_true rfl)⟩ ?_
          rintro v9 l15 C9 ⟨rfl, y_l15, rfl⟩
          rw [← y_l15.1, ← y_l15.2.1, ← y_l15.2.2 (300, 0) (by decide) (by decide)]
          refine v_ldc (v := -2000000001) X (xw_at tW_12 0 rfl) (xdec_at tL_mails_5 9 rfl) ?_
          refine v_icmp_ne (tgt := 369) X (xdec_at tL_mails_5 10 rfl) (by decide) (fun h9 => absurd h9 (by decide)) (fun _ => ?_)
          refine v_iconst (v := 1) X (xdec_at tL_mails_5 11 rfl) (by decide) ?_
          refine v_goto (tgt := 370) X (xdec_at tL_mails_5 12 rfl) (by decide) ?_
          exact v_xr (v_zret X hr (xdec_at tL_mails_5 14 rfl) (Nat.le_of_ble_eq_true rfl) (Nat.le_of_ble_eq_true rfl) (by rfl) ⟨rfl, (lyL_tr (lyL_tr y_l13 y_l14) y_l15), ν, (KT_mail μ tb (nI u2) (nI 0)), rfl, hJ.up, (fun q9 => by have := hg (by omega); omega), Pp_mailK hL _ _⟩)
        · refine v_iload X (xdec_at tL_mails_4 16 rfl) rfl ?_
          refine v_iload X (xdec_at tL_mails_4 17 rfl) rfl ?_
          refine v_icmp_ge (tgt := 369) X (xdec_at tL_mails_4 18 rfl) (by decide) (fun h9 => absurd h9 (Int32.not_le.mpr (htx.resolve_left (fun q9 => c_294 (lcz q9))))) (fun _ => ?_)
          refine v_aload_n X (xdec_at tL_mails_4 19 rfl) rfl rfl ?_
          refine v_iload X (xdec_at tL_mails_4 20 rfl) rfl ?_
          refine v_iconst (v := 5) X (xdec_at tL_mails_4 21 rfl) (by decide) ?_
          refine v_wN X hE myX4_ofThing [.int (nI (nT μ)), .int 5] [] (qy_ofThing (t := nT μ) (w := 5) hl0 hJ.I hJ.K (show nT μ < nT ν from by omega) (by decide)) (xw_at tW_5 30 rfl) (0, 0) cX_X rfl rfl rfl rfl (by rfl) (Nat.le_of_ble_eq_true rfl) (xdec_at tL_mails_4 22 rfl) ⟨(Nat.le_of_ble_eq_true rfl), (Nat.le_of_ble_eq_true rfl)⟩ ⟨(Nat.le_of_ble_eq_true rfl), (Nat.le_of_ble_eq_true rfl)⟩ ?_
          rintro v9 lay9 C9 ⟨rfl, rfl, rfl⟩
          refine v_lconst (v := 0) X (xdec_at tL_mails_4 23 rfl) (by decide) ?_
          refine v_lcmp X (xdec_at tL_mails_4 24 rfl) ?_
          refine v_if_ne (tgt := 369) X (xdec_at tL_mails_4 25 rfl) (by decide) (fun h9 => absurd (lcz (if_pos f27)) h9) (fun _ => ?_)
          refine v_aload_n X (xdec_at tL_mails_4 26 rfl) rfl rfl ?_
          refine v_iload X (xdec_at tL_mails_4 27 rfl) rfl ?_
          refine v_bipush (v := 6) X (xdec_at tL_mails_4 28 rfl) (by decide) ?_
          refine v_wN X hE myX4_ofThing [.int (nI (nT μ)), .int 6] [] (qy_ofThing (t := nT μ) (w := 6) hl0 hJ.I hJ.K (show nT μ < nT ν from by omega) (by decide)) (xw_at tW_5 30 rfl) (0, 0) cX_X rfl rfl rfl rfl (by rfl) (Nat.le_of_ble_eq_true rfl) (xdec_at tL_mails_4 29 rfl) ⟨(Nat.le_of_ble_eq_true rfl), (Nat.le_of_ble_eq_true rfl)⟩ ⟨(Nat.le_of_ble_eq_true rfl), (Nat.le_of_ble_eq_true rfl)⟩ ?_
          rintro v9 lay9 C9 ⟨rfl, rfl, rfl⟩
          refine v_iload X (xdec_at tL_mails_4 30 rfl) rfl ?_
          refine v_i2l X (xdec_at tL_mails_4 31 rfl) rfl ?_
          refine v_lcmp X (xdec_at tL_mails_4 32 rfl) ?_
          refine v_if_ne (tgt := 369) X (xdec_at tL_mails_4 33 rfl) (by decide) (fun h9 => absurd (lcz (show (ν.1 35 (nT μ)).toInt64 = _ from by rw [f35])) h9) (fun _ => ?_)
          refine v_iload X (xdec_at tL_mails_4 34 rfl) rfl ?_
          refine v_if_eq (tgt := 348) X (xdec_at tL_mails_4 35 rfl) (by decide) (fun _ => ?_) (fun h9 => absurd (show nI 0 = 0 from rfl) h9)
          refine v_aload_n X (xdec_at tL_mails_5 2 rfl) rfl rfl ?_
          refine v_bipush (v := 18) X (xdec_at tL_mails_5 3 rfl) (by decide) ?_
          refine v_iload X (xdec_at tL_mails_5 4 rfl) rfl ?_
          refine v_iload X (xdec_at tL_mails_5 5 rfl) rfl ?_
          refine v_iconst (v := 0) X (xdec_at tL_mails_5 6 rfl) (by decide) ?_
          refine v_iconst (v := 0) X (xdec_at tL_mails_5 7 rfl) (by decide) ?_
          have e39 : (M_hand ν (nI (nT μ)) (nI 0)).2.1 38 0 = 1 := by
            have g1 := isT_n hJ.I (p := nT μ) (by omega)
            unfold M_hand
            rw [g1.2, if_neg (fun q9 => q9.2.2 (by rw [f35]; exact Int32.le_refl _))]
            exact th_38 ν 1
          refine v_wC X hE mw_call [.ref (l14 (0, 0)), .int 18, .int (nI (nT μ)), .int (nI 0), .int 0, .int 0] [] (call_W rfl (ckE_hand_1 hl0 hJ e39)) (xw_at tW_6 13 rfl) rfl (by rfl) (Nat.le_of_ble_eq_true rfl) (xdec_at tL_mails_5 8 rfl) ⟨(Nat.le_of_ble_eq_true rfl), (Nat.le_of_ble_eq_true rfl)⟩ ⟨(Nat.le_of_ble_eq_true rfl), (Nat.le_of_ble_eq_true rfl)⟩ ?_
          rintro v9 l16 C9 ⟨rfl, y_l16, rfl⟩
          rw [← y_l16.1, ← y_l16.2.1, ← y_l16.2.2 (300, 0) (by decide) (by decide)]
          refine v_ldc (v := -2000000001) X (xw_at tW_12 0 rfl) (xdec_at tL_mails_5 9 rfl) ?_
          refine v_icmp_ne (tgt := 369) X (xdec_at tL_mails_5 10 rfl) (by decide) (fun h9 => absurd h9 (by decide)) (fun _ => ?_)
          refine v_iconst (v := 1) X (xdec_at tL_mails_5 11 rfl) (by decide) ?_
          refine v_goto (tgt := 370) X (xdec_at tL_mails_5 12 rfl) (by decide) ?_
          exact v_xr (v_zret X hr (xdec_at tL_mails_5 14 rfl) (Nat.le_of_ble_eq_true rfl) (Nat.le_of_ble_eq_true rfl) (by rfl) ⟨rfl, (lyL_tr (lyL_tr y_l13 y_l14) y_l16), ν, (KT_mail μ tb (nI u2) (nI 0)), rfl, hJ.up, (fun q9 => by have := hg (by omega); omega), Pp_mailK hL _ _⟩)
      · have hT9 : nT μ = 40 := by omega
        have e38 := cm_mail40 (a := u2) (b := o_) (q := u0) (g := 1 + u12) (pd := u14) (rg := 0) hL hu2 ho.1 ho.2 hu0 (by omega) hgr (by omega) hT9
        have e38' : (M_mail μ (nI u0) (nI u2) (nI o_) (nI (1 + u12)) (nI u14) (bo (nI 0))).2.1 38 0 = 3 := by rw [hb9]; exact e38
        have hOK : MailOK l Z B0 μ tb (nI u0) (nI u2) (nI o_) (nI (1 + u12)) (nI u14) (nI 0) (-2000000003) μ tb := by
          intro lay r hr2
          refine mail_of hl0 hL.I hL.K hr2 (hL.M hk) (fun q9 => absurd (e38'.symm.trans q9) (by decide)) ?_
          rw [hb9]
          rintro E (⟨rfl, h9⟩ | ⟨rfl, h9⟩ | ⟨rfl, h9⟩)
          · exact absurd (e38.symm.trans h9) (by decide)
          · exact absurd (e38.symm.trans h9) (by decide)
          · exact ⟨rfl, Or.inr (Or.inr ⟨rfl, rfl⟩)⟩
        refine v_aload_n X (xdec_at tL_mails_1 37 rfl) rfl rfl ?_
        refine v_iload X (xdec_at tL_mails_1 38 rfl) rfl ?_
        refine v_iload X (xdec_at tL_mails_1 39 rfl) rfl ?_
        refine v_iload X (xdec_at tL_mails_2 0 rfl) rfl ?_
        refine v_iload X (xdec_at tL_mails_2 1 rfl) rfl ?_
        refine v_iload X (xdec_at tL_mails_2 2 rfl) rfl ?_
        refine v_iload X (xdec_at tL_mails_2 3 rfl) rfl ?_
        refine v_wC X hE mw_mail [.ref (lay (0, 0)), .int (nI u0), .int (nI u2), .int (nI o_), .int (nI (1 + u12)), .int (nI u14), .int (nI 0)] [] (mail_W rfl hOK) (xw_at tW_12 8 rfl) rfl (by rfl) (Nat.le_of_ble_eq_true rfl) (xdec_at tL_mails_2 4 rfl) ⟨(Nat.le_of_ble_eq_true rfl), (Nat.le_of_ble_eq_true rfl)⟩ ⟨(Nat.le_of_ble_eq_true rfl), (Nat.le_of_ble_eq_true rfl)⟩ ?_
        rintro v9 l17 C9 ⟨rfl, y_l17, rfl⟩
        rw [← y_l17.1, ← y_l17.2.1, ← y_l17.2.2 (300, 0) (by decide) (by decide)]
        refine v_istore (lv' := [some (.ref (l17 (0, 0))), some (.ref (l17 (500, 0))), some (.ref (l17 (300, 0))), some (.int z), some (.int (nI u0)), some (.int (nI u2)), some (.int (nI o_)), some (.int (nI (1 + u12))), some (.int (nI u14)), some (.int (nI 0)), some (.long (μ.2 8 u2)), none, some (.int (M_rateOf μ (nI u0) (nI u2) (nI (1 + u12)) (nI 0))), some (.int (-2000000003))]) X (xdec_at tL_mails_2 5 rfl) (by decide) rfl ?_
        refine v_iload X (xdec_at tL_mails_2 6 rfl) rfl ?_
        refine v_aload_n X (xdec_at tL_mails_2 7 rfl) rfl rfl ?_
        refine v_iload X (xdec_at tL_mails_2 8 rfl) rfl ?_
        refine v_iload X (xdec_at tL_mails_2 9 rfl) rfl ?_
        refine v_iload X (xdec_at tL_mails_2 10 rfl) rfl ?_
        refine v_iload X (xdec_at tL_mails_2 11 rfl) rfl ?_
        refine v_iload X (xdec_at tL_mails_2 12 rfl) rfl ?_
        refine v_iload X (xdec_at tL_mails_2 13 rfl) rfl ?_
        refine v_wC X hE mw_mail [.ref (l17 (500, 0)), .int (nI u0), .int (nI u2), .int (nI o_), .int (nI (1 + u12)), .int (nI u14), .int (nI 0)] [.int (-2000000003)] (mail_T rfl hOK) (xw_at tW_12 8 rfl) rfl (by rfl) (Nat.le_of_ble_eq_true rfl) (xdec_at tL_mails_2 14 rfl) ⟨(Nat.le_of_ble_eq_true rfl), (Nat.le_of_ble_eq_true rfl)⟩ ⟨(Nat.le_of_ble_eq_true rfl), (Nat.le_of_ble_eq_true rfl)⟩ ?_
        rintro v9 l18 C9 ⟨rfl, y_l18, rfl⟩
        rw [← y_l18.1, ← y_l18.2.1, ← y_l18.2.2 (300, 0) (by decide) (by decide)]
        refine v_icmp_eq (tgt := 167) X (xdec_at tL_mails_2 15 rfl) (by decide) (fun _ => ?_) (fun h9 => absurd rfl h9)
        refine v_iload X (xdec_at tL_mails_2 18 rfl) rfl ?_
        refine v_ldc (v := -2000000003) X (xw_at tW_12 2 rfl) (xdec_at tL_mails_2 19 rfl) ?_
        refine v_icmp_ne (tgt := 200) X (xdec_at tL_mails_2 20 rfl) (by decide) (fun h9 => absurd h9 (by decide)) (fun _ => ?_)
        refine v_aload_n X (xdec_at tL_mails_2 21 rfl) rfl rfl ?_
        refine v_iconst (v := 2) X (xdec_at tL_mails_2 22 rfl) (by decide) ?_
        refine x_iald (v := nI (nT μ)) X (300, 0) W2_d (vp_in_nI (n := 2) (N := 3) (by decide) (by decide)) rfl hf.2.2 (xdec_at tL_mails_2 23 rfl) ?_
        refine v_bipush (v := 40) X (xdec_at tL_mails_2 24 rfl) (by decide) ?_
        refine v_icmp_ne (tgt := 198) X (xdec_at tL_mails_2 25 rfl) (by decide) (fun h9 => absurd (show nI (nT μ) = 40 from by rw [hT9]; rfl) h9) (fun _ => ?_)
        refine v_aload_n X (xdec_at tL_mails_2 26 rfl) rfl rfl ?_
        refine v_iload X (xdec_at tL_mails_2 27 rfl) rfl ?_
        refine v_wN X hE myX4_till [.int (nI u2)] [] (qy_till hl0 hL.I hu2) (xw_at tW_4 9 rfl) (0, 0) cX_X rfl rfl rfl rfl (by rfl) (Nat.le_of_ble_eq_true rfl) (xdec_at tL_mails_2 28 rfl) ⟨(Nat.le_of_ble_eq_true rfl), (Nat.le_of_ble_eq_true rfl)⟩ ⟨(Nat.le_of_ble_eq_true rfl), (Nat.le_of_ble_eq_true rfl)⟩ ?_
        rintro v9 lay9 C9 ⟨rfl, rfl, rfl⟩
        refine v_lload X (xdec_at tL_mails_2 29 rfl) rfl ?_
        refine v_lcmp X (xdec_at tL_mails_2 30 rfl) ?_
        refine v_if_ne (tgt := 198) X (xdec_at tL_mails_2 31 rfl) (by decide) (fun h9 => absurd (lcz rfl) h9) (fun _ => ?_)
        refine v_iconst (v := 1) X (xdec_at tL_mails_2 32 rfl) (by decide) ?_
        refine v_goto (tgt := 199) X (xdec_at tL_mails_2 33 rfl) (by decide) ?_
        exact v_xr (v_zret X hr (xdec_at tL_mails_2 35 rfl) (Nat.le_of_ble_eq_true rfl) (Nat.le_of_ble_eq_true rfl) (by rfl) ⟨rfl, (lyL_tr y_l17 y_l18), μ, tb, rfl, hL.up.up, hg, Nat.le_refl _⟩)
    · refine v_aload_n X (xdec_at tL_mails_1 21 rfl) rfl rfl ?_
      refine v_iload X (xdec_at tL_mails_1 22 rfl) rfl ?_
      refine v_wN X hE myX4_till [.int (nI u2)] [] (qy_till hl0 hL.I hu2) (xw_at tW_4 9 rfl) (0, 0) cX_X rfl rfl rfl rfl (by rfl) (Nat.le_of_ble_eq_true rfl) (xdec_at tL_mails_1 23 rfl) ⟨(Nat.le_of_ble_eq_true rfl), (Nat.le_of_ble_eq_true rfl)⟩ ⟨(Nat.le_of_ble_eq_true rfl), (Nat.le_of_ble_eq_true rfl)⟩ ?_
      rintro v9 lay9 C9 ⟨rfl, rfl, rfl⟩
      refine v_lstore (lv' := [some (.ref (lay (0, 0))), some (.ref (lay (500, 0))), some (.ref (lay (300, 0))), some (.int z), some (.int (nI u0)), some (.int (nI u2)), some (.int (nI o_)), some (.int (nI (1 + u12))), some (.int (nI u14)), some (.int (nI 1)), some (.long (μ.2 8 u2)), none, none, none]) X (xdec_at tL_mails_1 24 rfl) (by decide) rfl ?_
      refine v_aload_n X (xdec_at tL_mails_1 25 rfl) rfl rfl ?_
      refine v_iload X (xdec_at tL_mails_1 26 rfl) rfl ?_
      refine v_iload X (xdec_at tL_mails_1 27 rfl) rfl ?_
      refine v_iload X (xdec_at tL_mails_1 28 rfl) rfl ?_
      refine v_iload X (xdec_at tL_mails_1 29 rfl) rfl ?_
      refine v_iconst (v := 1) X (xdec_at tL_mails_1 30 rfl) (by decide) ?_
      refine v_icmp_ne (tgt := 120) X (xdec_at tL_mails_1 31 rfl) (by decide) (fun h9 => absurd (show nI 1 = 1 from rfl) h9) (fun _ => ?_)
      refine v_iconst (v := 1) X (xdec_at tL_mails_1 32 rfl) (by decide) ?_
      refine v_goto (tgt := 121) X (xdec_at tL_mails_1 33 rfl) (by decide) ?_
      refine v_st (st' := [.int (nI 1), .int (nI (1 + u12)), .int (nI u2), .int (nI u0), .ref (lay (0, 0))]) (by rfl) ?_
      have hgA : arG (nI u0) (nI (1 + u12)) := arG_n (by omega) hgr
      refine v_wN X hE myX4_rate [.int (nI u0), .int (nI u2), .int (nI (1 + u12)), .int (nI 1)] [] (qy_rate hl0 hL.I hu2 (isK_n hu0) hgA) (xw_at tW_4 38 rfl) (0, 0) cX_X rfl rfl rfl rfl (by rfl) (Nat.le_of_ble_eq_true rfl) (xdec_at tL_mails_1 35 rfl) ⟨(Nat.le_of_ble_eq_true rfl), (Nat.le_of_ble_eq_true rfl)⟩ ⟨(Nat.le_of_ble_eq_true rfl), (Nat.le_of_ble_eq_true rfl)⟩ ?_
      rintro v9 lay9 C9 ⟨rfl, rfl, rfl⟩
      refine v_istore (lv' := [some (.ref (lay (0, 0))), some (.ref (lay (500, 0))), some (.ref (lay (300, 0))), some (.int z), some (.int (nI u0)), some (.int (nI u2)), some (.int (nI o_)), some (.int (nI (1 + u12))), some (.int (nI u14)), some (.int (nI 1)), some (.long (μ.2 8 u2)), none, some (.int (M_rateOf μ (nI u0) (nI u2) (nI (1 + u12)) (nI 1))), none]) X (xdec_at tL_mails_1 36 rfl) (by decide) rfl ?_
      have hb9 : bo (nI 1) = nI 1 := by decide
      by_cases hT : nT μ < 40
      · obtain ⟨eM, hJ, ⟨n1, n2, n3⟩, e8, ⟨f23, f24, f26, f19, f27, f35, fh⟩, htx⟩ := cm_mail (a := u2) (b := o_) (q := u0) (g := 1 + u12) (pd := u14) (rg := 1) hL hk hu2 ho.1 ho.2 hu0 (by omega) hgr (by omega) (by omega) hT
        obtain ⟨ν, hν⟩ : ∃ ν, ν = M_mailS μ (nI u0) (nI u2) (nI o_) (nI (1 + u12)) (nI u14) (nI 1) := ⟨_, rfl⟩
        rw [← hν] at eM hJ n1 n2 n3 e8 f23 f24 f26 f19 f27 f35 htx
        have e38 : (M_mail μ (nI u0) (nI u2) (nI o_) (nI (1 + u12)) (nI u14) (nI 1)).2.1 38 0 = 0 := by rw [eM]; exact hJ.z
        have hOK : MailOK l Z B0 μ tb (nI u0) (nI u2) (nI o_) (nI (1 + u12)) (nI u14) (nI 1) (nI (nT μ)) ν (KT_mail μ tb (nI u2) (nI 1)) := by
          intro lay r hr2
          refine mail_of hl0 hL.I hL.K hr2 (hL.M hk) (fun _ => ⟨by rw [hb9, eM], fun _ => by rw [hb9, eM]⟩) ?_
          rw [hb9]
          rintro E (⟨rfl, h9⟩ | ⟨rfl, h9⟩ | ⟨rfl, h9⟩) <;> exact absurd (e38.symm.trans h9) (by decide)
        refine v_aload_n X (xdec_at tL_mails_1 37 rfl) rfl rfl ?_
        refine v_iload X (xdec_at tL_mails_1 38 rfl) rfl ?_
        refine v_iload X (xdec_at tL_mails_1 39 rfl) rfl ?_
        refine v_iload X (xdec_at tL_mails_2 0 rfl) rfl ?_
        refine v_iload X (xdec_at tL_mails_2 1 rfl) rfl ?_
        refine v_iload X (xdec_at tL_mails_2 2 rfl) rfl ?_
        refine v_iload X (xdec_at tL_mails_2 3 rfl) rfl ?_
        refine v_wC X hE mw_mail [.ref (lay (0, 0)), .int (nI u0), .int (nI u2), .int (nI o_), .int (nI (1 + u12)), .int (nI u14), .int (nI 1)] [] (mail_W rfl hOK) (xw_at tW_12 8 rfl) rfl (by rfl) (Nat.le_of_ble_eq_true rfl) (xdec_at tL_mails_2 4 rfl) ⟨(Nat.le_of_ble_eq_true rfl), (Nat.le_of_ble_eq_true rfl)⟩ ⟨(Nat.le_of_ble_eq_true rfl), (Nat.le_of_ble_eq_true rfl)⟩ ?_
        rintro v9 l19 C9 ⟨rfl, y_l19, rfl⟩
        rw [← y_l19.1, ← y_l19.2.1, ← y_l19.2.2 (300, 0) (by decide) (by decide)]
        refine v_istore (lv' := [some (.ref (l19 (0, 0))), some (.ref (l19 (500, 0))), some (.ref (l19 (300, 0))), some (.int z), some (.int (nI u0)), some (.int (nI u2)), some (.int (nI o_)), some (.int (nI (1 + u12))), some (.int (nI u14)), some (.int (nI 1)), some (.long (μ.2 8 u2)), none, some (.int (M_rateOf μ (nI u0) (nI u2) (nI (1 + u12)) (nI 1))), some (.int (nI (nT μ)))]) X (xdec_at tL_mails_2 5 rfl) (by decide) rfl ?_
        refine v_iload X (xdec_at tL_mails_2 6 rfl) rfl ?_
        refine v_aload_n X (xdec_at tL_mails_2 7 rfl) rfl rfl ?_
        refine v_iload X (xdec_at tL_mails_2 8 rfl) rfl ?_
        refine v_iload X (xdec_at tL_mails_2 9 rfl) rfl ?_
        refine v_iload X (xdec_at tL_mails_2 10 rfl) rfl ?_
        refine v_iload X (xdec_at tL_mails_2 11 rfl) rfl ?_
        refine v_iload X (xdec_at tL_mails_2 12 rfl) rfl ?_
        refine v_iload X (xdec_at tL_mails_2 13 rfl) rfl ?_
        refine v_wC X hE mw_mail [.ref (l19 (500, 0)), .int (nI u0), .int (nI u2), .int (nI o_), .int (nI (1 + u12)), .int (nI u14), .int (nI 1)] [.int (nI (nT μ))] (mail_T rfl hOK) (xw_at tW_12 8 rfl) rfl (by rfl) (Nat.le_of_ble_eq_true rfl) (xdec_at tL_mails_2 14 rfl) ⟨(Nat.le_of_ble_eq_true rfl), (Nat.le_of_ble_eq_true rfl)⟩ ⟨(Nat.le_of_ble_eq_true rfl), (Nat.le_of_ble_eq_true rfl)⟩ ?_
        rintro v9 l20 C9 ⟨rfl, y_l20, rfl⟩
        rw [← y_l20.1, ← y_l20.2.1, ← y_l20.2.2 (300, 0) (by decide) (by decide)]
        refine v_icmp_eq (tgt := 167) X (xdec_at tL_mails_2 15 rfl) (by decide) (fun _ => ?_) (fun h9 => absurd rfl h9)
        refine v_iload X (xdec_at tL_mails_2 18 rfl) rfl ?_
        refine v_ldc (v := -2000000003) X (xw_at tW_12 2 rfl) (xdec_at tL_mails_2 19 rfl) ?_
        refine v_icmp_ne (tgt := 200) X (xdec_at tL_mails_2 20 rfl) (by decide) (fun _ => ?_) (fun h9 => absurd h9 (notneg (n := nT μ) (by omega)))
        refine v_aload_n X (xdec_at tL_mails_2 36 rfl) rfl rfl ?_
        refine v_iconst (v := 2) X (xdec_at tL_mails_2 37 rfl) (by decide) ?_
        refine v_dup2_11 X (xdec_at tL_mails_2 38 rfl) rfl rfl ?_
        refine x_iald (v := nI (nT μ)) X (300, 0) W2_d (vp_in_nI (n := 2) (N := 3) (by decide) (by decide)) rfl hf.2.2 (xdec_at tL_mails_2 39 rfl) ?_
        refine v_iconst (v := 1) X (xdec_at tL_mails_3 0 rfl) (by decide) ?_
        refine v_iadd X (xdec_at tL_mails_3 1 rfl) ?_
        refine x_iast (C' := W2 Z l20 ν (KT_mail μ tb (nI u2) (nI 1)) ν (KT_mail μ tb (nI u2) (nI 1)) (dR Z (dv ν))) X (300, 0) W2_d (vp_in_nI (n := 2) (N := 3) (by decide) (by decide)) rfl (W2_up (i := 2) (dv_2 (by rw [nPe hJ.I, n1, ← nPe hL.I]) (by rw [nGe hJ.I, n2, ← nGe hL.I]) (by rw [nI_1, nTe hJ.I, n3]))) (xdec_at tL_mails_3 2 rfl) ?_
        refine v_iload X (xdec_at tL_mails_3 3 rfl) rfl ?_
        refine v_aload_n X (xdec_at tL_mails_3 4 rfl) rfl rfl ?_
        refine v_iconst (v := 2) X (xdec_at tL_mails_3 5 rfl) (by decide) ?_
        refine x_iald (v := nI (nT μ + 1)) X (300, 0) W2_d (vp_in_nI (n := 2) (N := 3) (by decide) (by decide)) rfl (show dv ν 2 = _ from by show ν.1 16 0 = _; rw [nTe hJ.I, n3]) (xdec_at tL_mails_3 6 rfl) ?_
        refine v_iconst (v := 1) X (xdec_at tL_mails_3 7 rfl) (by decide) ?_
        refine v_isub X (xdec_at tL_mails_3 8 rfl) ?_
        refine v_icmp_ne (tgt := 369) X (xdec_at tL_mails_3 9 rfl) (by decide) (fun h9 => absurd (show nI (nT μ) = nI (nT μ + 1) - 1 from (nI_pred _).symm) h9) (fun _ => ?_)
        refine v_aload_n X (xdec_at tL_mails_3 10 rfl) rfl rfl ?_
        refine v_iload X (xdec_at tL_mails_3 11 rfl) rfl ?_
        refine v_wN X hE myX4_till [.int (nI u2)] [] (qy_till hl0 hJ.I (show u2 < nP ν from by omega)) (xw_at tW_4 9 rfl) (0, 0) cX_X rfl rfl rfl rfl (by rfl) (Nat.le_of_ble_eq_true rfl) (xdec_at tL_mails_3 12 rfl) ⟨(Nat.le_of_ble_eq_true rfl), (Nat.le_of_ble_eq_true rfl)⟩ ⟨(Nat.le_of_ble_eq_true rfl), (Nat.le_of_ble_eq_true rfl)⟩ ?_
        rintro v9 lay9 C9 ⟨rfl, rfl, rfl⟩
        refine v_lload X (xdec_at tL_mails_3 13 rfl) rfl ?_
        refine v_iload X (xdec_at tL_mails_3 14 rfl) rfl ?_
        refine v_i2l X (xdec_at tL_mails_3 15 rfl) rfl ?_
        refine v_ladd X (xdec_at tL_mails_3 16 rfl) ?_
        refine v_lcmp X (xdec_at tL_mails_3 17 rfl) ?_
        refine v_if_ne (tgt := 369) X (xdec_at tL_mails_3 18 rfl) (by decide) (fun h9 => absurd (lcz e8) h9) (fun _ => ?_)
        refine v_aload_n X (xdec_at tL_mails_3 19 rfl) rfl rfl ?_
        refine v_iload X (xdec_at tL_mails_3 20 rfl) rfl ?_
        refine v_iconst (v := 0) X (xdec_at tL_mails_3 21 rfl) (by decide) ?_
        refine v_wN X hE myX4_ofThing [.int (nI (nT μ)), .int 0] [] (qy_ofThing (t := nT μ) (w := 0) hl0 hJ.I hJ.K (show nT μ < nT ν from by omega) (by decide)) (xw_at tW_5 30 rfl) (0, 0) cX_X rfl rfl rfl rfl (by rfl) (Nat.le_of_ble_eq_true rfl) (xdec_at tL_mails_3 22 rfl) ⟨(Nat.le_of_ble_eq_true rfl), (Nat.le_of_ble_eq_true rfl)⟩ ⟨(Nat.le_of_ble_eq_true rfl), (Nat.le_of_ble_eq_true rfl)⟩ ?_
        rintro v9 lay9 C9 ⟨rfl, rfl, rfl⟩
        refine v_lconst (v := 0) X (xdec_at tL_mails_3 23 rfl) (by decide) ?_
        refine v_lcmp X (xdec_at tL_mails_3 24 rfl) ?_
        refine v_if_ne (tgt := 369) X (xdec_at tL_mails_3 25 rfl) (by decide) (fun h9 => absurd (lcz (show (ν.1 23 (nT μ)).toInt64 = 0 from by rw [f23]; rfl)) h9) (fun _ => ?_)
        refine v_aload_n X (xdec_at tL_mails_3 26 rfl) rfl rfl ?_
        refine v_iload X (xdec_at tL_mails_3 27 rfl) rfl ?_
        refine v_iconst (v := 1) X (xdec_at tL_mails_3 28 rfl) (by decide) ?_
        refine v_wN X hE myX4_ofThing [.int (nI (nT μ)), .int 1] [] (qy_ofThing (t := nT μ) (w := 1) hl0 hJ.I hJ.K (show nT μ < nT ν from by omega) (by decide)) (xw_at tW_5 30 rfl) (0, 0) cX_X rfl rfl rfl rfl (by rfl) (Nat.le_of_ble_eq_true rfl) (xdec_at tL_mails_3 29 rfl) ⟨(Nat.le_of_ble_eq_true rfl), (Nat.le_of_ble_eq_true rfl)⟩ ⟨(Nat.le_of_ble_eq_true rfl), (Nat.le_of_ble_eq_true rfl)⟩ ?_
        rintro v9 lay9 C9 ⟨rfl, rfl, rfl⟩
        refine v_iload X (xdec_at tL_mails_3 30 rfl) rfl ?_
        refine v_i2l X (xdec_at tL_mails_3 31 rfl) rfl ?_
        refine v_lcmp X (xdec_at tL_mails_3 32 rfl) ?_
        refine v_if_ne (tgt := 369) X (xdec_at tL_mails_3 33 rfl) (by decide) (fun h9 => absurd (lcz (show (ν.1 24 (nT μ)).toInt64 = _ from by rw [f24])) h9) (fun _ => ?_)
        refine v_aload_n X (xdec_at tL_mails_3 34 rfl) rfl rfl ?_
        refine v_iload X (xdec_at tL_mails_3 35 rfl) rfl ?_
        refine v_iconst (v := 2) X (xdec_at tL_mails_3 36 rfl) (by decide) ?_
        refine v_wN X hE myX4_ofThing [.int (nI (nT μ)), .int 2] [] (qy_ofThing (t := nT μ) (w := 2) hl0 hJ.I hJ.K (show nT μ < nT ν from by omega) (by decide)) (xw_at tW_5 30 rfl) (0, 0) cX_X rfl rfl rfl rfl (by rfl) (Nat.le_of_ble_eq_true rfl) (xdec_at tL_mails_3 37 rfl) ⟨(Nat.le_of_ble_eq_true rfl), (Nat.le_of_ble_eq_true rfl)⟩ ⟨(Nat.le_of_ble_eq_true rfl), (Nat.le_of_ble_eq_true rfl)⟩ ?_
        rintro v9 lay9 C9 ⟨rfl, rfl, rfl⟩
        refine v_lconst (v := 0) X (xdec_at tL_mails_3 38 rfl) (by decide) ?_
        refine v_lcmp X (xdec_at tL_mails_3 39 rfl) ?_
        refine v_if_ne (tgt := 369) X (xdec_at tL_mails_4 0 rfl) (by decide) (fun h9 => absurd (lcz (show (ν.1 26 (nT μ)).toInt64 = 0 from by rw [f26]; rfl)) h9) (fun _ => ?_)
        refine v_aload_n X (xdec_at tL_mails_4 1 rfl) rfl rfl ?_
        refine v_iload X (xdec_at tL_mails_4 2 rfl) rfl ?_
        refine v_iconst (v := 3) X (xdec_at tL_mails_4 3 rfl) (by decide) ?_
        refine v_wN X hE myX4_ofThing [.int (nI (nT μ)), .int 3] [] (qy_ofThing (t := nT μ) (w := 3) hl0 hJ.I hJ.K (show nT μ < nT ν from by omega) (by decide)) (xw_at tW_5 30 rfl) (0, 0) cX_X rfl rfl rfl rfl (by rfl) (Nat.le_of_ble_eq_true rfl) (xdec_at tL_mails_4 4 rfl) ⟨(Nat.le_of_ble_eq_true rfl), (Nat.le_of_ble_eq_true rfl)⟩ ⟨(Nat.le_of_ble_eq_true rfl), (Nat.le_of_ble_eq_true rfl)⟩ ?_
        rintro v9 lay9 C9 ⟨rfl, rfl, rfl⟩
        refine v_iload X (xdec_at tL_mails_4 5 rfl) rfl ?_
        refine v_i2l X (xdec_at tL_mails_4 6 rfl) rfl ?_
        refine v_lcmp X (xdec_at tL_mails_4 7 rfl) ?_
        refine v_if_ne (tgt := 369) X (xdec_at tL_mails_4 8 rfl) (by decide) (fun h9 => absurd (lcz (show (ν.1 19 (nT μ)).toInt64 = _ from by rw [f19])) h9) (fun _ => ?_)
        refine v_aload_n X (xdec_at tL_mails_4 9 rfl) rfl rfl ?_
        refine v_iload X (xdec_at tL_mails_4 10 rfl) rfl ?_
        refine v_iconst (v := 4) X (xdec_at tL_mails_4 11 rfl) (by decide) ?_
        refine v_wN X hE myX4_ofThing [.int (nI (nT μ)), .int 4] [] (qy_ofThing (t := nT μ) (w := 4) hl0 hJ.I hJ.K (show nT μ < nT ν from by omega) (by decide)) (xw_at tW_5 30 rfl) (0, 0) cX_X rfl rfl rfl rfl (by rfl) (Nat.le_of_ble_eq_true rfl) (xdec_at tL_mails_4 12 rfl) ⟨(Nat.le_of_ble_eq_true rfl), (Nat.le_of_ble_eq_true rfl)⟩ ⟨(Nat.le_of_ble_eq_true rfl), (Nat.le_of_ble_eq_true rfl)⟩ ?_
        rintro v9 lay9 C9 ⟨rfl, rfl, rfl⟩
        refine v_lconst (v := 0) X (xdec_at tL_mails_4 13 rfl) (by decide) ?_
        refine v_lcmp X (xdec_at tL_mails_4 14 rfl) ?_
        refine v_if_eq (tgt := 304) X (xdec_at tL_mails_4 15 rfl) (by decide) (fun c_294 => ?_) (fun c_294 => ?_)
        · refine v_aload_n X (xdec_at tL_mails_4 19 rfl) rfl rfl ?_
          refine v_iload X (xdec_at tL_mails_4 20 rfl) rfl ?_
          refine v_iconst (v := 5) X (xdec_at tL_mails_4 21 rfl) (by decide) ?_
          refine v_wN X hE myX4_ofThing [.int (nI (nT μ)), .int 5] [] (qy_ofThing (t := nT μ) (w := 5) hl0 hJ.I hJ.K (show nT μ < nT ν from by omega) (by decide)) (xw_at tW_5 30 rfl) (0, 0) cX_X rfl rfl rfl rfl (by rfl) (Nat.le_of_ble_eq_true rfl) (xdec_at tL_mails_4 22 rfl) ⟨(Nat.le_of_ble_eq_true rfl), (Nat.le_of_ble_eq_true rfl)⟩ ⟨(Nat.le_of_ble_eq_true rfl), (Nat.le_of_ble_eq_true rfl)⟩ ?_
          rintro v9 lay9 C9 ⟨rfl, rfl, rfl⟩
          refine v_lconst (v := 0) X (xdec_at tL_mails_4 23 rfl) (by decide) ?_
          refine v_lcmp X (xdec_at tL_mails_4 24 rfl) ?_
          refine v_if_ne (tgt := 369) X (xdec_at tL_mails_4 25 rfl) (by decide) (fun h9 => absurd (lcz (if_pos f27)) h9) (fun _ => ?_)
          refine v_aload_n X (xdec_at tL_mails_4 26 rfl) rfl rfl ?_
          refine v_iload X (xdec_at tL_mails_4 27 rfl) rfl ?_
          refine v_bipush (v := 6) X (xdec_at tL_mails_4 28 rfl) (by decide) ?_
          refine v_wN X hE myX4_ofThing [.int (nI (nT μ)), .int 6] [] (qy_ofThing (t := nT μ) (w := 6) hl0 hJ.I hJ.K (show nT μ < nT ν from by omega) (by decide)) (xw_at tW_5 30 rfl) (0, 0) cX_X rfl rfl rfl rfl (by rfl) (Nat.le_of_ble_eq_true rfl) (xdec_at tL_mails_4 29 rfl) ⟨(Nat.le_of_ble_eq_true rfl), (Nat.le_of_ble_eq_true rfl)⟩ ⟨(Nat.le_of_ble_eq_true rfl), (Nat.le_of_ble_eq_true rfl)⟩ ?_
          rintro v9 lay9 C9 ⟨rfl, rfl, rfl⟩
          refine v_iload X (xdec_at tL_mails_4 30 rfl) rfl ?_
          refine v_i2l X (xdec_at tL_mails_4 31 rfl) rfl ?_
          refine v_lcmp X (xdec_at tL_mails_4 32 rfl) ?_
          refine v_if_ne (tgt := 369) X (xdec_at tL_mails_4 33 rfl) (by decide) (fun h9 => absurd (lcz (show (ν.1 35 (nT μ)).toInt64 = _ from by rw [f35])) h9) (fun _ => ?_)
          refine v_iload X (xdec_at tL_mails_4 34 rfl) rfl ?_
          refine v_if_eq (tgt := 348) X (xdec_at tL_mails_4 35 rfl) (by decide) (fun h9 => absurd h9 (show ¬ nI 1 = 0 from by decide)) (fun _ => ?_)
          refine v_aload_n X (xdec_at tL_mails_4 36 rfl) rfl rfl ?_
          refine v_iload X (xdec_at tL_mails_4 37 rfl) rfl ?_
          refine v_iconst (v := 0) X (xdec_at tL_mails_4 38 rfl) (by decide) ?_
          refine v_wN X hE myX4_hand [.int (nI (nT μ)), .int (nI 0)] [] (qy_hand (t := nT μ) (n := 0) hl0 hJ.I hJ.H.choose_spec (show nT μ < nT ν from by omega) f35 (by decide) (by decide)) (xw_at tW_11 36 rfl) (0, 0) cX_X rfl rfl rfl rfl (by rfl) (Nat.le_of_ble_eq_true rfl) (xdec_at tL_mails_4 39 rfl) ⟨(Nat.le_of_ble_eq_true rfl), (Nat.le_of_ble_eq_true rfl)⟩ ⟨(Nat.le_of_ble_eq_true rfl), (Nat.le_of_ble_eq_true rfl)⟩ ?_
          rintro v9 lay9 C9 ⟨rfl, rfl, rfl⟩
          refine v_iload X (xdec_at tL_mails_5 0 rfl) rfl ?_
          refine v_icmp_ne (tgt := 369) X (xdec_at tL_mails_5 1 rfl) (by decide) (fun h9 => absurd (fh (by decide)) h9) (fun _ => ?_)
          refine v_aload_n X (xdec_at tL_mails_5 2 rfl) rfl rfl ?_
          refine v_bipush (v := 18) X (xdec_at tL_mails_5 3 rfl) (by decide) ?_
          refine v_iload X (xdec_at tL_mails_5 4 rfl) rfl ?_
          refine v_iload X (xdec_at tL_mails_5 5 rfl) rfl ?_
          refine v_iconst (v := 0) X (xdec_at tL_mails_5 6 rfl) (by decide) ?_
          refine v_iconst (v := 0) X (xdec_at tL_mails_5 7 rfl) (by decide) ?_
          have e39 : (M_hand ν (nI (nT μ)) (nI 1)).2.1 38 0 = 1 := by
            have g1 := isT_n hJ.I (p := nT μ) (by omega)
            unfold M_hand
            rw [g1.2, if_neg (fun q9 => q9.2.2 (by rw [f35]; exact Int32.le_refl _))]
            exact th_38 ν 1
          refine v_wC X hE mw_call [.ref (l20 (0, 0)), .int 18, .int (nI (nT μ)), .int (nI 1), .int 0, .int 0] [] (call_W rfl (ckE_hand_1 hl0 hJ e39)) (xw_at tW_6 13 rfl) rfl (by rfl) (Nat.le_of_ble_eq_true rfl) (xdec_at tL_mails_5 8 rfl) ⟨(Nat.le_of_ble_eq_true rfl), (Nat.le_of_ble_eq_true rfl)⟩ ⟨(Nat.le_of_ble_eq_true rfl), (Nat.le_of_ble_eq_true rfl)⟩ ?_
          rintro v9 l21 C9 ⟨rfl, y_l21, rfl⟩
          rw [← y_l21.1, ← y_l21.2.1, ← y_l21.2.2 (300, 0) (by decide) (by decide)]
          refine v_ldc (v := -2000000001) X (xw_at tW_12 0 rfl) (xdec_at tL_mails_5 9 rfl) ?_
          refine v_icmp_ne (tgt := 369) X (xdec_at tL_mails_5 10 rfl) (by decide) (fun h9 => absurd h9 (by decide)) (fun _ => ?_)
          refine v_iconst (v := 1) X (xdec_at tL_mails_5 11 rfl) (by decide) ?_
          refine v_goto (tgt := 370) X (xdec_at tL_mails_5 12 rfl) (by decide) ?_
          exact v_xr (v_zret X hr (xdec_at tL_mails_5 14 rfl) (Nat.le_of_ble_eq_true rfl) (Nat.le_of_ble_eq_true rfl) (by rfl) ⟨rfl, (lyL_tr (lyL_tr y_l19 y_l20) y_l21), ν, (KT_mail μ tb (nI u2) (nI 1)), rfl, hJ.up, (fun q9 => by have := hg (by omega); omega), Pp_mailK hL _ _⟩)
        · refine v_iload X (xdec_at tL_mails_4 16 rfl) rfl ?_
          refine v_iload X (xdec_at tL_mails_4 17 rfl) rfl ?_
          refine v_icmp_ge (tgt := 369) X (xdec_at tL_mails_4 18 rfl) (by decide) (fun h9 => absurd h9 (Int32.not_le.mpr (htx.resolve_left (fun q9 => c_294 (lcz q9))))) (fun _ => ?_)
          refine v_aload_n X (xdec_at tL_mails_4 19 rfl) rfl rfl ?_
          refine v_iload X (xdec_at tL_mails_4 20 rfl) rfl ?_
          refine v_iconst (v := 5) X (xdec_at tL_mails_4 21 rfl) (by decide) ?_
          refine v_wN X hE myX4_ofThing [.int (nI (nT μ)), .int 5] [] (qy_ofThing (t := nT μ) (w := 5) hl0 hJ.I hJ.K (show nT μ < nT ν from by omega) (by decide)) (xw_at tW_5 30 rfl) (0, 0) cX_X rfl rfl rfl rfl (by rfl) (Nat.le_of_ble_eq_true rfl) (xdec_at tL_mails_4 22 rfl) ⟨(Nat.le_of_ble_eq_true rfl), (Nat.le_of_ble_eq_true rfl)⟩ ⟨(Nat.le_of_ble_eq_true rfl), (Nat.le_of_ble_eq_true rfl)⟩ ?_
          rintro v9 lay9 C9 ⟨rfl, rfl, rfl⟩
          refine v_lconst (v := 0) X (xdec_at tL_mails_4 23 rfl) (by decide) ?_
          refine v_lcmp X (xdec_at tL_mails_4 24 rfl) ?_
          refine v_if_ne (tgt := 369) X (xdec_at tL_mails_4 25 rfl) (by decide) (fun h9 => absurd (lcz (if_pos f27)) h9) (fun _ => ?_)
          refine v_aload_n X (xdec_at tL_mails_4 26 rfl) rfl rfl ?_
          refine v_iload X (xdec_at tL_mails_4 27 rfl) rfl ?_
          refine v_bipush (v := 6) X (xdec_at tL_mails_4 28 rfl) (by decide) ?_
          refine v_wN X hE myX4_ofThing [.int (nI (nT μ)), .int 6] [] (qy_ofThing (t := nT μ) (w := 6) hl0 hJ.I hJ.K (show nT μ < nT ν from by omega) (by decide)) (xw_at tW_5 30 rfl) (0, 0) cX_X rfl rfl rfl rfl (by rfl) (Nat.le_of_ble_eq_true rfl) (xdec_at tL_mails_4 29 rfl) ⟨(Nat.le_of_ble_eq_true rfl), (Nat.le_of_ble_eq_true rfl)⟩ ⟨(Nat.le_of_ble_eq_true rfl), (Nat.le_of_ble_eq_true rfl)⟩ ?_
          rintro v9 lay9 C9 ⟨rfl, rfl, rfl⟩
          refine v_iload X (xdec_at tL_mails_4 30 rfl) rfl ?_
          refine v_i2l X (xdec_at tL_mails_4 31 rfl) rfl ?_
          refine v_lcmp X (xdec_at tL_mails_4 32 rfl) ?_
          refine v_if_ne (tgt := 369) X (xdec_at tL_mails_4 33 rfl) (by decide) (fun h9 => absurd (lcz (show (ν.1 35 (nT μ)).toInt64 = _ from by rw [f35])) h9) (fun _ => ?_)
          refine v_iload X (xdec_at tL_mails_4 34 rfl) rfl ?_
          refine v_if_eq (tgt := 348) X (xdec_at tL_mails_4 35 rfl) (by decide) (fun h9 => absurd h9 (show ¬ nI 1 = 0 from by decide)) (fun _ => ?_)
          refine v_aload_n X (xdec_at tL_mails_4 36 rfl) rfl rfl ?_
          refine v_iload X (xdec_at tL_mails_4 37 rfl) rfl ?_
          refine v_iconst (v := 0) X (xdec_at tL_mails_4 38 rfl) (by decide) ?_
          refine v_wN X hE myX4_hand [.int (nI (nT μ)), .int (nI 0)] [] (qy_hand (t := nT μ) (n := 0) hl0 hJ.I hJ.H.choose_spec (show nT μ < nT ν from by omega) f35 (by decide) (by decide)) (xw_at tW_11 36 rfl) (0, 0) cX_X rfl rfl rfl rfl (by rfl) (Nat.le_of_ble_eq_true rfl) (xdec_at tL_mails_4 39 rfl) ⟨(Nat.le_of_ble_eq_true rfl), (Nat.le_of_ble_eq_true rfl)⟩ ⟨(Nat.le_of_ble_eq_true rfl), (Nat.le_of_ble_eq_true rfl)⟩ ?_
          rintro v9 lay9 C9 ⟨rfl, rfl, rfl⟩
          refine v_iload X (xdec_at tL_mails_5 0 rfl) rfl ?_
          refine v_icmp_ne (tgt := 369) X (xdec_at tL_mails_5 1 rfl) (by decide) (fun h9 => absurd (fh (by decide)) h9) (fun _ => ?_)
          refine v_aload_n X (xdec_at tL_mails_5 2 rfl) rfl rfl ?_
          refine v_bipush (v := 18) X (xdec_at tL_mails_5 3 rfl) (by decide) ?_
          refine v_iload X (xdec_at tL_mails_5 4 rfl) rfl ?_
          refine v_iload X (xdec_at tL_mails_5 5 rfl) rfl ?_
          refine v_iconst (v := 0) X (xdec_at tL_mails_5 6 rfl) (by decide) ?_
          refine v_iconst (v := 0) X (xdec_at tL_mails_5 7 rfl) (by decide) ?_
          have e39 : (M_hand ν (nI (nT μ)) (nI 1)).2.1 38 0 = 1 := by
            have g1 := isT_n hJ.I (p := nT μ) (by omega)
            unfold M_hand
            rw [g1.2, if_neg (fun q9 => q9.2.2 (by rw [f35]; exact Int32.le_refl _))]
            exact th_38 ν 1
          refine v_wC X hE mw_call [.ref (l20 (0, 0)), .int 18, .int (nI (nT μ)), .int (nI 1), .int 0, .int 0] [] (call_W rfl (ckE_hand_1 hl0 hJ e39)) (xw_at tW_6 13 rfl) rfl (by rfl) (Nat.le_of_ble_eq_true rfl) (xdec_at tL_mails_5 8 rfl) ⟨(Nat.le_of_ble_eq_true rfl), (Nat.le_of_ble_eq_true rfl)⟩ ⟨(Nat.le_of_ble_eq_true rfl), (Nat.le_of_ble_eq_true rfl)⟩ ?_
          rintro v9 l22 C9 ⟨rfl, y_l22, rfl⟩
          rw [← y_l22.1, ← y_l22.2.1, ← y_l22.2.2 (300, 0) (by decide) (by decide)]
          refine v_ldc (v := -2000000001) X (xw_at tW_12 0 rfl) (xdec_at tL_mails_5 9 rfl) ?_
          refine v_icmp_ne (tgt := 369) X (xdec_at tL_mails_5 10 rfl) (by decide) (fun h9 => absurd h9 (by decide)) (fun _ => ?_)
          refine v_iconst (v := 1) X (xdec_at tL_mails_5 11 rfl) (by decide) ?_
          refine v_goto (tgt := 370) X (xdec_at tL_mails_5 12 rfl) (by decide) ?_
          exact v_xr (v_zret X hr (xdec_at tL_mails_5 14 rfl) (Nat.le_of_ble_eq_true rfl) (Nat.le_of_ble_eq_true rfl) (by rfl) ⟨rfl, (lyL_tr (lyL_tr y_l19 y_l20) y_l22), ν, (KT_mail μ tb (nI u2) (nI 1)), rfl, hJ.up, (fun q9 => by have := hg (by omega); omega), Pp_mailK hL _ _⟩)
      · have hT9 : nT μ = 40 := by omega
        have e38 := cm_mail40 (a := u2) (b := o_) (q := u0) (g := 1 + u12) (pd := u14) (rg := 1) hL hu2 ho.1 ho.2 hu0 (by omega) hgr (by omega) hT9
        have e38' : (M_mail μ (nI u0) (nI u2) (nI o_) (nI (1 + u12)) (nI u14) (bo (nI 1))).2.1 38 0 = 3 := by rw [hb9]; exact e38
        have hOK : MailOK l Z B0 μ tb (nI u0) (nI u2) (nI o_) (nI (1 + u12)) (nI u14) (nI 1) (-2000000003) μ tb := by
          intro lay r hr2
          refine mail_of hl0 hL.I hL.K hr2 (hL.M hk) (fun q9 => absurd (e38'.symm.trans q9) (by decide)) ?_
          rw [hb9]
          rintro E (⟨rfl, h9⟩ | ⟨rfl, h9⟩ | ⟨rfl, h9⟩)
          · exact absurd (e38.symm.trans h9) (by decide)
          · exact absurd (e38.symm.trans h9) (by decide)
          · exact ⟨rfl, Or.inr (Or.inr ⟨rfl, rfl⟩)⟩
        refine v_aload_n X (xdec_at tL_mails_1 37 rfl) rfl rfl ?_
        refine v_iload X (xdec_at tL_mails_1 38 rfl) rfl ?_
        refine v_iload X (xdec_at tL_mails_1 39 rfl) rfl ?_
        refine v_iload X (xdec_at tL_mails_2 0 rfl) rfl ?_
        refine v_iload X (xdec_at tL_mails_2 1 rfl) rfl ?_
        refine v_iload X (xdec_at tL_mails_2 2 rfl) rfl ?_
        refine v_iload X (xdec_at tL_mails_2 3 rfl) rfl ?_
        refine v_wC X hE mw_mail [.ref (lay (0, 0)), .int (nI u0), .int (nI u2), .int (nI o_), .int (nI (1 + u12)), .int (nI u14), .int (nI 1)] [] (mail_W rfl hOK) (xw_at tW_12 8 rfl) rfl (by rfl) (Nat.le_of_ble_eq_true rfl) (xdec_at tL_mails_2 4 rfl) ⟨(Nat.le_of_ble_eq_true rfl), (Nat.le_of_ble_eq_true rfl)⟩ ⟨(Nat.le_of_ble_eq_true rfl), (Nat.le_of_ble_eq_true rfl)⟩ ?_
        rintro v9 l23 C9 ⟨rfl, y_l23, rfl⟩
        rw [← y_l23.1, ← y_l23.2.1, ← y_l23.2.2 (300, 0) (by decide) (by decide)]
        refine v_istore (lv' := [some (.ref (l23 (0, 0))), some (.ref (l23 (500, 0))), some (.ref (l23 (300, 0))), some (.int z), some (.int (nI u0)), some (.int (nI u2)), some (.int (nI o_)), some (.int (nI (1 + u12))), some (.int (nI u14)), some (.int (nI 1)), some (.long (μ.2 8 u2)), none, some (.int (M_rateOf μ (nI u0) (nI u2) (nI (1 + u12)) (nI 1))), some (.int (-2000000003))]) X (xdec_at tL_mails_2 5 rfl) (by decide) rfl ?_
        refine v_iload X (xdec_at tL_mails_2 6 rfl) rfl ?_
        refine v_aload_n X (xdec_at tL_mails_2 7 rfl) rfl rfl ?_
        refine v_iload X (xdec_at tL_mails_2 8 rfl) rfl ?_
        refine v_iload X (xdec_at tL_mails_2 9 rfl) rfl ?_
        refine v_iload X (xdec_at tL_mails_2 10 rfl) rfl ?_
        refine v_iload X (xdec_at tL_mails_2 11 rfl) rfl ?_
        refine v_iload X (xdec_at tL_mails_2 12 rfl) rfl ?_
        refine v_iload X (xdec_at tL_mails_2 13 rfl) rfl ?_
        refine v_wC X hE mw_mail [.ref (l23 (500, 0)), .int (nI u0), .int (nI u2), .int (nI o_), .int (nI (1 + u12)), .int (nI u14), .int (nI 1)] [.int (-2000000003)] (mail_T rfl hOK) (xw_at tW_12 8 rfl) rfl (by rfl) (Nat.le_of_ble_eq_true rfl) (xdec_at tL_mails_2 14 rfl) ⟨(Nat.le_of_ble_eq_true rfl), (Nat.le_of_ble_eq_true rfl)⟩ ⟨(Nat.le_of_ble_eq_true rfl), (Nat.le_of_ble_eq_true rfl)⟩ ?_
        rintro v9 l24 C9 ⟨rfl, y_l24, rfl⟩
        rw [← y_l24.1, ← y_l24.2.1, ← y_l24.2.2 (300, 0) (by decide) (by decide)]
        refine v_icmp_eq (tgt := 167) X (xdec_at tL_mails_2 15 rfl) (by decide) (fun _ => ?_) (fun h9 => absurd rfl h9)
        refine v_iload X (xdec_at tL_mails_2 18 rfl) rfl ?_
        refine v_ldc (v := -2000000003) X (xw_at tW_12 2 rfl) (xdec_at tL_mails_2 19 rfl) ?_
        refine v_icmp_ne (tgt := 200) X (xdec_at tL_mails_2 20 rfl) (by decide) (fun h9 => absurd h9 (by decide)) (fun _ => ?_)
        refine v_aload_n X (xdec_at tL_mails_2 21 rfl) rfl rfl ?_
        refine v_iconst (v := 2) X (xdec_at tL_mails_2 22 rfl) (by decide) ?_
        refine x_iald (v := nI (nT μ)) X (300, 0) W2_d (vp_in_nI (n := 2) (N := 3) (by decide) (by decide)) rfl hf.2.2 (xdec_at tL_mails_2 23 rfl) ?_
        refine v_bipush (v := 40) X (xdec_at tL_mails_2 24 rfl) (by decide) ?_
        refine v_icmp_ne (tgt := 198) X (xdec_at tL_mails_2 25 rfl) (by decide) (fun h9 => absurd (show nI (nT μ) = 40 from by rw [hT9]; rfl) h9) (fun _ => ?_)
        refine v_aload_n X (xdec_at tL_mails_2 26 rfl) rfl rfl ?_
        refine v_iload X (xdec_at tL_mails_2 27 rfl) rfl ?_
        refine v_wN X hE myX4_till [.int (nI u2)] [] (qy_till hl0 hL.I hu2) (xw_at tW_4 9 rfl) (0, 0) cX_X rfl rfl rfl rfl (by rfl) (Nat.le_of_ble_eq_true rfl) (xdec_at tL_mails_2 28 rfl) ⟨(Nat.le_of_ble_eq_true rfl), (Nat.le_of_ble_eq_true rfl)⟩ ⟨(Nat.le_of_ble_eq_true rfl), (Nat.le_of_ble_eq_true rfl)⟩ ?_
        rintro v9 lay9 C9 ⟨rfl, rfl, rfl⟩
        refine v_lload X (xdec_at tL_mails_2 29 rfl) rfl ?_
        refine v_lcmp X (xdec_at tL_mails_2 30 rfl) ?_
        refine v_if_ne (tgt := 198) X (xdec_at tL_mails_2 31 rfl) (by decide) (fun h9 => absurd (lcz rfl) h9) (fun _ => ?_)
        refine v_iconst (v := 1) X (xdec_at tL_mails_2 32 rfl) (by decide) ?_
        refine v_goto (tgt := 199) X (xdec_at tL_mails_2 33 rfl) (by decide) ?_
        exact v_xr (v_zret X hr (xdec_at tL_mails_2 35 rfl) (Nat.le_of_ble_eq_true rfl) (Nat.le_of_ble_eq_true rfl) (by rfl) ⟨rfl, (lyL_tr y_l23 y_l24), μ, tb, rfl, hL.up.up, hg, Nat.le_refl _⟩)
