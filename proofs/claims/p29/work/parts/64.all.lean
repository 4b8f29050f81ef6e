/-! all, sums, cell -/
theorem nPe {μ : Mu} (h : RI μ) : μ.1 0 0 = nI (nP μ) := by
  obtain ⟨n, hn, e⟩ := h.1
  rw [nP_of hn e, e]
theorem nTe {μ : Mu} (h : RI μ) : μ.1 16 0 = nI (nT μ) := by
  obtain ⟨n, hn, e⟩ := h.2.2.1
  rw [nT_of hn e, e]
theorem nGe {μ : Mu} (h : RI μ) : μ.1 10 0 = nI (nG μ) := by
  obtain ⟨n, hn, e⟩ := h.2.1
  rw [nG_of hn e, e]
def sm (f : Nat → Int64) : Nat → Int64
  | 0 => 0
  | n + 1 => sm f n + f n
def a1 (μ : Mu) (p : Nat) : Nat → Int64 → Int64
  | 0, h => h
  | q + 1, h => ((a1 μ p q h * 31 + (dY μ p q).toInt64) * 31 + (nX μ p q).toInt64) * 1009 + μ.2 9 (8 * p + q)
def a2 (μ : Mu) : Nat → Int64
  | 0 => 17
  | p + 1 => a1 μ p (nP μ) ((a2 μ p * 1009 + μ.2 7 p) * 1009 + μ.2 8 p) * 127 + (M_rateOf μ (nI (p % 3)) (nI p) 20 0).toInt64
def a3 (μ : Mu) (t : Nat) : Nat → Int64 → Int64
  | 0, h => h
  | w + 1, h => a3 μ t w h * 127 + oT μ t w
def a4 (μ : Mu) : Nat → Int64
  | 0 => a2 μ (nP μ)
  | t + 1 => a3 μ t 7 (a4 μ t)
/-- the law's number of all that can be told -/
def hA (μ : Mu) : Int64 := (a4 μ (nT μ) * 31 + (M_gain μ 0).1.toInt64) * 31 + (M_gain μ 1).1.toInt64
/-- the law's row of counts: posts, legs, things -/
abbrev dF (f : Nat → Int32) (μ : Mu) : Prop := f 0 = nI (nP μ) ∧ f 1 = nI (nG μ) ∧ f 2 = nI (nT μ)
theorem isK_3 (p : Nat) : isK (nI (p % 3)) := by
  have : p % 3 < 3 := Nat.mod_lt _ (by decide)
  exact ⟨nI_pos' (by omega), nI_le (b := 2) (by omega) (by decide)⟩
theorem arG_20 (k : Int32) : arG k 20 := by
  unfold arG
  split <;> decide
set_option maxRecDepth 100000 in
set_option maxHeartbeats 4000000 in
theorem c_all {l : Launch} (hl0 : l.stackTraces = false) {Z : xZ} {B0 : Nat} {lay : xK → Nat} {μ : Mu} {tb : Tb} {r : xK → Option xE} {f : Nat → Int32} (hI : RI μ) (hK : KI μ) (hTS : TS μ tb.1) (hd : r (300, 0) = some (aI Z 3 f)) (hf : dF f μ) : YL l yL_all cL_all 6 (some FieldType.long) 22 800 1100 6600 Z B0 [.ref (lay (0, 0)), .ref (lay (300, 0))] lay (cX Z lay μ tb r) (fun v lay' C' => lay = lay' ∧ v = some (.long (hA μ)) ∧ C' = cX Z lay μ tb r) := by
  have hP8 := nP8 hI
  have hT40 := nT40 hI
  refine YL_of myL_all.2 RL rfl [some (.ref (lay (0, 0))), some (.ref (lay (300, 0))), none, none, none, none] rfl (Nat.le_of_ble_eq_true rfl) ?_
  intro P1 P2 P3 P4 P5 P6 P7 P8 X hr hE
  refine v_ldc2 (v := 17) X (xw_at tW_2 33 rfl) (xdec_at tL_all_0 0 rfl) ?_
  refine v_lstore_n (lv' := [some (.ref (lay (0, 0))), some (.ref (lay (300, 0))), some (.long 17), none, none, none]) X (xdec_at tL_all_0 1 rfl) rfl (by decide) rfl ?_
  refine v_iconst (v := 0) X (xdec_at tL_all_0 2 rfl) (by decide) ?_
  refine v_istore (lv' := [some (.ref (lay (0, 0))), some (.ref (lay (300, 0))), some (.long 17), none, some (.int 0), none]) X (xdec_at tL_all_0 3 rfl) (by decide) rfl ?_
  refine v_forC (nP μ) (fun _ => cX Z lay μ tb r) (fun p => [some (.ref (lay (0, 0))), some (.ref (lay (300, 0))), some (.long (a2 μ p)), none, some (.int (nI p)), none]) (fun p => 60 * p) (fun p => 360 * p) 7 [] (fun p hp K => ?_) ?_
  · refine v_iload X (xdec_at tL_all_0 4 rfl) rfl ?_
    refine v_aload_n X (xdec_at tL_all_0 5 rfl) rfl rfl ?_
    refine v_iconst (v := 0) X (xdec_at tL_all_0 6 rfl) (by decide) ?_
    refine x_iald (v := nI (nP μ)) X (300, 0) (show cX Z lay μ tb r (300, 0) = some (.inl (Z.2 0, 3, .inl f)) from hd) (vp_in_nI (n := 0) (N := 3) (by decide) (by decide)) rfl hf.1 (xdec_at tL_all_0 7 rfl) ?_
    refine v_icmp_ge (tgt := 126) X (xdec_at tL_all_0 8 rfl) (by decide) (fun h9 => absurd h9 (nI_ge hp (by omega))) (fun _ => ?_)
    refine v_lload_n X (xdec_at tL_all_0 9 rfl) rfl rfl ?_
    refine v_ldc2 (v := 1009) X (xw_at tW_2 34 rfl) (xdec_at tL_all_0 10 rfl) ?_
    refine v_lmul X (xdec_at tL_all_0 11 rfl) ?_
    refine v_aload_n X (xdec_at tL_all_0 12 rfl) rfl rfl ?_
    refine v_iload X (xdec_at tL_all_0 13 rfl) rfl ?_
    refine v_wN X hE myX4_account [.int (nI p)] [.long ((a2 μ p) * 1009)] (qy_account hl0 hI hp) (xw_at tW_2 35 rfl) (0, 0) cX_X rfl rfl rfl rfl (by rfl) (Nat.le_of_ble_eq_true rfl) (xdec_at tL_all_0 14 rfl) ⟨(Nat.le_of_ble_eq_true rfl), (Nat.le_of_ble_eq_true rfl)⟩ ⟨by show (_ : Nat) ≤ 1100; omega, by show (_ : Nat) ≤ 6600; omega⟩ ?_
    rintro v9 lay9 C9 ⟨rfl, rfl, rfl⟩
    refine v_ladd X (xdec_at tL_all_0 15 rfl) ?_
    refine v_ldc2 (v := 1009) X (xw_at tW_2 34 rfl) (xdec_at tL_all_0 16 rfl) ?_
    refine v_lmul X (xdec_at tL_all_0 17 rfl) ?_
    refine v_aload_n X (xdec_at tL_all_0 18 rfl) rfl rfl ?_
    refine v_iload X (xdec_at tL_all_0 19 rfl) rfl ?_
    refine v_wN X hE myX4_till [.int (nI p)] [.long ((((a2 μ p) * 1009) + (μ.2 7 p)) * 1009)] (qy_till hl0 hI hp) (xw_at tW_4 9 rfl) (0, 0) cX_X rfl rfl rfl rfl (by rfl) (Nat.le_of_ble_eq_true rfl) (xdec_at tL_all_0 20 rfl) ⟨(Nat.le_of_ble_eq_true rfl), (Nat.le_of_ble_eq_true rfl)⟩ ⟨by show (_ : Nat) ≤ 1100; omega, by show (_ : Nat) ≤ 6600; omega⟩ ?_
    rintro v9 lay9 C9 ⟨rfl, rfl, rfl⟩
    refine v_ladd X (xdec_at tL_all_0 21 rfl) ?_
    refine v_lstore_n (lv' := [some (.ref (lay (0, 0))), some (.ref (lay (300, 0))), some (.long (((((a2 μ p) * 1009) + (μ.2 7 p)) * 1009) + (μ.2 8 p))), none, some (.int (nI p)), none]) X (xdec_at tL_all_0 22 rfl) rfl (by decide) rfl ?_
    refine v_iconst (v := 0) X (xdec_at tL_all_0 23 rfl) (by decide) ?_
    refine v_istore (lv' := [some (.ref (lay (0, 0))), some (.ref (lay (300, 0))), some (.long (((((a2 μ p) * 1009) + (μ.2 7 p)) * 1009) + (μ.2 8 p))), none, some (.int (nI p)), some (.int 0)]) X (xdec_at tL_all_0 24 rfl) (by decide) rfl ?_
    refine v_forC (nP μ) (fun _ => cX Z lay μ tb r) (fun q => [some (.ref (lay (0, 0))), some (.ref (lay (300, 0))), some (.long (a1 μ p q (((((a2 μ p) * 1009) + (μ.2 7 p)) * 1009) + (μ.2 8 p)))), none, some (.int (nI p)), some (.int (nI q))]) (fun q => 60 * p + 2 + 6 * q) (fun q => 360 * p + 12 + 36 * q) 42 [] (fun q hq K2 => ?_) ?_
    · refine v_iload X (xdec_at tL_all_0 25 rfl) rfl ?_
      refine v_aload_n X (xdec_at tL_all_0 26 rfl) rfl rfl ?_
      refine v_iconst (v := 0) X (xdec_at tL_all_0 27 rfl) (by decide) ?_
      refine x_iald (v := nI (nP μ)) X (300, 0) (show cX Z lay μ tb r (300, 0) = some (.inl (Z.2 0, 3, .inl f)) from hd) (vp_in_nI (n := 0) (N := 3) (by decide) (by decide)) rfl hf.1 (xdec_at tL_all_0 28 rfl) ?_
      refine v_icmp_ge (tgt := 99) X (xdec_at tL_all_0 29 rfl) (by decide) (fun h9 => absurd h9 (nI_ge hq (by omega))) (fun _ => ?_)
      refine v_lload_n X (xdec_at tL_all_0 30 rfl) rfl rfl ?_
      refine v_ldc2 (v := 31) X (xw_at tW_4 13 rfl) (xdec_at tL_all_0 31 rfl) ?_
      refine v_lmul X (xdec_at tL_all_0 32 rfl) ?_
      refine v_aload_n X (xdec_at tL_all_0 33 rfl) rfl rfl ?_
      refine v_iload X (xdec_at tL_all_0 34 rfl) rfl ?_
      refine v_iload X (xdec_at tL_all_0 35 rfl) rfl ?_
      refine v_wN X hE myX4_days [.int (nI p), .int (nI q)] [.long ((a1 μ p q (((((a2 μ p) * 1009) + (μ.2 7 p)) * 1009) + (μ.2 8 p))) * 31)] (qy_days hl0 hI hTS hp hq) (xw_at tW_4 14 rfl) (0, 0) cX_X rfl rfl rfl rfl (by rfl) (Nat.le_of_ble_eq_true rfl) (xdec_at tL_all_0 36 rfl) ⟨(Nat.le_of_ble_eq_true rfl), (Nat.le_of_ble_eq_true rfl)⟩ ⟨by show (_ : Nat) ≤ 1100; omega, by show (_ : Nat) ≤ 6600; omega⟩ ?_
      rintro v9 lay9 C9 ⟨rfl, rfl, rfl⟩
      refine v_i2l X (xdec_at tL_all_0 37 rfl) rfl ?_
      refine v_ladd X (xdec_at tL_all_0 38 rfl) ?_
      refine v_ldc2 (v := 31) X (xw_at tW_4 13 rfl) (xdec_at tL_all_0 39 rfl) ?_
      refine v_lmul X (xdec_at tL_all_1 0 rfl) ?_
      refine v_aload_n X (xdec_at tL_all_1 1 rfl) rfl rfl ?_
      refine v_iload X (xdec_at tL_all_1 2 rfl) rfl ?_
      refine v_iload X (xdec_at tL_all_1 3 rfl) rfl ?_
      refine v_wN X hE myX4_next [.int (nI p), .int (nI q)] [.long ((((a1 μ p q (((((a2 μ p) * 1009) + (μ.2 7 p)) * 1009) + (μ.2 8 p))) * 31) + ((dY μ p q)).toInt64) * 31)] (qy_next hl0 hI hTS hp hq) (xw_at tW_4 25 rfl) (0, 0) cX_X rfl rfl rfl rfl (by rfl) (Nat.le_of_ble_eq_true rfl) (xdec_at tL_all_1 4 rfl) ⟨(Nat.le_of_ble_eq_true rfl), (Nat.le_of_ble_eq_true rfl)⟩ ⟨by show (_ : Nat) ≤ 1100; omega, by show (_ : Nat) ≤ 6600; omega⟩ ?_
      rintro v9 lay9 C9 ⟨rfl, rfl, rfl⟩
      refine v_i2l X (xdec_at tL_all_1 5 rfl) rfl ?_
      refine v_ladd X (xdec_at tL_all_1 6 rfl) ?_
      refine v_ldc2 (v := 1009) X (xw_at tW_2 34 rfl) (xdec_at tL_all_1 7 rfl) ?_
      refine v_lmul X (xdec_at tL_all_1 8 rfl) ?_
      refine v_aload_n X (xdec_at tL_all_1 9 rfl) rfl rfl ?_
      refine v_iload X (xdec_at tL_all_1 10 rfl) rfl ?_
      refine v_iload X (xdec_at tL_all_1 11 rfl) rfl ?_
      refine v_wN X hE myX4_counted [.int (nI p), .int (nI q)] [.long ((((((a1 μ p q (((((a2 μ p) * 1009) + (μ.2 7 p)) * 1009) + (μ.2 8 p))) * 31) + ((dY μ p q)).toInt64) * 31) + ((nX μ p q)).toInt64) * 1009)] (qy_counted hl0 hI hp hq) (xw_at tW_4 33 rfl) (0, 0) cX_X rfl rfl rfl rfl (by rfl) (Nat.le_of_ble_eq_true rfl) (xdec_at tL_all_1 12 rfl) ⟨(Nat.le_of_ble_eq_true rfl), (Nat.le_of_ble_eq_true rfl)⟩ ⟨by show (_ : Nat) ≤ 1100; omega, by show (_ : Nat) ≤ 6600; omega⟩ ?_
      rintro v9 lay9 C9 ⟨rfl, rfl, rfl⟩
      refine v_ladd X (xdec_at tL_all_1 13 rfl) ?_
      refine v_lstore_n (lv' := [some (.ref (lay (0, 0))), some (.ref (lay (300, 0))), some (.long (((((((a1 μ p q (((((a2 μ p) * 1009) + (μ.2 7 p)) * 1009) + (μ.2 8 p))) * 31) + ((dY μ p q)).toInt64) * 31) + ((nX μ p q)).toInt64) * 1009) + (μ.2 9 (8 * p + q)))), none, some (.int (nI p)), some (.int (nI q))]) X (xdec_at tL_all_1 14 rfl) rfl (by decide) rfl ?_
      refine v_iinc (v := (nI (q + 1))) (lv' := [some (.ref (lay (0, 0))), some (.ref (lay (300, 0))), some (.long (((((((a1 μ p q (((((a2 μ p) * 1009) + (μ.2 7 p)) * 1009) + (μ.2 8 p))) * 31) + ((dY μ p q)).toInt64) * 31) + ((nX μ p q)).toInt64) * 1009) + (μ.2 9 (8 * p + q)))), none, some (.int (nI p)), some (.int (nI (q + 1)))]) X (xdec_at tL_all_1 15 rfl) rfl (nI_1 _) (by decide) rfl ?_
      refine v_goto (tgt := 42) X (xdec_at tL_all_1 16 rfl) (by decide) ?_
      exact v_widen (by show (_ : Nat) ≤ 60 * p + 2 + 6 * (q + 1); omega) (by show (_ : Nat) ≤ 360 * p + 12 + 36 * (q + 1); omega) K2
    · refine v_iload X (xdec_at tL_all_0 25 rfl) rfl ?_
      refine v_aload_n X (xdec_at tL_all_0 26 rfl) rfl rfl ?_
      refine v_iconst (v := 0) X (xdec_at tL_all_0 27 rfl) (by decide) ?_
      refine x_iald (v := nI (nP μ)) X (300, 0) (show cX Z lay μ tb r (300, 0) = some (.inl (Z.2 0, 3, .inl f)) from hd) (vp_in_nI (n := 0) (N := 3) (by decide) (by decide)) rfl hf.1 (xdec_at tL_all_0 28 rfl) ?_
      refine v_icmp_ge (tgt := 99) X (xdec_at tL_all_0 29 rfl) (by decide) (fun _ => ?_) (fun h9 => absurd (nI_le (Nat.le_refl _) (by omega)) h9)
      refine v_lload_n X (xdec_at tL_all_1 17 rfl) rfl rfl ?_
      refine v_ldc2 (v := 127) X (xw_at tW_4 37 rfl) (xdec_at tL_all_1 18 rfl) ?_
      refine v_lmul X (xdec_at tL_all_1 19 rfl) ?_
      refine v_aload_n X (xdec_at tL_all_1 20 rfl) rfl rfl ?_
      refine v_iload X (xdec_at tL_all_1 21 rfl) rfl ?_
      refine v_iconst (v := 3) X (xdec_at tL_all_1 22 rfl) (by decide) ?_
      refine v_irem X (xdec_at tL_all_1 23 rfl) (by decide) ?_
      refine v_st (st' := [.int (nI (p % 3)), .ref (lay (0, 0)), .long ((a1 μ p (nP μ) (((((a2 μ p) * 1009) + (μ.2 7 p)) * 1009) + (μ.2 8 p))) * 127)]) (by rw [show nI p - nI p / 3 * 3 = nI (p % 3) from pk_rem (d := 3) (by omega) (by decide) (by decide)]) ?_
      refine v_iload X (xdec_at tL_all_1 24 rfl) rfl ?_
      refine v_bipush (v := 20) X (xdec_at tL_all_1 25 rfl) (by decide) ?_
      refine v_iconst (v := 0) X (xdec_at tL_all_1 26 rfl) (by decide) ?_
      refine v_wN X hE myX4_rate [.int (nI (p % 3)), .int (nI p), .int 20, .int 0] [.long ((a1 μ p (nP μ) (((((a2 μ p) * 1009) + (μ.2 7 p)) * 1009) + (μ.2 8 p))) * 127)] (qy_rate hl0 hI hp (isK_3 _) (arG_20 _)) (xw_at tW_4 38 rfl) (0, 0) cX_X rfl rfl rfl rfl (by rfl) (Nat.le_of_ble_eq_true rfl) (xdec_at tL_all_1 27 rfl) ⟨(Nat.le_of_ble_eq_true rfl), (Nat.le_of_ble_eq_true rfl)⟩ ⟨by show (_ : Nat) ≤ 1100; omega, by show (_ : Nat) ≤ 6600; omega⟩ ?_
      rintro v9 lay9 C9 ⟨rfl, rfl, rfl⟩
      refine v_i2l X (xdec_at tL_all_1 28 rfl) rfl ?_
      refine v_ladd X (xdec_at tL_all_1 29 rfl) ?_
      refine v_lstore_n (lv' := [some (.ref (lay (0, 0))), some (.ref (lay (300, 0))), some (.long (((a1 μ p (nP μ) (((((a2 μ p) * 1009) + (μ.2 7 p)) * 1009) + (μ.2 8 p))) * 127) + ((M_rateOf μ (nI (p % 3)) (nI p) 20 0)).toInt64)), none, some (.int (nI p)), some (.int (nI (nP μ)))]) X (xdec_at tL_all_1 30 rfl) rfl (by decide) rfl ?_
      refine v_iinc (v := (nI (p + 1))) (lv' := [some (.ref (lay (0, 0))), some (.ref (lay (300, 0))), some (.long (((a1 μ p (nP μ) (((((a2 μ p) * 1009) + (μ.2 7 p)) * 1009) + (μ.2 8 p))) * 127) + ((M_rateOf μ (nI (p % 3)) (nI p) 20 0)).toInt64)), none, some (.int (nI (p + 1))), some (.int (nI (nP μ)))]) X (xdec_at tL_all_1 31 rfl) rfl (nI_1 _) (by decide) rfl ?_
      refine v_goto (tgt := 7) X (xdec_at tL_all_1 32 rfl) (by decide) ?_
      exact v_le (lv' := [some (.ref (lay (0, 0))), some (.ref (lay (300, 0))), some (.long (a2 μ (p + 1))), none, some (.int (nI (p + 1))), none]) ⟨rfl, rfl, rfl, rfl, trivial⟩ (v_widen (by show (_ : Nat) ≤ 60 * (p + 1); omega) (by show (_ : Nat) ≤ 360 * (p + 1); omega) K)
  · refine v_iload X (xdec_at tL_all_0 4 rfl) rfl ?_
    refine v_aload_n X (xdec_at tL_all_0 5 rfl) rfl rfl ?_
    refine v_iconst (v := 0) X (xdec_at tL_all_0 6 rfl) (by decide) ?_
    refine x_iald (v := nI (nP μ)) X (300, 0) (show cX Z lay μ tb r (300, 0) = some (.inl (Z.2 0, 3, .inl f)) from hd) (vp_in_nI (n := 0) (N := 3) (by decide) (by decide)) rfl hf.1 (xdec_at tL_all_0 7 rfl) ?_
    refine v_icmp_ge (tgt := 126) X (xdec_at tL_all_0 8 rfl) (by decide) (fun _ => ?_) (fun h9 => absurd (nI_le (Nat.le_refl _) (by omega)) h9)
    refine v_iconst (v := 0) X (xdec_at tL_all_1 33 rfl) (by decide) ?_
    refine v_istore (lv' := [some (.ref (lay (0, 0))), some (.ref (lay (300, 0))), some (.long (a2 μ (nP μ))), none, some (.int 0), none]) X (xdec_at tL_all_1 34 rfl) (by decide) rfl ?_
    refine v_forC (nT μ) (fun _ => cX Z lay μ tb r) (fun t => [some (.ref (lay (0, 0))), some (.ref (lay (300, 0))), some (.long (a4 μ t)), none, some (.int (nI t)), none]) (fun t => 60 * nP μ + 14 * t) (fun t => 360 * nP μ + 84 * t) 129 [] (fun t ht K => ?_) ?_
    · refine v_iload X (xdec_at tL_all_1 35 rfl) rfl ?_
      refine v_aload_n X (xdec_at tL_all_1 36 rfl) rfl rfl ?_
      refine v_iconst (v := 2) X (xdec_at tL_all_1 37 rfl) (by decide) ?_
      refine x_iald (v := nI (nT μ)) X (300, 0) (show cX Z lay μ tb r (300, 0) = some (.inl (Z.2 0, 3, .inl f)) from hd) (vp_in_nI (n := 2) (N := 3) (by decide) (by decide)) rfl hf.2.2 (xdec_at tL_all_1 38 rfl) ?_
      refine v_icmp_ge (tgt := 174) X (xdec_at tL_all_1 39 rfl) (by decide) (fun h9 => absurd h9 (nI_ge ht (by omega))) (fun _ => ?_)
      refine v_iconst (v := 0) X (xdec_at tL_all_2 0 rfl) (by decide) ?_
      refine v_istore (lv' := [some (.ref (lay (0, 0))), some (.ref (lay (300, 0))), some (.long (a4 μ t)), none, some (.int (nI t)), some (.int 0)]) X (xdec_at tL_all_2 1 rfl) (by decide) rfl ?_
      refine v_forC 7 (fun _ => cX Z lay μ tb r) (fun q => [some (.ref (lay (0, 0))), some (.ref (lay (300, 0))), some (.long (a3 μ t q (a4 μ t))), none, some (.int (nI t)), some (.int (nI q))]) (fun q => 60 * nP μ + 14 * t + 2 * q) (fun q => 360 * nP μ + 84 * t + 12 * q) 140 [] (fun q hq K2 => ?_) ?_
      · refine v_iload X (xdec_at tL_all_2 2 rfl) rfl ?_
        refine v_bipush (v := 7) X (xdec_at tL_all_2 3 rfl) (by decide) ?_
        refine v_icmp_ge (tgt := 168) X (xdec_at tL_all_2 4 rfl) (by decide) (fun h9 => absurd h9 (nI_ge (b := 7) hq (by decide))) (fun _ => ?_)
        refine v_lload_n X (xdec_at tL_all_2 5 rfl) rfl rfl ?_
        refine v_ldc2 (v := 127) X (xw_at tW_4 37 rfl) (xdec_at tL_all_2 6 rfl) ?_
        refine v_lmul X (xdec_at tL_all_2 7 rfl) ?_
        refine v_aload_n X (xdec_at tL_all_2 8 rfl) rfl rfl ?_
        refine v_iload X (xdec_at tL_all_2 9 rfl) rfl ?_
        refine v_iload X (xdec_at tL_all_2 10 rfl) rfl ?_
        refine v_wN X hE myX4_ofThing [.int (nI t), .int (nI q)] [.long ((a3 μ t q (a4 μ t)) * 127)] (qy_ofThing (t := t) (w := q) hl0 hI hK ht hq) (xw_at tW_5 30 rfl) (0, 0) cX_X rfl rfl rfl rfl (by rfl) (Nat.le_of_ble_eq_true rfl) (xdec_at tL_all_2 11 rfl) ⟨(Nat.le_of_ble_eq_true rfl), (Nat.le_of_ble_eq_true rfl)⟩ ⟨by show (_ : Nat) ≤ 1100; omega, by show (_ : Nat) ≤ 6600; omega⟩ ?_
        rintro v9 lay9 C9 ⟨rfl, rfl, rfl⟩
        refine v_ladd X (xdec_at tL_all_2 12 rfl) ?_
        refine v_lstore_n (lv' := [some (.ref (lay (0, 0))), some (.ref (lay (300, 0))), some (.long (((a3 μ t q (a4 μ t)) * 127) + (oT μ t q))), none, some (.int (nI t)), some (.int (nI q))]) X (xdec_at tL_all_2 13 rfl) rfl (by decide) rfl ?_
        refine v_iinc (v := (nI (q + 1))) (lv' := [some (.ref (lay (0, 0))), some (.ref (lay (300, 0))), some (.long (((a3 μ t q (a4 μ t)) * 127) + (oT μ t q))), none, some (.int (nI t)), some (.int (nI (q + 1)))]) X (xdec_at tL_all_2 14 rfl) rfl (nI_1 _) (by decide) rfl ?_
        refine v_goto (tgt := 140) X (xdec_at tL_all_2 15 rfl) (by decide) ?_
        exact v_widen (by show (_ : Nat) ≤ 60 * nP μ + 14 * t + 2 * (q + 1); omega) (by show (_ : Nat) ≤ 360 * nP μ + 84 * t + 12 * (q + 1); omega) K2
      · refine v_iload X (xdec_at tL_all_2 2 rfl) rfl ?_
        refine v_bipush (v := 7) X (xdec_at tL_all_2 3 rfl) (by decide) ?_
        refine v_icmp_ge (tgt := 168) X (xdec_at tL_all_2 4 rfl) (by decide) (fun _ => ?_) (fun h9 => absurd (nI_le (a := 7) (b := 7) (Nat.le_refl _) (by decide)) h9)
        refine v_iinc (v := (nI (t + 1))) (lv' := [some (.ref (lay (0, 0))), some (.ref (lay (300, 0))), some (.long (a3 μ t 7 (a4 μ t))), none, some (.int (nI (t + 1))), some (.int (nI 7))]) X (xdec_at tL_all_2 16 rfl) rfl (nI_1 _) (by decide) rfl ?_
        refine v_goto (tgt := 129) X (xdec_at tL_all_2 17 rfl) (by decide) ?_
        exact v_le (lv' := [some (.ref (lay (0, 0))), some (.ref (lay (300, 0))), some (.long (a4 μ (t + 1))), none, some (.int (nI (t + 1))), none]) ⟨rfl, rfl, rfl, rfl, trivial⟩ (v_widen (by show (_ : Nat) ≤ 60 * nP μ + 14 * (t + 1); omega) (by show (_ : Nat) ≤ 360 * nP μ + 84 * (t + 1); omega) K)
    · refine v_iload X (xdec_at tL_all_1 35 rfl) rfl ?_
      refine v_aload_n X (xdec_at tL_all_1 36 rfl) rfl rfl ?_
      refine v_iconst (v := 2) X (xdec_at tL_all_1 37 rfl) (by decide) ?_
      refine x_iald (v := nI (nT μ)) X (300, 0) (show cX Z lay μ tb r (300, 0) = some (.inl (Z.2 0, 3, .inl f)) from hd) (vp_in_nI (n := 2) (N := 3) (by decide) (by decide)) rfl hf.2.2 (xdec_at tL_all_1 38 rfl) ?_
      refine v_icmp_ge (tgt := 174) X (xdec_at tL_all_1 39 rfl) (by decide) (fun _ => ?_) (fun h9 => absurd (nI_le (Nat.le_refl _) (by omega)) h9)
      refine v_lload_n X (xdec_at tL_all_2 18 rfl) rfl rfl ?_
      refine v_ldc2 (v := 31) X (xw_at tW_4 13 rfl) (xdec_at tL_all_2 19 rfl) ?_
      refine v_lmul X (xdec_at tL_all_2 20 rfl) ?_
      refine v_aload_n X (xdec_at tL_all_2 21 rfl) rfl rfl ?_
      refine v_iconst (v := 0) X (xdec_at tL_all_2 22 rfl) (by decide) ?_
      refine v_wN X hE myX4_gain [.int 0] [.long ((a4 μ (nT μ)) * 31)] (qy_gain hl0 hI hK (by decide)) (xw_at tW_6 2 rfl) (0, 0) cX_X rfl rfl rfl rfl (by rfl) (Nat.le_of_ble_eq_true rfl) (xdec_at tL_all_2 23 rfl) ⟨(Nat.le_of_ble_eq_true rfl), (Nat.le_of_ble_eq_true rfl)⟩ ⟨by show (_ : Nat) ≤ 1100; omega, by show (_ : Nat) ≤ 6600; omega⟩ ?_
      rintro v9 lay9 C9 ⟨rfl, rfl, rfl⟩
      refine v_i2l X (xdec_at tL_all_2 24 rfl) rfl ?_
      refine v_ladd X (xdec_at tL_all_2 25 rfl) ?_
      refine v_ldc2 (v := 31) X (xw_at tW_4 13 rfl) (xdec_at tL_all_2 26 rfl) ?_
      refine v_lmul X (xdec_at tL_all_2 27 rfl) ?_
      refine v_aload_n X (xdec_at tL_all_2 28 rfl) rfl rfl ?_
      refine v_iconst (v := 1) X (xdec_at tL_all_2 29 rfl) (by decide) ?_
      refine v_wN X hE myX4_gain [.int 1] [.long ((((a4 μ (nT μ)) * 31) + ((M_gain μ 0).1).toInt64) * 31)] (qy_gain hl0 hI hK (by decide)) (xw_at tW_6 2 rfl) (0, 0) cX_X rfl rfl rfl rfl (by rfl) (Nat.le_of_ble_eq_true rfl) (xdec_at tL_all_2 30 rfl) ⟨(Nat.le_of_ble_eq_true rfl), (Nat.le_of_ble_eq_true rfl)⟩ ⟨by show (_ : Nat) ≤ 1100; omega, by show (_ : Nat) ≤ 6600; omega⟩ ?_
      rintro v9 lay9 C9 ⟨rfl, rfl, rfl⟩
      refine v_i2l X (xdec_at tL_all_2 31 rfl) rfl ?_
      refine v_ladd X (xdec_at tL_all_2 32 rfl) ?_
      exact v_xr (v_lret X hr (xdec_at tL_all_2 33 rfl) (by show (_ : Nat) ≤ 1100; omega) (by show (_ : Nat) ≤ 6600; omega) ⟨rfl, rfl, rfl⟩)
set_option maxRecDepth 100000 in
set_option maxHeartbeats 4000000 in
theorem c_sums2 {l : Launch} (hl0 : l.stackTraces = false) {Z : xZ} {B0 : Nat} {lay : xK → Nat} {μ : Mu} {tb : Tb} {r : xK → Option xE} {f : Nat → Int32} (hI : RI μ) (hd : r (300, 0) = some (aI Z 3 f)) (hf : dF f μ) : YL l yL_sums cL_sums 6 (some FieldType.long) 22 800 8 48 Z B0 [.ref (lay (0, 0)), .ref (lay (300, 0)), .int 2] lay (cX Z lay μ tb r) (fun v lay' C' => lay = lay' ∧ v = some (.long (sm (μ.2 7) (nP μ))) ∧ C' = cX Z lay μ tb r) := by
  have hP8 := nP8 hI
  refine YL_of myL_sums.2 RL rfl [some (.ref (lay (0, 0))), some (.ref (lay (300, 0))), some (.int 2), none, none, none] rfl (Nat.le_of_ble_eq_true rfl) ?_
  intro P1 P2 P3 P4 P5 P6 P7 P8 X hr hE
  refine v_lconst (v := 0) X (xdec_at tL_sums_0 0 rfl) (by decide) ?_
  refine v_lstore_n (lv' := [some (.ref (lay (0, 0))), some (.ref (lay (300, 0))), some (.int 2), some (.long 0), none, none]) X (xdec_at tL_sums_0 1 rfl) rfl (by decide) rfl ?_
  refine v_iconst (v := 0) X (xdec_at tL_sums_0 2 rfl) (by decide) ?_
  refine v_istore (lv' := [some (.ref (lay (0, 0))), some (.ref (lay (300, 0))), some (.int 2), some (.long 0), none, some (.int 0)]) X (xdec_at tL_sums_0 3 rfl) (by decide) rfl ?_
  refine v_forC (nP μ) (fun _ => cX Z lay μ tb r) (fun i => [some (.ref (lay (0, 0))), some (.ref (lay (300, 0))), some (.int 2), some (.long (sm (μ.2 7) i)), none, some (.int (nI i))]) (fun i => i) (fun i => 6 * i) 5 [] (fun i hi K => ?_) ?_
  · refine v_iload X (xdec_at tL_sums_0 4 rfl) rfl ?_
    refine v_aload_n X (xdec_at tL_sums_0 5 rfl) rfl rfl ?_
    refine v_iconst (v := 0) X (xdec_at tL_sums_0 6 rfl) (by decide) ?_
    refine x_iald (v := nI (nP μ)) X (300, 0) (show cX Z lay μ tb r (300, 0) = some (.inl (Z.2 0, 3, .inl f)) from hd) (vp_in_nI (n := 0) (N := 3) (by decide) (by decide)) rfl hf.1 (xdec_at tL_sums_0 7 rfl) ?_
    refine v_icmp_ge (tgt := 42) X (xdec_at tL_sums_0 8 rfl) (by decide) (fun h9 => absurd h9 (nI_ge hi (by omega))) (fun _ => ?_)
    refine v_lload_n X (xdec_at tL_sums_0 9 rfl) rfl rfl ?_
    refine v_iload_n X (xdec_at tL_sums_0 10 rfl) rfl rfl ?_
    refine v_iconst (v := 2) X (xdec_at tL_sums_0 11 rfl) (by decide) ?_
    refine v_icmp_ne (tgt := 28) X (xdec_at tL_sums_0 12 rfl) (by decide) (fun h9 => absurd h9 (by decide)) (fun _ => ?_)
    refine v_aload_n X (xdec_at tL_sums_0 13 rfl) rfl rfl ?_
    refine v_iload X (xdec_at tL_sums_0 14 rfl) rfl ?_
    refine v_wN X hE myX4_account [.int (nI i)] [.long (sm (μ.2 7) i)] (qy_account hl0 hI hi) (xw_at tW_2 35 rfl) (0, 0) cX_X rfl rfl rfl rfl (by rfl) (Nat.le_of_ble_eq_true rfl) (xdec_at tL_sums_0 15 rfl) ⟨(Nat.le_of_ble_eq_true rfl), (Nat.le_of_ble_eq_true rfl)⟩ ⟨by show (_ : Nat) ≤ 8; omega, by show (_ : Nat) ≤ 48; omega⟩ ?_
    rintro v9 lay9 C9 ⟨rfl, rfl, rfl⟩
    refine v_goto (tgt := 34) X (xdec_at tL_sums_0 16 rfl) (by decide) ?_
    refine v_ladd X (xdec_at tL_sums_0 20 rfl) ?_
    refine v_lstore_n (lv' := [some (.ref (lay (0, 0))), some (.ref (lay (300, 0))), some (.int 2), some (.long ((sm (μ.2 7) i) + (μ.2 7 i))), none, some (.int (nI i))]) X (xdec_at tL_sums_0 21 rfl) rfl (by decide) rfl ?_
    refine v_iinc (v := (nI (i + 1))) (lv' := [some (.ref (lay (0, 0))), some (.ref (lay (300, 0))), some (.int 2), some (.long ((sm (μ.2 7) i) + (μ.2 7 i))), none, some (.int (nI (i + 1)))]) X (xdec_at tL_sums_0 22 rfl) rfl (nI_1 _) (by decide) rfl ?_
    refine v_goto (tgt := 5) X (xdec_at tL_sums_0 23 rfl) (by decide) ?_
    exact v_widen (by show (_ : Nat) ≤ i + 1; omega) (by show (_ : Nat) ≤ 6 * (i + 1); omega) K
  · refine v_iload X (xdec_at tL_sums_0 4 rfl) rfl ?_
    refine v_aload_n X (xdec_at tL_sums_0 5 rfl) rfl rfl ?_
    refine v_iconst (v := 0) X (xdec_at tL_sums_0 6 rfl) (by decide) ?_
    refine x_iald (v := nI (nP μ)) X (300, 0) (show cX Z lay μ tb r (300, 0) = some (.inl (Z.2 0, 3, .inl f)) from hd) (vp_in_nI (n := 0) (N := 3) (by decide) (by decide)) rfl hf.1 (xdec_at tL_sums_0 7 rfl) ?_
    refine v_icmp_ge (tgt := 42) X (xdec_at tL_sums_0 8 rfl) (by decide) (fun _ => ?_) (fun h9 => absurd (nI_le (Nat.le_refl _) (by omega)) h9)
    refine v_lload_n X (xdec_at tL_sums_0 24 rfl) rfl rfl ?_
    exact v_xr (v_lret X hr (xdec_at tL_sums_0 25 rfl) (by show (_ : Nat) ≤ 8; omega) (by show (_ : Nat) ≤ 48; omega) ⟨rfl, rfl, rfl⟩)
set_option maxRecDepth 100000 in
set_option maxHeartbeats 4000000 in
theorem c_sums3 {l : Launch} (hl0 : l.stackTraces = false) {Z : xZ} {B0 : Nat} {lay : xK → Nat} {μ : Mu} {tb : Tb} {r : xK → Option xE} {f : Nat → Int32} (hI : RI μ) (hd : r (300, 0) = some (aI Z 3 f)) (hf : dF f μ) : YL l yL_sums cL_sums 6 (some FieldType.long) 22 800 8 48 Z B0 [.ref (lay (0, 0)), .ref (lay (300, 0)), .int 3] lay (cX Z lay μ tb r) (fun v lay' C' => lay = lay' ∧ v = some (.long (sm (μ.2 8) (nP μ))) ∧ C' = cX Z lay μ tb r) := by
  have hP8 := nP8 hI
  refine YL_of myL_sums.2 RL rfl [some (.ref (lay (0, 0))), some (.ref (lay (300, 0))), some (.int 3), none, none, none] rfl (Nat.le_of_ble_eq_true rfl) ?_
  intro P1 P2 P3 P4 P5 P6 P7 P8 X hr hE
  refine v_lconst (v := 0) X (xdec_at tL_sums_0 0 rfl) (by decide) ?_
  refine v_lstore_n (lv' := [some (.ref (lay (0, 0))), some (.ref (lay (300, 0))), some (.int 3), some (.long 0), none, none]) X (xdec_at tL_sums_0 1 rfl) rfl (by decide) rfl ?_
  refine v_iconst (v := 0) X (xdec_at tL_sums_0 2 rfl) (by decide) ?_
  refine v_istore (lv' := [some (.ref (lay (0, 0))), some (.ref (lay (300, 0))), some (.int 3), some (.long 0), none, some (.int 0)]) X (xdec_at tL_sums_0 3 rfl) (by decide) rfl ?_
  refine v_forC (nP μ) (fun _ => cX Z lay μ tb r) (fun i => [some (.ref (lay (0, 0))), some (.ref (lay (300, 0))), some (.int 3), some (.long (sm (μ.2 8) i)), none, some (.int (nI i))]) (fun i => i) (fun i => 6 * i) 5 [] (fun i hi K => ?_) ?_
  · refine v_iload X (xdec_at tL_sums_0 4 rfl) rfl ?_
    refine v_aload_n X (xdec_at tL_sums_0 5 rfl) rfl rfl ?_
    refine v_iconst (v := 0) X (xdec_at tL_sums_0 6 rfl) (by decide) ?_
    refine x_iald (v := nI (nP μ)) X (300, 0) (show cX Z lay μ tb r (300, 0) = some (.inl (Z.2 0, 3, .inl f)) from hd) (vp_in_nI (n := 0) (N := 3) (by decide) (by decide)) rfl hf.1 (xdec_at tL_sums_0 7 rfl) ?_
    refine v_icmp_ge (tgt := 42) X (xdec_at tL_sums_0 8 rfl) (by decide) (fun h9 => absurd h9 (nI_ge hi (by omega))) (fun _ => ?_)
    refine v_lload_n X (xdec_at tL_sums_0 9 rfl) rfl rfl ?_
    refine v_iload_n X (xdec_at tL_sums_0 10 rfl) rfl rfl ?_
    refine v_iconst (v := 2) X (xdec_at tL_sums_0 11 rfl) (by decide) ?_
    refine v_icmp_ne (tgt := 28) X (xdec_at tL_sums_0 12 rfl) (by decide) (fun _ => ?_) (fun h9 => absurd h9 (by decide))
    refine v_aload_n X (xdec_at tL_sums_0 17 rfl) rfl rfl ?_
    refine v_iload X (xdec_at tL_sums_0 18 rfl) rfl ?_
    refine v_wN X hE myX4_till [.int (nI i)] [.long (sm (μ.2 8) i)] (qy_till hl0 hI hi) (xw_at tW_4 9 rfl) (0, 0) cX_X rfl rfl rfl rfl (by rfl) (Nat.le_of_ble_eq_true rfl) (xdec_at tL_sums_0 19 rfl) ⟨(Nat.le_of_ble_eq_true rfl), (Nat.le_of_ble_eq_true rfl)⟩ ⟨by show (_ : Nat) ≤ 8; omega, by show (_ : Nat) ≤ 48; omega⟩ ?_
    rintro v9 lay9 C9 ⟨rfl, rfl, rfl⟩
    refine v_ladd X (xdec_at tL_sums_0 20 rfl) ?_
    refine v_lstore_n (lv' := [some (.ref (lay (0, 0))), some (.ref (lay (300, 0))), some (.int 3), some (.long ((sm (μ.2 8) i) + (μ.2 8 i))), none, some (.int (nI i))]) X (xdec_at tL_sums_0 21 rfl) rfl (by decide) rfl ?_
    refine v_iinc (v := (nI (i + 1))) (lv' := [some (.ref (lay (0, 0))), some (.ref (lay (300, 0))), some (.int 3), some (.long ((sm (μ.2 8) i) + (μ.2 8 i))), none, some (.int (nI (i + 1)))]) X (xdec_at tL_sums_0 22 rfl) rfl (nI_1 _) (by decide) rfl ?_
    refine v_goto (tgt := 5) X (xdec_at tL_sums_0 23 rfl) (by decide) ?_
    exact v_widen (by show (_ : Nat) ≤ i + 1; omega) (by show (_ : Nat) ≤ 6 * (i + 1); omega) K
  · refine v_iload X (xdec_at tL_sums_0 4 rfl) rfl ?_
    refine v_aload_n X (xdec_at tL_sums_0 5 rfl) rfl rfl ?_
    refine v_iconst (v := 0) X (xdec_at tL_sums_0 6 rfl) (by decide) ?_
    refine x_iald (v := nI (nP μ)) X (300, 0) (show cX Z lay μ tb r (300, 0) = some (.inl (Z.2 0, 3, .inl f)) from hd) (vp_in_nI (n := 0) (N := 3) (by decide) (by decide)) rfl hf.1 (xdec_at tL_sums_0 7 rfl) ?_
    refine v_icmp_ge (tgt := 42) X (xdec_at tL_sums_0 8 rfl) (by decide) (fun _ => ?_) (fun h9 => absurd (nI_le (Nat.le_refl _) (by omega)) h9)
    refine v_lload_n X (xdec_at tL_sums_0 24 rfl) rfl rfl ?_
    exact v_xr (v_lret X hr (xdec_at tL_sums_0 25 rfl) (by show (_ : Nat) ≤ 8; omega) (by show (_ : Nat) ≤ 48; omega) ⟨rfl, rfl, rfl⟩)
/-- cell: any int; the script is looked into -/
def yPC (Z : xZ) (B0 b L : Nat) (xs : Nat → Int32) (av : List Value) (lay : xK → Nat) (C : xK → Option xE) : Array Value → State → Prop := fun v U => yPW Z B0 av lay C v U ∧ va_X b L xs U U.heap
theorem yPC.blind {Z : xZ} {B0 b L : Nat} {xs : Nat → Int32} {av : List Value} {lay : xK → Nat} {C : xK → Option xE} : FrameBlind (yPC Z B0 b L xs av lay C) := fun a U g mk h => ⟨yPW.blind a U g mk h.1, h.2.moved (U := U.calling g mk a) (Vm.Alike.refl U.vm)⟩
set_option maxRecDepth 100000 in
set_option maxHeartbeats 4000000 in
theorem c_cell {l : Launch} {Z : xZ} {B0 b L : Nat} {xs : Nat → Int32} {lay : xK → Nat} {C : xK → Option xE} (hbl : b < B0) (hL : L ≤ 3584) {k : Nat} (hk : k < 2 ^ 30) : vx_Met l yL_cell (.code yL_cell cL_cell 3 (some FieldType.int) :: BG) { frames := 0, cells := 0, slots := 0, locals := 0 } (yPC Z B0 b L xs [.ref b, .int (nI k)] lay C) (yQ Z B0 (fun v lay' C' => lay = lay' ∧ C = C' ∧ ∃ x, v = some (.int x))) (fun _ _ _ => False) 0 0 (fun q => B0 ≤ q) := by
  refine vx_ofW (cc := cL_cell) (maxL := 3) (ret := some FieldType.int) myL_cell.2.2.2.2 rfl ?_
  intro p e s m args below meth c s₁ B hml ht hv
  obtain ⟨⟨⟨⟨rfl, hP, hKn, hB⟩, hE⟩, hN⟩, hX⟩ := hv
  have X : Cx p m meth c cL_cell 3 s ([.ref b, .int (nI k)] : List Value).toArray RL Z B0 := ⟨⟨B.exec, B.bytes, hml, findClass_of_methodNamed B.named, fun w hw => atoms_spec (ws := Cond.code yL_cell cL_cell 3 (some FieldType.int) :: BG) B.pre w (List.mem_cons_of_mem _ hw)⟩, hKn, hB, B.notSynchronized⟩
  have hr := B.returns
  rw [lg_entry_eq]
  suffices hV : V p l e { frames := 0, cells := 0, slots := 0, locals := 0 } s m ([.ref b, .int (nI k)] : List Value).toArray below meth c (vx_MQ below (yQ Z B0 (fun v lay' C' => lay = lay' ∧ C = C' ∧ ∃ x, v = some (.int x))) (fun _ _ _ => False) ([.ref b, .int (nI k)] : List Value).toArray s 0 0 (fun q => B0 ≤ q)) Z B0 3 lay C 0 0 0 [some (.ref b), some (.int (nI k)), none] [] from hV _ s.heap [] (lv_entry [.ref b, .int (nI k)] (Nat.le_of_ble_eq_true rfl)) hP va_S.rf
  refine v_iload_n X (xdec_at tL_cell_0 0 rfl) rfl rfl ?_
  refine v_aload_n X (xdec_at tL_cell_0 1 rfl) rfl rfl ?_
  refine v_slen X hX hbl (xdec_at tL_cell_0 2 rfl) ?_
  refine v_icmp_ge (tgt := 12) X (xdec_at tL_cell_0 3 rfl) (by decide) (fun c_3 => ?_) (fun c_3 => ?_)
  · refine v_ldc (v := 91237) X (xw_at tW_2 27 rfl) (xdec_at tL_cell_0 8 rfl) ?_
    refine v_iload_n X (xdec_at tL_cell_0 9 rfl) rfl rfl ?_
    refine v_sipush (v := 137) X (xdec_at tL_cell_0 10 rfl) (by decide) ?_
    refine v_iadd X (xdec_at tL_cell_0 11 rfl) ?_
    refine v_imul X (xdec_at tL_cell_0 12 rfl) ?_
    refine v_istore_n (lv' := [some (.ref b), some (.int (nI k)), some (.int (91237 * ((nI k) + 137)))]) X (xdec_at tL_cell_0 13 rfl) rfl (by decide) rfl ?_
    refine v_iload_n X (xdec_at tL_cell_0 14 rfl) rfl rfl ?_
    refine v_iload_n X (xdec_at tL_cell_0 15 rfl) rfl rfl ?_
    refine v_bipush (v := 16) X (xdec_at tL_cell_0 16 rfl) (by decide) ?_
    refine v_iushr X (xdec_at tL_cell_0 17 rfl) rfl ?_
    refine v_ixor X (xdec_at tL_cell_0 18 rfl) ?_
    refine v_ldc (v := 1015120747) X (xw_at tW_2 28 rfl) (xdec_at tL_cell_0 19 rfl) ?_
    refine v_imul X (xdec_at tL_cell_0 20 rfl) ?_
    refine v_sipush (v := 413) X (xdec_at tL_cell_0 21 rfl) (by decide) ?_
    refine v_iload_n X (xdec_at tL_cell_0 22 rfl) rfl rfl ?_
    refine v_imul X (xdec_at tL_cell_0 23 rfl) ?_
    refine v_iadd X (xdec_at tL_cell_0 24 rfl) ?_
    exact v_xr (v_iret X hr (xdec_at tL_cell_0 25 rfl) (Nat.le_of_ble_eq_true rfl) (Nat.le_of_ble_eq_true rfl) ⟨rfl, rfl, _, rfl⟩)
  · refine v_aload_n X (xdec_at tL_cell_0 4 rfl) rfl rfl ?_
    refine v_iload_n X (xdec_at tL_cell_0 5 rfl) rfl rfl ?_
    refine v_sld X hX hbl rfl (Nat.not_le.mp fun h => c_3 (nI_le h (by omega))) hL (xdec_at tL_cell_0 6 rfl) ?_
    refine v_goto (tgt := 20) X (xdec_at tL_cell_0 7 rfl) (by decide) ?_
    refine v_istore_n (lv' := [some (.ref b), some (.int (nI k)), some (.int (xs k))]) X (xdec_at tL_cell_0 13 rfl) rfl (by decide) rfl ?_
    refine v_iload_n X (xdec_at tL_cell_0 14 rfl) rfl rfl ?_
    refine v_iload_n X (xdec_at tL_cell_0 15 rfl) rfl rfl ?_
    refine v_bipush (v := 16) X (xdec_at tL_cell_0 16 rfl) (by decide) ?_
    refine v_iushr X (xdec_at tL_cell_0 17 rfl) rfl ?_
    refine v_ixor X (xdec_at tL_cell_0 18 rfl) ?_
    refine v_ldc (v := 1015120747) X (xw_at tW_2 28 rfl) (xdec_at tL_cell_0 19 rfl) ?_
    refine v_imul X (xdec_at tL_cell_0 20 rfl) ?_
    refine v_sipush (v := 413) X (xdec_at tL_cell_0 21 rfl) (by decide) ?_
    refine v_iload_n X (xdec_at tL_cell_0 22 rfl) rfl rfl ?_
    refine v_imul X (xdec_at tL_cell_0 23 rfl) ?_
    refine v_iadd X (xdec_at tL_cell_0 24 rfl) ?_
    exact v_xr (v_iret X hr (xdec_at tL_cell_0 25 rfl) (Nat.le_of_ble_eq_true rfl) (Nat.le_of_ble_eq_true rfl) ⟨rfl, rfl, _, rfl⟩)
