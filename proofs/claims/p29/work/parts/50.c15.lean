/-! class: mail -/
theorem mail_lk {μ : Mu} (hI : RI μ) (hK : KI μ) {a k g pd rg : Int32} (ha : isP μ a) (hk : isK k) (hg : arG k g) (hp : inR pd 0 100000) : K_max 0 (M_rateOf μ k a g rg - pd) = if M_rateOf μ k a g rg ≤ pd then 0 else M_rateOf μ k a g rg - pd := by
  obtain ⟨m, m1, m2, rfl⟩ := arG_of hg
  obtain ⟨q, q1, rfl⟩ := inR_k (a := 100000) (by decide) hp
  obtain ⟨h1, h2⟩ := hK.2.2.1.2 (ix (3 * a + k))
  obtain ⟨f, f1, f2⟩ := inR_k (a := 10000) (by decide) h1
  obtain ⟨e, e1, e2⟩ := inR_k (a := 10000) (by decide) h2
  have hd : (nI m - 1) / 20 = nI ((m - 1) / 20) := by rw [n20, n1, pk_sub m1, pk_div (by omega) (by decide) (by decide)]
  have hb : e * ((m - 1) / 20) ≤ 10000 * 99 := Nat.mul_le_mul e1 (by omega)
  obtain ⟨R, hR, hRe⟩ : ∃ R : Nat, R ≤ 1000050 ∧ M_rateOf μ k a (nI m) rg = nI R := by
    unfold M_rateOf
    rw [f2, e2, hd, pk_mul, nI_add]
    by_cases c : rg = 0
    · rw [if_pos c]; exact ⟨f + e * ((m - 1) / 20), by omega, Int32.add_zero _⟩
    · rw [if_neg c, show (50 : Int32) = nI 50 by decide, nI_add]; exact ⟨_, by omega, rfl⟩
  rw [hRe]
  unfold K_max
  have ht := pk_sub_toInt (a := R) (b := q) (by omega) (by omega)
  have h0 : (0 : Int32).toInt = 0 := rfl
  by_cases c : R ≤ q
  · rw [if_pos ((nI_leI (by omega) (by omega)).mpr c), if_neg]
    rw [Int32.lt_iff_toInt_lt, ht, h0]
    omega
  · rw [if_neg (fun z => c ((nI_leI (by omega) (by omega)).mp z)), if_pos]
    rw [Int32.lt_iff_toInt_lt, ht, h0]
    omega
def KT_mail (μ : Mu) (tb : Tb) (a rg : Int32) : Tb := (tb.1, (fun x y => if x = nT μ then (if rg = 0 then (fun _ => 0) else upd (fun _ => 0) 0 (nI (ix a))) y else tb.2.1 x y), fun x => if x = nT μ then (if rg = 0 then 0 else 8) else tb.2.2 x)
theorem row_if {Z : xZ} {rg i : Int32} : (if rg = 0 then aI Z 0 (fun _ => 0) else aI Z 8 (upd (fun _ => 0) 0 i)) = aI Z (if rg = 0 then 0 else 8) (if rg = 0 then (fun _ => 0) else upd (fun _ => 0) 0 i) := by
  split <;> rfl
/-- what a mailing leaves, but for what the reference alone has -/
def MC (A : Nat → Nat → Int32) (T : Nat) (k a b g rg lk c : Int32) : Nat → Nat → Int32 := (up2 (up2 (up2 (up2 (up2 (up2 (up2 (up2 (up2 (up2 (up2 A 17 T k) 18 T a) 19 T b) 20 T g) 21 T rg) 22 T lk) 23 T 0) 24 T a) 25 T (-1)) 35 T c) 16 0 (A 16 0 + 1))
theorem MC_mo (A : Nat → Nat → Int32) (T : Nat) (k a b g rg lk c : Int32) {j : Nat} (hj : j ≠ 16) {x : Nat} (hx : x ≠ T) : MC A T k a b g rg lk c j x = A j x := by
  unfold MC
  simp only [up2_at, hj, hx, and_false, false_and, if_false]
theorem MC_mk (A : Nat → Nat → Int32) (T : Nat) (k a b g rg lk c : Int32) {j : Nat} (hj : j ≠ 16) (h2 : j < 17 ∨ 25 < j) (h3 : j ≠ 35) : MC A T k a b g rg lk c j = A j := by
  unfold MC
  rw [up2_ne _ _ _ _ _ hj, up2_ne _ _ _ _ _ h3, up2_ne _ _ _ _ _ (by omega), up2_ne _ _ _ _ _ (by omega), up2_ne _ _ _ _ _ (by omega), up2_ne _ _ _ _ _ (by omega), up2_ne _ _ _ _ _ (by omega), up2_ne _ _ _ _ _ (by omega), up2_ne _ _ _ _ _ (by omega), up2_ne _ _ _ _ _ (by omega), up2_ne _ _ _ _ _ (by omega)]
theorem MC_17 (A : Nat → Nat → Int32) (T : Nat) (k a b g rg lk c : Int32) : MC A T k a b g rg lk c 17 T = k := by unfold MC; simp [up2_at]
theorem MC_18 (A : Nat → Nat → Int32) (T : Nat) (k a b g rg lk c : Int32) : MC A T k a b g rg lk c 18 T = a := by unfold MC; simp [up2_at]
theorem MC_19 (A : Nat → Nat → Int32) (T : Nat) (k a b g rg lk c : Int32) : MC A T k a b g rg lk c 19 T = b := by unfold MC; simp [up2_at]
theorem MC_20 (A : Nat → Nat → Int32) (T : Nat) (k a b g rg lk c : Int32) : MC A T k a b g rg lk c 20 T = g := by unfold MC; simp [up2_at]
theorem MC_21 (A : Nat → Nat → Int32) (T : Nat) (k a b g rg lk c : Int32) : MC A T k a b g rg lk c 21 T = rg := by unfold MC; simp [up2_at]
theorem MC_22 (A : Nat → Nat → Int32) (T : Nat) (k a b g rg lk c : Int32) : MC A T k a b g rg lk c 22 T = lk := by unfold MC; simp [up2_at]
theorem MC_23 (A : Nat → Nat → Int32) (T : Nat) (k a b g rg lk c : Int32) : MC A T k a b g rg lk c 23 T = 0 := by unfold MC; simp [up2_at]
theorem MC_24 (A : Nat → Nat → Int32) (T : Nat) (k a b g rg lk c : Int32) : MC A T k a b g rg lk c 24 T = a := by unfold MC; simp [up2_at]
theorem MC_25 (A : Nat → Nat → Int32) (T : Nat) (k a b g rg lk c : Int32) : MC A T k a b g rg lk c 25 T = -1 := by unfold MC; simp [up2_at]
theorem MC_35 (A : Nat → Nat → Int32) (T : Nat) (k a b g rg lk c : Int32) : MC A T k a b g rg lk c 35 T = c := by unfold MC; simp [up2_at]
theorem MC_16 (A : Nat → Nat → Int32) (T : Nat) (k a b g rg lk c : Int32) : MC A T k a b g rg lk c 16 0 = A 16 0 + 1 := by unfold MC; simp [up2_at]
theorem mailS_com {μ : Mu} (hK : KI μ) {T : Nat} (hT : nT μ ≤ T) (eT : ix (μ.1 16 0) = T) (hS : ¬ (80000 : Int32) ≤ μ.1 30 0) (k a b g pd rg : Int32) : (∀ j, com j = true → (M_mailS (th μ 0) k a b g pd rg).1 j = MC μ.1 T k a b g rg (if M_rateOf μ k a g rg ≤ pd then 0 else M_rateOf μ k a g rg - pd) (if rg = 0 then 0 else 1) j) ∧ (M_mailS (th μ 0) k a b g pd rg).2 = up2 μ.2 8 (ix a) (μ.2 8 (ix a) + pd.toInt64) := by
  have hz := hK.2.2.2.2.2.2 T hT
  have er : M_rateOf (th μ 0) k a g rg = M_rateOf μ k a g rg := rfl
  obtain ⟨lk, hlk⟩ : ∃ lk, lk = if M_rateOf μ k a g rg ≤ pd then 0 else M_rateOf μ k a g rg - pd := ⟨_, rfl⟩
  have e1 : M_mailS (th μ 0) k a b g pd rg = (up2 (M_signs ((up2 (up2 (up2 (up2 (up2 (up2 (up2 (up2 (up2 (th μ 0).1 17 T k) 18 T a) 19 T b) 20 T g) 21 T rg) 22 T lk) 23 T 0) 24 T a) 25 T (-1)), up2 μ.2 8 (ix a) (μ.2 8 (ix a) + pd.toInt64)) T a).1 16 0 ((M_signs ((up2 (up2 (up2 (up2 (up2 (up2 (up2 (up2 (up2 (th μ 0).1 17 T k) 18 T a) 19 T b) 20 T g) 21 T rg) 22 T lk) 23 T 0) 24 T a) 25 T (-1)), up2 μ.2 8 (ix a) (μ.2 8 (ix a) + pd.toInt64)) T a).1 16 0 + 1), (M_signs ((up2 (up2 (up2 (up2 (up2 (up2 (up2 (up2 (up2 (th μ 0).1 17 T k) 18 T a) 19 T b) 20 T g) 21 T rg) 22 T lk) 23 T 0) 24 T a) 25 T (-1)), up2 μ.2 8 (ix a) (μ.2 8 (ix a) + pd.toInt64)) T a).2) := by
    unfold M_mailS
    dsimp only
    rw [er, ← hlk, show ix ((th μ 0).1 16 0) = T from eT]
  obtain ⟨B, hB⟩ : ∃ B, B = (up2 (up2 (up2 (up2 (up2 (up2 (up2 (up2 (up2 (th μ 0).1 17 T k) 18 T a) 19 T b) 20 T g) 21 T rg) 22 T lk) 23 T 0) 24 T a) 25 T (-1)) := ⟨_, rfl⟩
  rw [← hB] at e1
  have b16 : B 16 = μ.1 16 := by
    rw [hB, up2_ne _ _ _ _ _ (by decide), up2_ne _ _ _ _ _ (by decide), up2_ne _ _ _ _ _ (by decide), up2_ne _ _ _ _ _ (by decide), up2_ne _ _ _ _ _ (by decide), up2_ne _ _ _ _ _ (by decide), up2_ne _ _ _ _ _ (by decide), up2_ne _ _ _ _ _ (by decide), up2_ne _ _ _ _ _ (by decide)]
    exact up2_ne μ.1 38 0 0 16 (by decide)
  have b30 : B 30 = μ.1 30 := by
    rw [hB, up2_ne _ _ _ _ _ (by decide), up2_ne _ _ _ _ _ (by decide), up2_ne _ _ _ _ _ (by decide), up2_ne _ _ _ _ _ (by decide), up2_ne _ _ _ _ _ (by decide), up2_ne _ _ _ _ _ (by decide), up2_ne _ _ _ _ _ (by decide), up2_ne _ _ _ _ _ (by decide), up2_ne _ _ _ _ _ (by decide)]
    exact up2_ne μ.1 38 0 0 30 (by decide)
  have b35 : B 35 = μ.1 35 := by
    rw [hB, up2_ne _ _ _ _ _ (by decide), up2_ne _ _ _ _ _ (by decide), up2_ne _ _ _ _ _ (by decide), up2_ne _ _ _ _ _ (by decide), up2_ne _ _ _ _ _ (by decide), up2_ne _ _ _ _ _ (by decide), up2_ne _ _ _ _ _ (by decide), up2_ne _ _ _ _ _ (by decide), up2_ne _ _ _ _ _ (by decide)]
    exact up2_ne μ.1 38 0 0 35 (by decide)
  have b21 : B 21 T = rg := by rw [hB]; simp [up2_at]
  have hc := signs_com (μ := (B, up2 μ.2 8 (ix a) (μ.2 8 (ix a) + pd.toInt64))) (t := T) (v := a) (by show ¬ (80000 : Int32) ≤ B 30 0; rw [b30]; exact hS)
  have s16 : (M_signs (B, up2 μ.2 8 (ix a) (μ.2 8 (ix a) + pd.toInt64)) T a).1 16 = μ.1 16 := by rw [sg_ne _ _ _ (by decide)]; exact b16
  rw [e1, ← hlk]
  refine ⟨fun j hj => ?_, hc.2.trans (by unfold KM_sign; split <;> rfl)⟩
  dsimp only
  rw [s16]
  unfold MC
  have hBc : ∀ j, com j = true → (up2 (up2 (up2 (up2 (up2 (up2 (up2 (up2 (up2 μ.1 17 T k) 18 T a) 19 T b) 20 T g) 21 T rg) 22 T lk) 23 T 0) 24 T a) 25 T (-1)) j = B j := by
    intro j hj
    rw [hB]
    exact (up2_com (up2_com (up2_com (up2_com (up2_com (up2_com (up2_com (up2_com (up2_com (fun j hj => (th_com (μ := μ) (k := 0) j hj).symm)))))))))) j hj
  refine up2_com (fun j hj => ?_) j hj
  rw [hc.1 j hj]
  unfold KM_sign
  show (if B 21 T = 0 then ((B, up2 μ.2 8 (ix a) (μ.2 8 (ix a) + pd.toInt64)) : Mu) else (up2 B 35 T (B 35 T + 1), _)).1 j = _
  rw [b21]
  have e35 : B 35 T = 0 := by rw [b35]; exact hz.2.2.2.2
  by_cases c : rg = 0
  · rw [if_pos c, if_pos c]
    have := up2_com (j := 35) (i := T) (v := 0) hBc j hj
    rw [this]
    show B j = up2 B 35 T 0 j
    rw [← e35, up2_id]
  · rw [if_neg c, if_neg c]
    rw [up2_com (j := 35) (i := T) (v := 1) hBc j hj, e35]
    rfl
theorem lyC_J {Z : xZ} {lay lay' : xK → Nat} {μ : Mu} {J : Nat → Nat → Int64} {tb : Tb} {r : xK → Option xE} (h : lyC Z lay lay' (μ.1, J) tb r) : lyC Z lay lay' μ tb r := by
  rintro ⟨a, b⟩ hk
  refine h (a, b) (fun z => hk ?_)
  by_cases h10 : a = 10
  · subst h10
    rw [cXk_10] at z ⊢
    by_cases hb : b < nP μ
    · rw [if_pos (show b < nP (μ.1, J) from hb)] at z; cases z
    · rw [if_neg hb]
  by_cases h14 : a = 14
  · subst h14
    rw [cXk_14] at z ⊢
    by_cases hb : b < nP μ
    · rw [if_pos (show b < nP (μ.1, J) from hb)] at z; cases z
    · rw [if_neg hb]
  rw [← z]
  unfold cX
  dsimp only
  simp only [h10, h14, if_false]
  rfl
theorem mail_40 {μ : Mu} (hI : RI μ) (h : ¬ μ.1 16 0 < 40) : μ.1 16 0 = 40 := by
  obtain ⟨T, hT, eT⟩ := hI.2.2.1
  rw [eT, show (40 : Int32) = nI 40 by decide] at h ⊢
  have : ¬ T < 40 := fun z => h ((nI_ltI (by omega) (by decide)).mpr z)
  rw [show T = 40 by omega]
theorem mailS_38 (μ : Mu) (k a b g pd rg : Int32) : (M_mailS (th μ 0) k a b g pd rg).1 38 0 = 0 := by
  unfold M_mailS
  dsimp only
  rw [up2_ne _ _ _ _ _ (by decide), sg_ne _ _ _ (by decide)]
  simp [up2_at]
set_option maxRecDepth 100000 in
set_option maxHeartbeats 4000000 in
theorem kyX4_mail (l : Launch) (hl0 : l.stackTraces = false) (Z : xZ) (B0 : Nat) (lay : xK → Nat) (μ : Mu) (tb : Tb) (r : xK → Option xE) (hI : RI μ) (hK : KI μ) (k a b g pd rg : Int32) (hrg : rg = 0 ∨ rg = 1) (hr2 : r (200, 0) = none) (hS : ¬ (80000 : Int32) ≤ μ.1 30 0) : YX l yX4_mail cX4_mail 10 (some FieldType.int) 8 170 7 53 Z B0 [.ref (lay (0, 0)), .int k, .int a, .int b, .int g, .int pd, .int rg] lay (cX Z lay μ tb r) (fun v lay' C' => lyC Z lay lay' μ tb r ∧ lyB lay lay' ∧ v = some (.int (M_mail μ k a b g pd rg).1) ∧ (M_mail μ k a b g pd rg).2.1 38 0 = 0 ∧ C' = cX Z lay' (M_mail μ k a b g pd rg).2 (KT_mail μ tb a rg) r) (fun E => (E = eO ∧ (M_mail μ k a b g pd rg).2.1 38 0 = 1) ∨ (E = eA ∧ (M_mail μ k a b g pd rg).2.1 38 0 = 2) ∨ (E = eS ∧ (M_mail μ k a b g pd rg).2.1 38 0 = 3)) := by
  obtain ⟨T, hT, eT⟩ := hI.2.2.1
  have hnT := nT_of hT eT
  refine YX_of myX4_mail.2.2 RX4 rfl [some (.ref (lay (0, 0))), some (.int k), some (.int a), some (.int b), some (.int g), some (.int pd), some (.int rg), none, none, none] rfl (Nat.le_of_ble_eq_true rfl) ?_
  intro P1 P2 P3 P4 P5 P6 P7 P8 X hr hE
  refine v_inj fun hinj => ?_
  refine v_aload_n X (xdec_at tX4_mail_0 0 rfl) rfl rfl ?_
  refine v_iload_n X (xdec_at tX4_mail_0 1 rfl) rfl rfl ?_
  refine v_xV X hE myX4_postOf [.int a] [] (kyX4_postOf l hl0 Z B0 lay μ tb r hI a) (xw_at tW_2 39 rfl) (0, 0) cX_X rfl rfl rfl rfl (by rfl) (Nat.le_of_ble_eq_true rfl) (xdec_at tX4_mail_0 2 rfl) ⟨(Nat.le_of_ble_eq_true rfl), (Nat.le_of_ble_eq_true rfl)⟩ ⟨(Nat.le_of_ble_eq_true rfl), (Nat.le_of_ble_eq_true rfl)⟩ ⟨(Nat.le_of_ble_eq_true rfl), (Nat.le_of_ble_eq_true rfl)⟩ (fun E h9 => Or.inl ⟨h9.1, by unfold M_mail; rw [if_neg (fun z => h9.2 z.1)]; simp [up2_at]⟩) ?_
  rintro v9 lay9 C9 ⟨rfl, rfl, rfl, q_2⟩
  refine v_astore (lv' := [some (.ref (lay (0, 0))), some (.int k), some (.int a), some (.int b), some (.int g), some (.int pd), some (.int rg), some (.ref (lay (10, ix a))), none, none]) X (xdec_at tX4_mail_0 3 rfl) (by decide) rfl ?_
  refine v_aload_n X (xdec_at tX4_mail_0 4 rfl) rfl rfl ?_
  refine v_iload_n X (xdec_at tX4_mail_0 5 rfl) rfl rfl ?_
  refine v_xV X hE myX4_postOf [.int b] [] (kyX4_postOf l hl0 Z B0 lay μ tb r hI b) (xw_at tW_2 39 rfl) (0, 0) cX_X rfl rfl rfl rfl (by rfl) (Nat.le_of_ble_eq_true rfl) (xdec_at tX4_mail_0 6 rfl) ⟨(Nat.le_of_ble_eq_true rfl), (Nat.le_of_ble_eq_true rfl)⟩ ⟨(Nat.le_of_ble_eq_true rfl), (Nat.le_of_ble_eq_true rfl)⟩ ⟨(Nat.le_of_ble_eq_true rfl), (Nat.le_of_ble_eq_true rfl)⟩ (fun E h9 => Or.inl ⟨h9.1, by unfold M_mail; rw [if_neg (fun z => h9.2 z.2)]; simp [up2_at]⟩) ?_
  rintro v9 lay9 C9 ⟨rfl, rfl, rfl, q_9⟩
  refine v_astore (lv' := [some (.ref (lay (0, 0))), some (.int k), some (.int a), some (.int b), some (.int g), some (.int pd), some (.int rg), some (.ref (lay (10, ix a))), some (.ref (lay (10, ix b))), none]) X (xdec_at tX4_mail_0 7 rfl) (by decide) rfl ?_
  refine v_iload_n X (xdec_at tX4_mail_0 8 rfl) rfl rfl ?_
  refine v_xS X hE myX4_demandKind [.int k] [] (kyX4_demandKind l hl0 Z B0 lay (cX Z lay μ tb r) k) (xw_at tW_5 2 rfl) rfl rfl (by rfl) (Nat.le_of_ble_eq_true rfl) (xdec_at tX4_mail_0 9 rfl) ⟨(Nat.le_of_ble_eq_true rfl), (Nat.le_of_ble_eq_true rfl)⟩ ⟨(Nat.le_of_ble_eq_true rfl), (Nat.le_of_ble_eq_true rfl)⟩ ⟨(Nat.le_of_ble_eq_true rfl), (Nat.le_of_ble_eq_true rfl)⟩ (fun E h9 => Or.inr (Or.inl ⟨h9.1, by unfold M_mail; rw [if_pos ⟨q_2, q_9⟩, if_pos (Or.inl h9.2)]; simp [up2_at]⟩)) ?_
  rintro v9 lay9 C9 ⟨rfl, rfl, rfl, q_15⟩
  refine v_iload_n X (xdec_at tX4_mail_0 10 rfl) rfl rfl ?_
  refine v_iload X (xdec_at tX4_mail_0 11 rfl) rfl ?_
  refine v_xS X hE myX4_demandGrams [.int k, .int g] [] (kyX4_demandGrams l hl0 Z B0 lay (cX Z lay μ tb r) k g) (xw_at tW_5 21 rfl) rfl rfl (by rfl) (Nat.le_of_ble_eq_true rfl) (xdec_at tX4_mail_0 12 rfl) ⟨(Nat.le_of_ble_eq_true rfl), (Nat.le_of_ble_eq_true rfl)⟩ ⟨(Nat.le_of_ble_eq_true rfl), (Nat.le_of_ble_eq_true rfl)⟩ ⟨(Nat.le_of_ble_eq_true rfl), (Nat.le_of_ble_eq_true rfl)⟩ (fun E h9 => Or.inr (Or.inl ⟨h9.1, by unfold M_mail; rw [if_pos ⟨q_2, q_9⟩, if_pos (Or.inr (Or.inl h9.2))]; simp [up2_at]⟩)) ?_
  rintro v9 lay9 C9 ⟨rfl, rfl, rfl, q_21⟩
  refine v_iload X (xdec_at tX4_mail_0 13 rfl) rfl ?_
  refine v_iconst (v := 0) X (xdec_at tX4_mail_0 14 rfl) (by decide) ?_
  refine v_ldc (v := 100000) X (xw_at tW_12 14 rfl) (xdec_at tX4_mail_0 15 rfl) ?_
  refine v_xS X hE myX4_demandWithin [.int pd, .int 0, .int 100000] [] (kyX4_demandWithin l hl0 Z B0 lay (cX Z lay μ tb r) pd 0 100000) (xw_at tW_5 5 rfl) rfl rfl (by rfl) (Nat.le_of_ble_eq_true rfl) (xdec_at tX4_mail_0 16 rfl) ⟨(Nat.le_of_ble_eq_true rfl), (Nat.le_of_ble_eq_true rfl)⟩ ⟨(Nat.le_of_ble_eq_true rfl), (Nat.le_of_ble_eq_true rfl)⟩ ⟨(Nat.le_of_ble_eq_true rfl), (Nat.le_of_ble_eq_true rfl)⟩ (fun E h9 => Or.inr (Or.inl ⟨h9.1, by unfold M_mail; rw [if_pos ⟨q_2, q_9⟩, if_pos (Or.inr (Or.inr (Or.inl h9.2)))]; simp [up2_at]⟩)) ?_
  rintro v9 lay9 C9 ⟨rfl, rfl, rfl, q_29⟩
  refine v_aload X (xdec_at tX4_mail_0 17 rfl) rfl ?_
  refine v_aload X (xdec_at tX4_mail_0 18 rfl) rfl ?_
  refine v_acmpR_ne (tgt := 49) X (xdec_at tX4_mail_0 19 rfl) (by decide) (fun c_36 => ?_) (fun c_36 => ?_)
  · have h36 : ¬ a = b := fun z => c_36 (by rw [z])
    refine v_aload_n X (xdec_at tX4_mail_0 25 rfl) rfl rfl ?_
    refine x_get (v := .int (μ.1 16 0)) X hinX4 (0, 0) cX_X rfl 4 (by decide) (xw_at tW_2 17 rfl) rfl rfl rfl (xdec_at tX4_mail_0 26 rfl) ?_
    refine v_bipush (v := 40) X (xdec_at tX4_mail_0 27 rfl) (by decide) ?_
    refine v_icmp_lt (tgt := 68) X (xdec_at tX4_mail_0 28 rfl) (by decide) (fun c_55 => ?_) (fun c_55 => ?_)
    · refine v_iconst (v := 0) X (xdec_at tX4_mail_0 34 rfl) (by decide) ?_
      refine v_aload X (xdec_at tX4_mail_0 35 rfl) rfl ?_
      refine v_iload_n X (xdec_at tX4_mail_0 36 rfl) rfl rfl ?_
      refine v_iload X (xdec_at tX4_mail_0 37 rfl) rfl ?_
      refine v_iload X (xdec_at tX4_mail_0 38 rfl) rfl ?_
      refine v_callV X myX1_rateOf [.int k, .int g, .int rg] [.int 0] (kyX1_rateOf l Z B0 lay μ tb r (ix a) (isP_lt hI q_2).1 k g rg (isK_in q_15)) (xw_at tW_5 24 rfl) (10, ix a) (cX_P (μ := μ) (isP_lt hI q_2).1) rfl rfl rfl rfl (by rfl) (Nat.le_of_ble_eq_true rfl) (xdec_at tX4_mail_0 39 rfl) ⟨(Nat.le_of_ble_eq_true rfl), (Nat.le_of_ble_eq_true rfl)⟩ ⟨(Nat.le_of_ble_eq_true rfl), (Nat.le_of_ble_eq_true rfl)⟩ ?_
      rintro v9 lay9 C9 ⟨rfl, rfl, rfl⟩
      rw [rate_eq hI q_2 q_15 q_21]
      refine v_iload X (xdec_at tX4_mail_1 0 rfl) rfl ?_
      refine v_isub X (xdec_at tX4_mail_1 1 rfl) ?_
      refine v_max X (xw_at tW_12 15 rfl) ⟨(Nat.le_of_ble_eq_true rfl), (Nat.le_of_ble_eq_true rfl)⟩ ⟨(Nat.le_of_ble_eq_true rfl), (Nat.le_of_ble_eq_true rfl)⟩ (xdec_at tX4_mail_1 2 rfl) ?_
      rw [mail_lk hI hK q_2 q_15 q_21 q_29]
      obtain ⟨lk, hlk⟩ : ∃ lk, lk = if M_rateOf μ k a g rg ≤ pd then 0 else M_rateOf μ k a g rg - pd := ⟨_, rfl⟩
      rw [← hlk]
      refine v_istore (lv' := [some (.ref (lay (0, 0))), some (.int k), some (.int a), some (.int b), some (.int g), some (.int pd), some (.int rg), some (.ref (lay (10, ix a))), some (.ref (lay (10, ix b))), some (.int lk)]) X (xdec_at tX4_mail_1 3 rfl) (by decide) rfl ?_
      refine v_aload X (xdec_at tX4_mail_1 4 rfl) rfl ?_
      refine v_dup X (xdec_at tX4_mail_1 5 rfl) rfl ?_
      refine x_get (v := .long (μ.2 8 (ix a))) X hinX1 (10, ix a) (cX_P (μ := μ) (isP_lt hI q_2).1) rfl 9 (by decide) (xw_at tW_7 25 rfl) rfl rfl rfl (xdec_at tX4_mail_1 6 rfl) ?_
      refine v_iload X (xdec_at tX4_mail_1 7 rfl) rfl ?_
      refine v_i2l X (xdec_at tX4_mail_1 8 rfl) rfl ?_
      refine v_ladd X (xdec_at tX4_mail_1 9 rfl) ?_
      refine x_put (C' := (cX Z lay (μ.1, (up2 μ.2 8 (ix a) ((μ.2 8 (ix a)) + (pd).toInt64))) tb r)) X hinX1 tyX1 tyX1_ok nmX1 (10, ix a) (cX_P (μ := μ) (isP_lt hI q_2).1) rfl 9 (by decide) (xw_at tW_7 25 rfl) rfl rfl rfl rfl rfl (cw_P9 (μ := μ) (h := (isP_lt hI q_2).1)) (xdec_at tX4_mail_1 10 rfl) ?_
      refine v_aload_n X (xdec_at tX4_mail_1 11 rfl) rfl rfl ?_
      refine x_get (v := .ref (lay (2, 0))) X hinX4 (0, 0) cX_X rfl 1 (by decide) (xw_at tW_2 14 rfl) rfl rfl rfl (xdec_at tX4_mail_1 12 rfl) ?_
      refine v_aload_n X (xdec_at tX4_mail_1 13 rfl) rfl rfl ?_
      refine x_get (v := .int (μ.1 16 0)) X hinX4 (0, 0) cX_X rfl 4 (by decide) (xw_at tW_2 17 rfl) rfl rfl rfl (xdec_at tX4_mail_1 14 rfl) ?_
      obtain ⟨J, hJ⟩ : ∃ J, J = (up2 μ.2 8 (ix a) ((μ.2 8 (ix a)) + (pd).toInt64)) := ⟨_, rfl⟩
      rw [← hJ]
      have hIJ : RI (μ.1, J) := RI_J (A := μ.1) (J := μ.2) hI
      have hKJ : KI (μ.1, J) := by rw [hJ]; exact KI_J78 (A := μ.1) (J := μ.2) hK (Or.inr rfl) (isP_lt hI q_2).1 _
      have hT40 : T < 40 := by rw [eT, show (40 : Int32) = nI 40 by decide] at c_55; exact (nI_ltI (by omega) (by decide)).mp c_55
      have n30 : (cX Z lay (μ.1, J) tb r) (30, T) = none := by rw [cXk_30, if_neg (by show ¬ T < nT μ; omega)]
      have n31 : (cX Z lay (μ.1, J) tb r) (31, T) = none := by rw [cXk_31, if_neg (by show ¬ T < nT μ; omega)]
      have n200 : (cX Z lay (μ.1, J) tb r) (200, 0) = none := hr2
      refine x_newc X hinX3 tyX3 tyX3_ok (xw_at tW_0 39 rfl) (xw_at tW_10 16 rfl) (xw_at tW_0 29 rfl) (ci := 3) rfl (30, T) n30 (f := fT0 0 .null .null 0 0 0 .null 0) (fun j hj => match j, hj with | 0, _ => rfl | 1, _ => rfl | 2, _ => rfl | 3, _ => rfl | 4, _ => rfl | 5, _ => rfl | 6, _ => rfl | 7, _ => rfl | 8, _ => rfl | 9, _ => rfl | 10, _ => rfl | 11, _ => rfl | 12, _ => rfl | 13, _ => rfl | 14, _ => rfl | j + 15, h => absurd h (by omega)) ⟨(Nat.le_of_ble_eq_true rfl), (Nat.le_of_ble_eq_true rfl)⟩ (xdec_at tX4_mail_1 15 rfl) fun a0 ha0 => ?_
      obtain ⟨ly, hly⟩ : ∃ z, z = xlay lay (30, T) a0 := ⟨_, rfl⟩
      rw [← hly]
      have h30 : ly (30, T) = a0 := by rw [hly]; exact xlay_at _ _ _
      have la : ly (10, ix a) = lay (10, ix a) := by rw [hly]; simp [xlay]
      have lb : ly (10, ix b) = lay (10, ix b) := by rw [hly]; simp [xlay]
      refine v_dup X (xdec_at tX4_mail_1 16 rfl) rfl ?_
      refine v_iload_n X (xdec_at tX4_mail_1 17 rfl) rfl rfl ?_
      refine v_aload X (xdec_at tX4_mail_1 18 rfl) rfl ?_
      refine v_aload X (xdec_at tX4_mail_1 19 rfl) rfl ?_
      refine v_iload X (xdec_at tX4_mail_1 20 rfl) rfl ?_
      refine v_iload X (xdec_at tX4_mail_1 21 rfl) rfl ?_
      refine v_iload X (xdec_at tX4_mail_1 22 rfl) rfl ?_
      refine v_st (st' := [.int rg, .int lk, .int g, .ref (lay (10, ix b)), .ref (ly (10, ix a)), .int k, .ref (ly (30, T)), .ref (ly (30, T)), .int (μ.1 16 0), .ref (lay (2, 0))]) (by rw [h30, la]) ?_
      refine v_callI X myX3_init [.int k, .ref (ly (10, ix a)), .ref (lay (10, ix b)), .int g, .int lk, .int rg] [.ref (ly (30, T)), .int (μ.1 16 0), .ref (lay (2, 0))] (kyX3_init l Z B0 ly (cX Z lay (μ.1, J) tb r) T (ix a) (lay (10, ix b)) k g lk rg (fP lay (μ.1, J) (ix a)) hrg n31 n200 (cX_P (μ := (μ.1, J)) (isP_lt hI q_2).1) rfl) (xw_at tW_12 18 rfl) rfl rfl (Nat.le_of_ble_eq_true rfl) (xdec_at tX4_mail_1 23 rfl) ⟨(Nat.le_of_ble_eq_true rfl), (Nat.le_of_ble_eq_true rfl)⟩ ⟨(Nat.le_of_ble_eq_true rfl), (Nat.le_of_ble_eq_true rfl)⟩ ?_
      rintro v9 lay9 C9 ⟨rfl, a1, rfl, rfl⟩
      rw [row_if, la]
      obtain ⟨lz, hlz⟩ : ∃ z, z = xlay ly (31, T) a1 := ⟨_, rfl⟩
      rw [← hlz]
      have z30 : lz (30, T) = a0 := by rw [hlz, xlay_ne _ _ (by simp)]; exact h30
      have z31 : lz (31, T) = a1 := by rw [hlz]; exact xlay_at _ _ _
      have hl : lyC Z lay lz (μ.1, J) tb r := fun q hq => by rw [hlz, xlay_ne _ _ (fun z => hq (by rw [z]; exact n31)), hly]; exact xlay_ne _ _ (fun z => hq (by rw [z]; exact n30))
      have hlB : lyB lay lz := fun q hq => by rw [hlz, xlay_ne _ _ (k40 hq (by decide)), hly]; exact xlay_ne _ _ (k40 hq (by decide))
      refine v_st (st' := [.ref a0, .int (μ.1 16 0), .ref (lay (2, 0))]) (by rw [h30]; rfl) ?_
      refine x_aast4 (C' := (xup (xup (xup (cX Z lay (μ.1, J) tb r) (31, T) (aI Z (if rg = 0 then 0 else 8) (if rg = 0 then (fun _ => 0) else upd (fun _ => 0) 0 (nI (ix a))))) (30, T) (.inr (3, fT0 k (.ref (lay (10, ix a))) (.ref (lay (10, ix b))) g lk rg (.ref a1) (if rg = 0 then 0 else 1)))) (2, 0) (.inl (Z.2 4, 40, .inr (.inr (.inr (.inr (va_up (fun i => if i < nT (μ.1, J) then some (lay (30, i)) else none) (ix (μ.1 16 0)) (some a0))))))))) X (2, 0) (30, T) (by rw [xup_ne _ _ (by simp), xup_ne _ _ (by simp), cX_ts]; rfl) (xup_at _ _ _) (by rw [eT]; exact vp_in_nI hT40 (by decide)) (hl (2, 0) (by rw [cX_ts]; exact fun z => by cases z)) z30 (fun _ => rfl) (xdec_at tX4_mail_1 24 rfl) ?_
      have h00 : lz (0, 0) = lay (0, 0) := hl (0, 0) (by rw [cX_X]; exact fun z => by cases z)
      refine v_aload_n X (xdec_at tX4_mail_1 25 rfl) rfl rfl ?_
      refine v_dup X (xdec_at tX4_mail_1 26 rfl) rfl ?_
      refine x_get (v := .int (μ.1 16 0)) X hinX4 (0, 0) (by rw [xup_ne _ _ (by simp), xup_ne _ _ (by simp), xup_ne _ _ (by simp), cX_X]) rfl 4 (by decide) (xw_at tW_2 17 rfl) rfl h00 rfl (xdec_at tX4_mail_1 27 rfl) ?_
      refine v_iconst (v := 1) X (xdec_at tX4_mail_1 28 rfl) (by decide) ?_
      refine v_iadd X (xdec_at tX4_mail_1 29 rfl) ?_
      refine x_put (C' := xup (xup (xup (xup (cX Z lay (μ.1, J) tb r) (31, T) (aI Z (if rg = 0 then 0 else 8) (if rg = 0 then (fun _ => 0) else upd (fun _ => 0) 0 (nI (ix a))))) (30, T) (.inr (3, fT0 k (.ref (lay (10, ix a))) (.ref (lay (10, ix b))) g lk rg (.ref a1) (if rg = 0 then 0 else 1)))) (2, 0) (.inl (Z.2 4, 40, .inr (.inr (.inr (.inr (va_up (fun i => if i < nT (μ.1, J) then some (lay (30, i)) else none) (ix (μ.1 16 0)) (some a0)))))))) (0, 0) (.inr (4, updV (fX lay (μ.1, J)) 4 (.int (μ.1 16 0 + 1))))) X hinX4 tyX4 tyX4_ok nmX4 (0, 0) (by rw [xup_ne _ _ (by simp), xup_ne _ _ (by simp), xup_ne _ _ (by simp), cX_X]) rfl 4 (by decide) (xw_at tW_2 17 rfl) rfl rfl rfl rfl h00 (fun _ => rfl) (xdec_at tX4_mail_1 30 rfl) ?_
      refine v_c (C' := cX Z lz (MC μ.1 T k a b g rg lk (if rg = 0 then 0 else 1), J) (KT_mail μ tb a rg) r) ?_ ?_
      · have hw := mail_world (μ' := (MC μ.1 T k a b g rg lk (if rg = 0 then 0 else 1), J)) (hd := (if rg = 0 then (fun _ => 0) else upd (fun _ => 0) 0 (nI (ix a)))) (n := (if rg = 0 then 0 else 8)) (k := k) (p := a) (q := b) (g := g) (lk := lk) (rg := rg) (c := if rg = 0 then 0 else 1) hIJ hKJ hT40 eT hl (isP_lt hI q_2).1 (isP_lt hI q_9).1 z30 z31 ((MC_16 μ.1 T k a b g rg lk (if rg = 0 then 0 else 1)).trans (by rw [eT, nI_1])) (fun j h1 x h2 => MC_mo μ.1 T k a b g rg lk (if rg = 0 then 0 else 1) h1 h2) rfl (fun j h1 h2 h3 => MC_mk μ.1 T k a b g rg lk (if rg = 0 then 0 else 1) h1 h2 h3) (MC_17 μ.1 T k a b g rg lk (if rg = 0 then 0 else 1)) (MC_18 μ.1 T k a b g rg lk (if rg = 0 then 0 else 1)) (MC_19 μ.1 T k a b g rg lk (if rg = 0 then 0 else 1)) (MC_20 μ.1 T k a b g rg lk (if rg = 0 then 0 else 1)) (MC_21 μ.1 T k a b g rg lk (if rg = 0 then 0 else 1)) (MC_22 μ.1 T k a b g rg lk (if rg = 0 then 0 else 1)) (MC_23 μ.1 T k a b g rg lk (if rg = 0 then 0 else 1)) (MC_24 μ.1 T k a b g rg lk (if rg = 0 then 0 else 1)) (MC_25 μ.1 T k a b g rg lk (if rg = 0 then 0 else 1)) (MC_35 μ.1 T k a b g rg lk (if rg = 0 then 0 else 1))
        have ek : KT_mail μ tb a rg = (tb.1, (fun x y => if x = T then (if rg = 0 then (fun _ => 0) else upd (fun _ => 0) 0 (nI (ix a))) y else tb.2.1 x y), (fun x => if x = T then (if rg = 0 then 0 else 8) else tb.2.2 x)) := by unfold KT_mail; rw [hnT]
        rw [ek]
        exact hw
      refine v_le (lv' := [some (.ref (lz (0, 0))), none, none, none, none, none, none, none, none, none]) (by simp [xle, h00]) ?_
      refine v_aload_n X (xdec_at tX4_mail_1 31 rfl) rfl rfl ?_
      refine x_get (v := .int (μ.1 16 0 + 1)) X hinX4 (0, 0) cX_X rfl 4 (by decide) (xw_at tW_2 17 rfl) rfl rfl (congrArg Value.int (MC_16 μ.1 T k a b g rg lk (if rg = 0 then 0 else 1))) (xdec_at tX4_mail_1 32 rfl) ?_
      refine v_iconst (v := 1) X (xdec_at tX4_mail_1 33 rfl) (by decide) ?_
      refine v_isub X (xdec_at tX4_mail_1 34 rfl) ?_
      have e9 : M_mail μ k a b g pd rg = (μ.1 16 0, M_mailS (th μ 0) k a b g pd rg) := by
        unfold M_mail
        rw [if_pos ⟨q_2, q_9⟩, if_neg (fun z => z.elim (fun y => y q_15) (fun z => z.elim (fun y => y q_21) (fun z => z.elim (fun y => y q_29) h36))), if_neg (fun z => by rw [z] at c_55; exact absurd c_55 (by decide))]
      have hcm := mailS_com hK (T := T) (by omega) hnT hS k a b g pd rg
      rw [← hlk, ← hJ] at hcm
      have ev : μ.1 16 0 + 1 - 1 = μ.1 16 0 := by rw [eT, nI_1, nI_pred]
      exact v_x (v_iret X hr (xdec_at tX4_mail_1 35 rfl) (Nat.le_of_ble_eq_true rfl) (Nat.le_of_ble_eq_true rfl) ⟨lyC_J hl, hlB, by rw [e9, ev], by rw [e9]; exact mailS_38 μ k a b g pd rg, by rw [e9]; exact (cX_eq (μ := (MC μ.1 T k a b g rg lk (if rg = 0 then 0 else 1), J)) (μ' := M_mailS (th μ 0) k a b g pd rg) hcm.1 hcm.2).symm⟩)
    · exact v_throw X hE hl0 (text := "there are 40 things") xinS xkS xiS (List.mem_of_getElem? (i := 7) rfl) xfS (xdec_at tX4_mail_0 29 rfl) (xdec_at tX4_mail_0 30 rfl) (xdec_at tX4_mail_0 31 rfl) (xdec_at tX4_mail_0 32 rfl) (xdec_at tX4_mail_0 33 rfl) ⟨(Nat.le_of_ble_eq_true rfl), (Nat.le_of_ble_eq_true rfl), (Nat.le_of_ble_eq_true rfl), (Nat.le_of_ble_eq_true rfl)⟩ ⟨(Nat.le_of_ble_eq_true rfl), (Nat.le_of_ble_eq_true rfl)⟩ (Or.inr (Or.inr ⟨rfl, by unfold M_mail; rw [if_pos ⟨q_2, q_9⟩, if_neg (fun z => z.elim (fun y => y q_15) (fun z => z.elim (fun y => y q_21) (fun z => z.elim (fun y => y q_29) h36))), if_pos (mail_40 hI c_55)]; simp [up2_at]⟩))
  · have h36 : a = b := ix_inj (hI.P q_2) (hI.P q_9) (by decide) (P_inj hinj (isP_lt hI q_2).1 (isP_lt hI q_9).1 (c_36))
    exact v_throw X hE hl0 (text := "a thing from a post to itself") xinA xkA xiA (List.mem_of_getElem? (i := 6) rfl) xfA (xdec_at tX4_mail_0 20 rfl) (xdec_at tX4_mail_0 21 rfl) (xdec_at tX4_mail_0 22 rfl) (xdec_at tX4_mail_0 23 rfl) (xdec_at tX4_mail_0 24 rfl) ⟨(Nat.le_of_ble_eq_true rfl), (Nat.le_of_ble_eq_true rfl), (Nat.le_of_ble_eq_true rfl), (Nat.le_of_ble_eq_true rfl)⟩ ⟨(Nat.le_of_ble_eq_true rfl), (Nat.le_of_ble_eq_true rfl)⟩ (Or.inr (Or.inl ⟨rfl, by unfold M_mail; rw [if_pos ⟨q_2, q_9⟩, if_pos (Or.inr (Or.inr (Or.inr h36)))]; simp [up2_at]⟩))
