/-! constructors: routes, the union, the reference -/
def μ0 : Mu := (fun _ _ => 0, fun _ _ => 0)
def tb0 : Tb := (fun _ _ => 0, fun _ _ => 0, fun _ => 0)
theorem RI_0 : RI μ0 := by
  have z8 : vp_in (0 : Int32) 8 := vp_in_nI (n := 0) (N := 8) (by decide) (by decide)
  have z3 : vp_in (0 : Int32) 3 := vp_in_nI (n := 0) (N := 3) (by decide) (by decide)
  have z20 : vp_in (0 : Int32) 20 := vp_in_nI (n := 0) (N := 20) (by decide) (by decide)
  have z80 : vp_in (0 : Int32) 80000 := vp_in_nI (n := 0) (N := 80000) (by decide) (by decide)
  refine ⟨⟨0, by decide, rfl⟩, ⟨0, by decide, rfl⟩, ⟨0, by decide, rfl⟩, ⟨0, by decide, rfl⟩, fun g _ => ⟨z8, z8⟩, fun t _ => ⟨z3, z8, z8, z8, Or.inr z20, z80, z80⟩, fun _ _ _ => Or.inl rfl⟩
theorem KL_0 : KL μ0 := fun g hg => absurd hg (Nat.not_lt_zero g)
theorem KI_0 : KI μ0 := by
  have y0 : ¬ (0 : Int32) < 0 := by decide
  have y1 : inR (0 : Int32) 0 10000 := by decide
  refine ⟨KL_0, fun t ht => absurd ht (Nat.not_lt_zero t), ⟨fun i => y0, fun i => ⟨y1, y1⟩⟩, fun a b _ _ _ => rfl, ⟨fun i _ => ⟨⟨rfl, rfl, rfl⟩, ⟨rfl, rfl⟩, fun k _ => ⟨rfl, rfl, rfl⟩⟩, fun g _ => rfl, fun t _ => ⟨rfl, rfl, rfl, rfl, rfl⟩⟩⟩
theorem aQ_0 (Z : xZ) (ty n : Nat) (f : Nat → Nat) : aQ Z ty n 0 f = .inl (Z.2 ty, n, .inr (.inr (.inr (.inr (fun _ => none))))) := by
  have e : (fun i => if i < 0 then some (f i) else none) = (fun _ => none) := funext fun i => if_neg (Nat.not_lt_zero i)
  unfold aQ
  rw [e]
def fR0 (a b c d : Value) : Nat → Value := fun j => match j with
  | 0 => a
  | 1 => b
  | 2 => c
  | 3 => d
  | 4 => .int 0
  | _ => .null
def fX0 (a b c : Value) : Nat → Value := fun j => match j with
  | 0 => a
  | 1 => b
  | 2 => c
  | 3 => .int 0
  | 4 => .int 0
  | 5 => .int 0
  | _ => .null
/-- what is there as routes are made -/
def aY (Z : xZ) (lay : xK → Nat) (r A : xK → Option xE) : Prop := (∀ j, 3 ≤ j → j ≤ 7 → A (j, 0) = none) ∧ ∀ k, (∀ j, 3 ≤ j → j ≤ 7 → k ≠ (j, 0)) → A k = cY Z lay μ0 tb0 r k
theorem cY0_lay {Z : xZ} {lay lay' : xK → Nat} {tb : Tb} {r : xK → Option xE} {k : xK} (h : k ≠ (3, 0)) : cY Z lay' μ0 tb r k = cY Z lay μ0 tb r k := by
  obtain ⟨a, b⟩ := k
  have e1 : ∀ ty n f, aQ Z ty n (nP μ0) f = aQ Z ty n 0 (fun _ => 0) := fun ty n f => by rw [aQ_0]; exact aQ_0 _ _ _ _
  have e2 : ∀ ty n f, aQ Z ty n (nT μ0) f = aQ Z ty n 0 (fun _ => 0) := fun ty n f => by rw [aQ_0]; exact aQ_0 _ _ _ _
  have e3 : ∀ ty n f, aQ Z ty n (nG μ0) f = aQ Z ty n 0 (fun _ => 0) := fun ty n f => by rw [aQ_0]; exact aQ_0 _ _ _ _
  have z1 : ¬ b < nP μ0 := Nat.not_lt_zero b
  have z2 : ¬ b < nT μ0 := Nat.not_lt_zero b
  have z3 : ¬ b < nG μ0 := Nat.not_lt_zero b
  unfold cY
  dsimp only
  simp only [e1, e2, e3, z1, z2, z3, if_false]
  by_cases h3 : a = 3
  · have hb : b ≠ 0 := fun z => h (by rw [h3, z])
    simp only [h3, hb, if_false]
  · simp only [h3, if_false]
set_option maxRecDepth 100000 in
set_option maxHeartbeats 4000000 in
theorem kyX2_init (l : Launch) (Z : xZ) (B0 : Nat) (lay : xK → Nat) (A r : xK → Option xE) (hA : aY Z lay r A) : YA l yX2_init cX2_init 1 (none : Option FieldType) 4 110 4 212 Z B0 [.ref (lay (3, 0))] lay (xup A (3, 0) (.inr (2, (fR0 .null .null .null .null)))) (fun v9 lay' C' => v9 = none ∧ (∀ k, (∀ j, 4 ≤ j → j ≤ 7 → k ≠ (j, 0)) → lay' k = lay k) ∧ C' = cY Z lay' μ0 (K_reckon μ0 tb0.1, tb0.2) r) := by
  have hn4 : A (4, 0) = none := hA.1 4 (by decide) (by decide)
  have hn5 : A (5, 0) = none := hA.1 5 (by decide) (by decide)
  have hn6 : A (6, 0) = none := hA.1 6 (by decide) (by decide)
  have hn7 : A (7, 0) = none := hA.1 7 (by decide) (by decide)
  refine YA_of myX2_init.2.2 RX2 rfl [some (.ref (lay (3, 0)))] rfl (Nat.le_of_ble_eq_true rfl) ?_
  intro P1 P2 P3 P4 P5 P6 P7 P8 X hr hnm hAO
  refine v_aload_n X (xdec_at tX2_init_0 0 rfl) rfl rfl ?_
  refine v_objInit X (xw_at tW_1 5 rfl) ⟨(Nat.le_of_ble_eq_true rfl), (Nat.le_of_ble_eq_true rfl)⟩ (xdec_at tX2_init_0 1 rfl) ?_
  refine v_aload_n X (xdec_at tX2_init_0 2 rfl) rfl rfl ?_
  refine v_bipush (v := 20) X (xdec_at tX2_init_0 3 rfl) (by decide) ?_
  refine m_newq (k1 := (4, 0)) (N1 := 20) (a := (lay (3, 0))) X hinX2 tyX2 tyX2_ok nmX2 rfl (j := 0) (by decide) (xw_at tW_2 2 rfl) rfl rfl hnm rfl rfl (ty := 5) rfl hAO.2.2 (xw_at tW_1 6 rfl) hn4 (by simp) (by decide) (by decide) (by decide) rfl ⟨(Nat.le_of_ble_eq_true rfl), (Nat.le_of_ble_eq_true rfl)⟩ (xdec_at tX2_init_0 4 rfl) (xdec_at tX2_init_0 5 rfl) fun a1 => ?_
  refine v_aload_n X (xdec_at tX2_init_0 6 rfl) rfl rfl ?_
  refine v_bipush (v := 64) X (xdec_at tX2_init_0 7 rfl) (by decide) ?_
  refine m_newi (k1 := (5, 0)) (N1 := 64) (a := (lay (3, 0))) X hinX2 tyX2 tyX2_ok nmX2 rfl (j := 1) (by decide) (xw_at tW_2 3 rfl) rfl rfl hnm rfl rfl (by simp [xup, hn5]) (by simp) (by decide) (by decide) (by decide) (by simp [xlay]) ⟨(Nat.le_of_ble_eq_true rfl), (Nat.le_of_ble_eq_true rfl)⟩ (xdec_at tX2_init_0 8 rfl) (xdec_at tX2_init_0 9 rfl) fun a2 => ?_
  refine v_aload_n X (xdec_at tX2_init_0 10 rfl) rfl rfl ?_
  refine v_bipush (v := 64) X (xdec_at tX2_init_0 11 rfl) (by decide) ?_
  refine m_newi (k1 := (6, 0)) (N1 := 64) (a := (lay (3, 0))) X hinX2 tyX2 tyX2_ok nmX2 rfl (j := 2) (by decide) (xw_at tW_2 4 rfl) rfl rfl hnm rfl rfl (by simp [xup, hn6]) (by simp) (by decide) (by decide) (by decide) (by simp [xlay]) ⟨(Nat.le_of_ble_eq_true rfl), (Nat.le_of_ble_eq_true rfl)⟩ (xdec_at tX2_init_0 12 rfl) (xdec_at tX2_init_0 13 rfl) fun a3 => ?_
  refine v_aload_n X (xdec_at tX2_init_0 14 rfl) rfl rfl ?_
  refine v_bipush (v := 64) X (xdec_at tX2_init_0 15 rfl) (by decide) ?_
  refine m_newi (k1 := (7, 0)) (N1 := 64) (a := (lay (3, 0))) X hinX2 tyX2 tyX2_ok nmX2 rfl (j := 3) (by decide) (xw_at tW_2 5 rfl) rfl rfl hnm rfl rfl (by simp [xup, hn7]) (by simp) (by decide) (by decide) (by decide) (by simp [xlay]) ⟨(Nat.le_of_ble_eq_true rfl), (Nat.le_of_ble_eq_true rfl)⟩ (xdec_at tX2_init_0 16 rfl) (xdec_at tX2_init_0 17 rfl) fun a4 => ?_
  refine v_aload_n X (xdec_at tX2_init_0 18 rfl) rfl rfl ?_
  refine v_iconst (v := 0) X (xdec_at tX2_init_0 19 rfl) (by decide) ?_
  refine x_put (C' := (xup (xup (xup (xup (xup A (4, 0) (.inl (Z.2 5, 20, .inr (.inr (.inr (.inr (fun _ => none))))))) (5, 0) (.inl (Z.2 0, 64, .inl (fun _ => 0)))) (6, 0) (.inl (Z.2 0, 64, .inl (fun _ => 0)))) (7, 0) (.inl (Z.2 0, 64, .inl (fun _ => 0)))) (3, 0) (.inr (2, (updV (updV (updV (updV (updV (fR0 .null .null .null .null) 0 (.ref a1)) 1 (.ref a2)) 2 (.ref a3)) 3 (.ref a4)) 4 (.int 0)))))) X hinX2 tyX2 tyX2_ok nmX2 (3, 0) (xup_at _ _ _) rfl 4 (by decide) (xw_at tW_2 6 rfl) rfl rfl rfl rfl (by simp [xlay]) (fun q => (congrFun (xup_xup _ _ _ _) q).symm) (xdec_at tX2_init_0 20 rfl) ?_
  obtain ⟨ly, hly⟩ : ∃ z, z = (xlay (xlay (xlay (xlay lay (4, 0) a1) (5, 0) a2) (6, 0) a3) (7, 0) a4) := ⟨_, rfl⟩
  rw [← hly]
  have l4 : ly (4, 0) = a1 := by rw [hly]; simp [xlay]
  have l5 : ly (5, 0) = a2 := by rw [hly]; simp [xlay]
  have l6 : ly (6, 0) = a3 := by rw [hly]; simp [xlay]
  have l7 : ly (7, 0) = a4 := by rw [hly]; simp [xlay]
  have hl : ∀ k, (∀ j, 4 ≤ j → j ≤ 7 → k ≠ (j, 0)) → ly k = lay k := fun k hk => by rw [hly, xlay_ne _ _ (hk 7 (by decide) (by decide)), xlay_ne _ _ (hk 6 (by decide) (by decide)), xlay_ne _ _ (hk 5 (by decide) (by decide)), xlay_ne _ _ (hk 4 (by decide) (by decide))]
  refine v_c (C' := cY Z ly μ0 tb0 r) ?_ ?_
  · have ef : (updV (updV (updV (updV (updV (fR0 .null .null .null .null) 0 (.ref a1)) 1 (.ref a2)) 2 (.ref a3)) 3 (.ref a4)) 4 (.int 0)) = fR ly μ0 := (funext fun j => by match j with | 0 => (show Value.ref a1 = .ref (ly (4, 0)); rw [l4]) | 1 => (show Value.ref a2 = .ref (ly (5, 0)); rw [l5]) | 2 => (show Value.ref a3 = .ref (ly (6, 0)); rw [l6]) | 3 => (show Value.ref a4 = .ref (ly (7, 0)); rw [l7]) | 4 => rfl | j + 5 => rfl)
    rw [ef]
    funext k
    by_cases h3 : k = (3, 0)
    · rw [h3, xup_at]; rfl
    rw [xup_ne _ _ h3]
    by_cases h7 : k = (7, 0)
    · rw [h7, xup_at]; rfl
    rw [xup_ne _ _ h7]
    by_cases h6 : k = (6, 0)
    · rw [h6, xup_at]; rfl
    rw [xup_ne _ _ h6]
    by_cases h5 : k = (5, 0)
    · rw [h5, xup_at]; rfl
    rw [xup_ne _ _ h5]
    by_cases h4 : k = (4, 0)
    · rw [h4, xup_at, cY_gs]; exact congrArg some (aQ_0 Z 5 20 _).symm
    rw [xup_ne _ _ h4, hA.2 k (fun j j1 j2 => by
      rcases (show j = 3 ∨ j = 4 ∨ j = 5 ∨ j = 6 ∨ j = 7 by omega) with rfl | rfl | rfl | rfl | rfl <;> assumption)]
    exact cY0_lay h3
  refine v_aload_n X (xdec_at tX2_init_0 21 rfl) rfl rfl ?_
  have h30 : ly (3, 0) = lay (3, 0) := hl (3, 0) (fun j j1 _ z => by have := (Prod.mk.inj z).1; omega)
  rw [← h30]
  refine v_callV X myX2_reckon [] [] (kzX2_reckon l Z B0 ly μ0 tb0 r RI_0 KL_0) (xw_at tW_1 7 rfl) (3, 0) cY_R rfl rfl rfl rfl (by rfl) (Nat.le_of_ble_eq_true rfl) (xdec_at tX2_init_0 22 rfl) ⟨(Nat.le_of_ble_eq_true rfl), (Nat.le_of_ble_eq_true rfl)⟩ ⟨(Nat.le_of_ble_eq_true rfl), (Nat.le_of_ble_eq_true rfl)⟩ ?_
  rintro v9 lay9 C9 ⟨rfl, rfl, rfl⟩
  exact v_vret X hr (xdec_at tX2_init_0 23 rfl) (Nat.le_of_ble_eq_true rfl) (Nat.le_of_ble_eq_true rfl) ⟨rfl, hl, rfl⟩
set_option maxRecDepth 100000 in
set_option maxHeartbeats 4000000 in
theorem kyX4_init (l : Launch) (Z : xZ) (B0 : Nat) (lay : xK → Nat) (A : xK → Option xE) (hA : ∀ k, k.1 ∈ [0, 1, 2, 3, 4, 5, 6, 7, 10, 11, 12, 13, 14, 20, 30, 31] → A k = none) : YA l yX4_init cX4_init 1 (none : Option FieldType) 5 150 7 265 Z B0 [.ref (lay (0, 0))] lay (xup A (0, 0) (.inr (4, (fX0 .null .null .null)))) (fun v9 lay' C' => v9 = none ∧ (∀ k, (∀ j, 1 ≤ j → j ≤ 7 → k ≠ (j, 0)) → lay' k = lay k) ∧ C' = cX Z lay' μ0 (K_reckon μ0 tb0.1, tb0.2) A) := by
  have hn : ∀ j b, j ∈ [0, 1, 2, 3, 4, 5, 6, 7, 10, 11, 12, 13, 14, 20, 30, 31] → A (j, b) = none := fun j b hj => hA (j, b) hj
  refine YA_of myX4_init.2.2 RX4 rfl [some (.ref (lay (0, 0)))] rfl (Nat.le_of_ble_eq_true rfl) ?_
  intro P1 P2 P3 P4 P5 P6 P7 P8 X hr hnm hAO
  refine v_aload_n X (xdec_at tX4_init_0 0 rfl) rfl rfl ?_
  refine v_objInit X (xw_at tW_0 35 rfl) ⟨(Nat.le_of_ble_eq_true rfl), (Nat.le_of_ble_eq_true rfl)⟩ (xdec_at tX4_init_0 1 rfl) ?_
  refine v_aload_n X (xdec_at tX4_init_0 2 rfl) rfl rfl ?_
  refine v_bipush (v := 8) X (xdec_at tX4_init_0 3 rfl) (by decide) ?_
  refine m_newq (k1 := (1, 0)) (N1 := 8) (a := (lay (0, 0))) X hinX4 tyX4 tyX4_ok nmX4 rfl (j := 0) (by decide) (xw_at tW_2 13 rfl) rfl rfl hnm rfl rfl (ty := 3) rfl hAO.1 (xw_at tW_0 38 rfl) (hn 1 0 (by decide)) (by simp) (by decide) (by decide) (by decide) rfl ⟨(Nat.le_of_ble_eq_true rfl), (Nat.le_of_ble_eq_true rfl)⟩ (xdec_at tX4_init_0 4 rfl) (xdec_at tX4_init_0 5 rfl) fun a1 => ?_
  refine v_aload_n X (xdec_at tX4_init_0 6 rfl) rfl rfl ?_
  refine v_bipush (v := 40) X (xdec_at tX4_init_0 7 rfl) (by decide) ?_
  refine m_newq (k1 := (2, 0)) (N1 := 40) (a := (lay (0, 0))) X hinX4 tyX4 tyX4_ok nmX4 rfl (j := 1) (by decide) (xw_at tW_2 14 rfl) rfl rfl hnm rfl rfl (ty := 4) rfl hAO.2.1 (xw_at tW_0 39 rfl) (by simp [xup, hn 2 0 (by decide)]) (by simp) (by decide) (by decide) (by decide) (by simp [xlay]) ⟨(Nat.le_of_ble_eq_true rfl), (Nat.le_of_ble_eq_true rfl)⟩ (xdec_at tX4_init_0 8 rfl) (xdec_at tX4_init_0 9 rfl) fun a2 => ?_
  refine v_aload_n X (xdec_at tX4_init_0 10 rfl) rfl rfl ?_
  have n3 : (xup (xup (xup A (1, 0) (.inl (Z.2 3, 8, .inr (.inr (.inr (.inr (fun _ => none))))))) (2, 0) (.inl (Z.2 4, 40, .inr (.inr (.inr (.inr (fun _ => none))))))) (0, 0) (.inr (4, (updV (updV (fX0 .null .null .null) 0 (.ref a1)) 1 (.ref a2))))) (3, 0) = none := by simp [xup, hn 3 0 (by decide)]
  refine x_newc X hinX2 tyX2 tyX2_ok (xw_at tW_1 0 rfl) (xw_at tW_1 1 rfl) (xw_at tW_0 17 rfl) (ci := 2) rfl (3, 0) n3 (f := (fR0 .null .null .null .null)) (fun j hj => match j, hj with | 0, _ => rfl | 1, _ => rfl | 2, _ => rfl | 3, _ => rfl | 4, _ => rfl | j + 5, h => absurd h (by omega)) ⟨(Nat.le_of_ble_eq_true rfl), (Nat.le_of_ble_eq_true rfl)⟩ (xdec_at tX4_init_0 11 rfl) fun a3 ha3 => ?_
  obtain ⟨ly, hly⟩ : ∃ z, z = xlay (xlay (xlay lay (1, 0) a1) (2, 0) a2) (3, 0) a3 := ⟨_, rfl⟩
  rw [← hly]
  have l1 : ly (1, 0) = a1 := by rw [hly]; simp [xlay]
  have l2 : ly (2, 0) = a2 := by rw [hly]; simp [xlay]
  have l3 : ly (3, 0) = a3 := by rw [hly]; simp [xlay]
  have l0 : ly (0, 0) = lay (0, 0) := by rw [hly]; simp [xlay]
  refine v_dup X (xdec_at tX4_init_0 12 rfl) rfl ?_
  have hAY : aY Z ly (xup A (0, 0) (.inr (4, (updV (updV (fX0 .null .null .null) 0 (.ref a1)) 1 (.ref a2))))) (xup (xup (xup A (1, 0) (.inl (Z.2 3, 8, .inr (.inr (.inr (.inr (fun _ => none))))))) (2, 0) (.inl (Z.2 4, 40, .inr (.inr (.inr (.inr (fun _ => none))))))) (0, 0) (.inr (4, (updV (updV (fX0 .null .null .null) 0 (.ref a1)) 1 (.ref a2))))) := by
    refine ⟨fun j j1 j2 => ?_, ?_⟩
    · rcases (show j = 3 ∨ j = 4 ∨ j = 5 ∨ j = 6 ∨ j = 7 by omega) with rfl | rfl | rfl | rfl | rfl <;> simp [xup, hn _ _ (show (3 : Nat) ∈ [0, 1, 2, 3, 4, 5, 6, 7, 10, 11, 12, 13, 14, 20, 30, 31] by decide), hn _ _ (show (4 : Nat) ∈ [0, 1, 2, 3, 4, 5, 6, 7, 10, 11, 12, 13, 14, 20, 30, 31] by decide), hn _ _ (show (5 : Nat) ∈ [0, 1, 2, 3, 4, 5, 6, 7, 10, 11, 12, 13, 14, 20, 30, 31] by decide), hn _ _ (show (6 : Nat) ∈ [0, 1, 2, 3, 4, 5, 6, 7, 10, 11, 12, 13, 14, 20, 30, 31] by decide), hn _ _ (show (7 : Nat) ∈ [0, 1, 2, 3, 4, 5, 6, 7, 10, 11, 12, 13, 14, 20, 30, 31] by decide)]
    · rintro ⟨a, b⟩ hk
      by_cases h0 : a = 0
      · subst h0; rw [cYk_0]; simp [xup]
      by_cases h1 : a = 1
      · subst h1
        by_cases hb : b = 0
        · subst hb; rw [cYk_1, if_pos rfl, show aQ Z 3 8 (nP μ0) _ = _ from aQ_0 Z 3 8 _]; simp [xup]
        · rw [cYk_1, if_neg hb]; simp [xup, hb, hn 1 b (by decide)]
      by_cases h2 : a = 2
      · subst h2
        by_cases hb : b = 0
        · subst hb; rw [cYk_2, if_pos rfl, show aQ Z 4 40 (nT μ0) _ = _ from aQ_0 Z 4 40 _]; simp [xup]
        · rw [cYk_2, if_neg hb]; simp [xup, hb, hn 2 b (by decide)]
      by_cases h3 : a = 3
      · subst h3
        have hb : b ≠ 0 := fun z => hk 3 (by decide) (by decide) (by rw [z])
        rw [cYk_3, if_neg hb]; simp [xup, hn 3 b (by decide)]
      by_cases h4 : a = 4
      · subst h4
        have hb : b ≠ 0 := fun z => hk 4 (by decide) (by decide) (by rw [z])
        rw [cYk_4, if_neg hb]; simp [xup, hn 4 b (by decide)]
      by_cases h5 : a = 5
      · subst h5
        have hb : b ≠ 0 := fun z => hk 5 (by decide) (by decide) (by rw [z])
        rw [cYk_5, if_neg hb]; simp [xup, hn 5 b (by decide)]
      by_cases h6 : a = 6
      · subst h6
        have hb : b ≠ 0 := fun z => hk 6 (by decide) (by decide) (by rw [z])
        rw [cYk_6, if_neg hb]; simp [xup, hn 6 b (by decide)]
      by_cases h7 : a = 7
      · subst h7
        have hb : b ≠ 0 := fun z => hk 7 (by decide) (by decide) (by rw [z])
        rw [cYk_7, if_neg hb]; simp [xup, hn 7 b (by decide)]
      by_cases h10 : a = 10
      · subst h10
        rw [cYk_10, if_neg (show ¬ b < nP μ0 from Nat.not_lt_zero b)]; simp [xup, hn 10 b (by decide)]
      by_cases h11 : a = 11
      · subst h11
        rw [cYk_11, if_neg (show ¬ b < nP μ0 from Nat.not_lt_zero b)]; simp [xup, hn 11 b (by decide)]
      by_cases h12 : a = 12
      · subst h12
        rw [cYk_12, if_neg (show ¬ b < nP μ0 from Nat.not_lt_zero b)]; simp [xup, hn 12 b (by decide)]
      by_cases h13 : a = 13
      · subst h13
        rw [cYk_13, if_neg (show ¬ b < nP μ0 from Nat.not_lt_zero b)]; simp [xup, hn 13 b (by decide)]
      by_cases h14 : a = 14
      · subst h14
        rw [cYk_14, if_neg (show ¬ b < nP μ0 from Nat.not_lt_zero b)]; simp [xup, hn 14 b (by decide)]
      by_cases h20 : a = 20
      · subst h20
        rw [cYk_20, if_neg (show ¬ b < nG μ0 from Nat.not_lt_zero b)]; simp [xup, hn 20 b (by decide)]
      by_cases h30 : a = 30
      · subst h30
        rw [cYk_30, if_neg (show ¬ b < nT μ0 from Nat.not_lt_zero b)]; simp [xup, hn 30 b (by decide)]
      by_cases h31 : a = 31
      · subst h31
        rw [cYk_31, if_neg (show ¬ b < nT μ0 from Nat.not_lt_zero b)]; simp [xup, hn 31 b (by decide)]
      rw [cY_r h0 h1 h2 h3 h4 h5 h6 h7 h10 h11 h12 h13 h14 h20 h30 h31]; simp [xup, h0, h1, h2]
  refine v_st (st' := [.ref (ly (3, 0)), .ref (ly (3, 0)), .ref (lay (0, 0))]) (by rw [l3]) ?_
  refine v_callIA X hAO myX2_init [] [.ref (ly (3, 0)), .ref (lay (0, 0))] (kyX2_init l Z B0 ly (xup (xup (xup A (1, 0) (.inl (Z.2 3, 8, .inr (.inr (.inr (.inr (fun _ => none))))))) (2, 0) (.inl (Z.2 4, 40, .inr (.inr (.inr (.inr (fun _ => none))))))) (0, 0) (.inr (4, (updV (updV (fX0 .null .null .null) 0 (.ref a1)) 1 (.ref a2))))) (xup A (0, 0) (.inr (4, (updV (updV (fX0 .null .null .null) 0 (.ref a1)) 1 (.ref a2))))) hAY) (xw_at tW_1 2 rfl) rfl rfl (Nat.le_of_ble_eq_true rfl) (xdec_at tX4_init_0 13 rfl) ⟨(Nat.le_of_ble_eq_true rfl), (Nat.le_of_ble_eq_true rfl)⟩ ⟨(Nat.le_of_ble_eq_true rfl), (Nat.le_of_ble_eq_true rfl)⟩ ?_
  rintro v9 lay9 C9 ⟨rfl, hl9, rfl⟩
  have m30 : lay9 (3, 0) = ly (3, 0) := hl9 _ (fun j j1 _ z => by have := (Prod.mk.inj z).1; omega)
  have m10 : lay9 (1, 0) = ly (1, 0) := hl9 _ (fun j j1 _ z => by have := (Prod.mk.inj z).1; omega)
  have m20 : lay9 (2, 0) = ly (2, 0) := hl9 _ (fun j j1 _ z => by have := (Prod.mk.inj z).1; omega)
  have m00 : lay9 (0, 0) = lay (0, 0) := (hl9 _ (fun j j1 _ z => by have := (Prod.mk.inj z).1; omega)).trans l0
  refine v_st (st' := [.ref (lay9 (3, 0)), .ref (lay (0, 0))]) (by rw [m30]; rfl) ?_
  have e00 : (cY Z lay9 μ0 (K_reckon μ0 tb0.1, tb0.2) (xup A (0, 0) (.inr (4, (updV (updV (fX0 .null .null .null) 0 (.ref a1)) 1 (.ref a2)))))) (0, 0) = some (.inr (4, (updV (updV (fX0 .null .null .null) 0 (.ref a1)) 1 (.ref a2)))) := by rw [cYk_0]; exact xup_at _ _ _
  refine x_putF (C' := xup (cY Z lay9 μ0 (K_reckon μ0 tb0.1, tb0.2) (xup A (0, 0) (.inr (4, (updV (updV (fX0 .null .null .null) 0 (.ref a1)) 1 (.ref a2)))))) (0, 0) (.inr (4, (updV (updV (updV (fX0 .null .null .null) 0 (.ref a1)) 1 (.ref a2)) 2 (.ref (lay9 (3, 0))))))) X hinX4 tyX4 tyX4_ok nmX4 (0, 0) e00 rfl 2 (by decide) (xw_at tW_2 15 rfl) rfl rfl hnm rfl rfl rfl m00 (fun _ => rfl) (xdec_at tX4_init_0 14 rfl) ?_
  refine v_aload_n X (xdec_at tX4_init_0 15 rfl) rfl rfl ?_
  refine v_iconst (v := 0) X (xdec_at tX4_init_0 16 rfl) (by decide) ?_
  refine x_put (C' := (xup (cY Z lay9 μ0 (K_reckon μ0 tb0.1, tb0.2) (xup A (0, 0) (.inr (4, (updV (updV (fX0 .null .null .null) 0 (.ref a1)) 1 (.ref a2)))))) (0, 0) (.inr (4, (updV (updV (updV (updV (fX0 .null .null .null) 0 (.ref a1)) 1 (.ref a2)) 2 (.ref (lay9 (3, 0)))) 3 (.int 0)))))) X hinX4 tyX4 tyX4_ok nmX4 (0, 0) (xup_at _ _ _) rfl 3 (by decide) (xw_at tW_2 16 rfl) rfl rfl rfl rfl m00 (fun q => (congrFun (xup_xup _ _ _ _) q).symm) (xdec_at tX4_init_0 17 rfl) ?_
  refine v_aload_n X (xdec_at tX4_init_0 18 rfl) rfl rfl ?_
  refine v_iconst (v := 0) X (xdec_at tX4_init_0 19 rfl) (by decide) ?_
  refine x_put (C' := (xup (cY Z lay9 μ0 (K_reckon μ0 tb0.1, tb0.2) (xup A (0, 0) (.inr (4, (updV (updV (fX0 .null .null .null) 0 (.ref a1)) 1 (.ref a2)))))) (0, 0) (.inr (4, (updV (updV (updV (updV (updV (fX0 .null .null .null) 0 (.ref a1)) 1 (.ref a2)) 2 (.ref (lay9 (3, 0)))) 3 (.int 0)) 4 (.int 0)))))) X hinX4 tyX4 tyX4_ok nmX4 (0, 0) (xup_at _ _ _) rfl 4 (by decide) (xw_at tW_2 17 rfl) rfl rfl rfl rfl m00 (fun q => (congrFun (xup_xup _ _ _ _) q).symm) (xdec_at tX4_init_0 20 rfl) ?_
  refine v_aload_n X (xdec_at tX4_init_0 21 rfl) rfl rfl ?_
  refine v_iconst (v := 0) X (xdec_at tX4_init_0 22 rfl) (by decide) ?_
  refine x_put (C' := (xup (cY Z lay9 μ0 (K_reckon μ0 tb0.1, tb0.2) (xup A (0, 0) (.inr (4, (updV (updV (fX0 .null .null .null) 0 (.ref a1)) 1 (.ref a2)))))) (0, 0) (.inr (4, (updV (updV (updV (updV (updV (updV (fX0 .null .null .null) 0 (.ref a1)) 1 (.ref a2)) 2 (.ref (lay9 (3, 0)))) 3 (.int 0)) 4 (.int 0)) 5 (.int 0)))))) X hinX4 tyX4 tyX4_ok nmX4 (0, 0) (xup_at _ _ _) rfl 5 (by decide) (xw_at tW_2 18 rfl) rfl rfl rfl rfl m00 (fun q => (congrFun (xup_xup _ _ _ _) q).symm) (xdec_at tX4_init_0 23 rfl) ?_
  refine v_c (C' := cX Z lay9 μ0 (K_reckon μ0 tb0.1, tb0.2) A) ?_ ?_
  · have ef : (updV (updV (updV (updV (updV (updV (fX0 .null .null .null) 0 (.ref a1)) 1 (.ref a2)) 2 (.ref (lay9 (3, 0)))) 3 (.int 0)) 4 (.int 0)) 5 (.int 0)) = fX lay9 μ0 := (funext fun j => by match j with | 0 => (show Value.ref a1 = .ref (lay9 (1, 0)); rw [m10, l1]) | 1 => (show Value.ref a2 = .ref (lay9 (2, 0)); rw [m20, l2]) | 2 => rfl | 3 => rfl | 4 => rfl | 5 => rfl | j + 6 => rfl)
    rw [ef]
    funext ⟨a, b⟩
    by_cases h0 : a = 0
    · subst h0
      by_cases hb : b = 0
      · subst hb; rw [xup_at, cXk_0, if_pos rfl]
      · rw [xup_ne _ _ (by simp [hb]), cYk_0, cXk_0, if_neg hb]; simp [xup, hb, hn 0 b (by decide)]
    · rw [xup_ne _ _ (by simp [h0])]
      unfold cX cY
      dsimp only
      simp only [h0, if_false]
      rw [xup_ne _ _ (by simp [h0])]
  refine v_vret X hr (xdec_at tX4_init_0 24 rfl) (Nat.le_of_ble_eq_true rfl) (Nat.le_of_ble_eq_true rfl) ⟨rfl, fun k hk => ?_, rfl⟩
  rw [hl9 k (fun j j1 j2 => hk j (by omega) j2), hly, xlay_ne _ _ (hk 3 (by decide) (by decide)), xlay_ne _ _ (hk 2 (by decide) (by decide)), xlay_ne _ _ (hk 1 (by decide) (by decide))]
