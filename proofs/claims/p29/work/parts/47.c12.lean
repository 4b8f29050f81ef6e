def fP0 (v : Int32) (a1 a2 a3 a4 : Value) : Nat → Value := fun j => match j with
  | 0 => .int v
  | 1 => a1
  | 2 => a2
  | 3 => a3
  | 4 => a4
  | 5 => .int 0
  | 6 => .int 0
  | 7 => .int 0
  | 8 => .long 0
  | 9 => .long 0
  | _ => .null
set_option maxRecDepth 100000 in
set_option maxHeartbeats 4000000 in
theorem kyX1_init (l : Launch) (Z : xZ) (B0 : Nat) (lay : xK → Nat) (A : xK → Option xE) (i : Nat) (v : Int32) (hn11 : A (11, i) = none) (hn12 : A (12, i) = none) (hn13 : A (13, i) = none) (hn14 : A (14, i) = none) : YM l yX1_init cX1_init 2 (none : Option FieldType) 1 40 4 17 Z B0 [.ref (lay (10, i)), .int v] lay (xup A (10, i) (.inr (1, fP0 0 .null .null .null .null))) (fun v9 lay' C' => v9 = none ∧ ∃ a1 a2 a3 a4, lay' = xlay (xlay (xlay (xlay lay (11, i) a1) (12, i) a2) (13, i) a3) (14, i) a4 ∧ C' = xup (xup (xup (xup (xup A (11, i) (aI Z 3 (fun _ => 0))) (12, i) (aI Z 3 (fun _ => 0))) (13, i) (aI Z 3 (fun _ => 0))) (14, i) (aL Z 8 (fun _ => 0))) (10, i) (.inr (1, fP0 v (.ref a1) (.ref a2) (.ref a3) (.ref a4)))) := by
  refine YM_of myX1_init.2.2 RX1 rfl [some (.ref (lay (10, i))), some (.int v)] rfl (Nat.le_of_ble_eq_true rfl) ?_
  intro P1 P2 P3 P4 P5 P6 P7 P8 X hr hnm
  refine v_aload_n X (xdec_at tX1_init_0 0 rfl) rfl rfl ?_
  refine v_objInit X (xw_at tW_7 1 rfl) ⟨(Nat.le_of_ble_eq_true rfl), (Nat.le_of_ble_eq_true rfl)⟩ (xdec_at tX1_init_0 1 rfl) ?_
  refine v_aload_n X (xdec_at tX1_init_0 2 rfl) rfl rfl ?_
  refine v_iconst (v := 3) X (xdec_at tX1_init_0 3 rfl) (by decide) ?_
  refine m_newi (k1 := (11, i)) (N1 := 3) (a := (lay (10, i))) X hinX1 tyX1 tyX1_ok nmX1 rfl (j := 1) (by decide) (xw_at tW_7 7 rfl) rfl rfl hnm rfl rfl hn11 (by simp) (by decide) (by decide) (by decide) rfl ⟨(Nat.le_of_ble_eq_true rfl), (Nat.le_of_ble_eq_true rfl)⟩ (xdec_at tX1_init_0 4 rfl) (xdec_at tX1_init_0 5 rfl) fun a1 => ?_
  refine v_aload_n X (xdec_at tX1_init_0 6 rfl) rfl rfl ?_
  refine v_iconst (v := 3) X (xdec_at tX1_init_0 7 rfl) (by decide) ?_
  refine m_newi (k1 := (12, i)) (N1 := 3) (a := (lay (10, i))) X hinX1 tyX1 tyX1_ok nmX1 rfl (j := 2) (by decide) (xw_at tW_7 10 rfl) rfl rfl hnm rfl rfl (by simp [xup, hn12]) (by simp) (by decide) (by decide) (by decide) (by simp [xlay]) ⟨(Nat.le_of_ble_eq_true rfl), (Nat.le_of_ble_eq_true rfl)⟩ (xdec_at tX1_init_0 8 rfl) (xdec_at tX1_init_0 9 rfl) fun a2 => ?_
  refine v_aload_n X (xdec_at tX1_init_0 10 rfl) rfl rfl ?_
  refine v_iconst (v := 3) X (xdec_at tX1_init_0 11 rfl) (by decide) ?_
  refine m_newi (k1 := (13, i)) (N1 := 3) (a := (lay (10, i))) X hinX1 tyX1 tyX1_ok nmX1 rfl (j := 3) (by decide) (xw_at tW_7 12 rfl) rfl rfl hnm rfl rfl (by simp [xup, hn13]) (by simp) (by decide) (by decide) (by decide) (by simp [xlay]) ⟨(Nat.le_of_ble_eq_true rfl), (Nat.le_of_ble_eq_true rfl)⟩ (xdec_at tX1_init_0 12 rfl) (xdec_at tX1_init_0 13 rfl) fun a3 => ?_
  refine v_aload_n X (xdec_at tX1_init_0 14 rfl) rfl rfl ?_
  refine v_bipush (v := 8) X (xdec_at tX1_init_0 15 rfl) (by decide) ?_
  refine m_newl (k1 := (14, i)) (N1 := 8) (a := (lay (10, i))) X hinX1 tyX1 tyX1_ok nmX1 rfl (j := 4) (by decide) (xw_at tW_7 14 rfl) rfl rfl hnm rfl rfl (by simp [xup, hn14]) (by simp) (by decide) (by decide) (by decide) (by simp [xlay]) ⟨(Nat.le_of_ble_eq_true rfl), (Nat.le_of_ble_eq_true rfl)⟩ (xdec_at tX1_init_0 16 rfl) (xdec_at tX1_init_0 17 rfl) fun a4 => ?_
  refine v_aload_n X (xdec_at tX1_init_0 18 rfl) rfl rfl ?_
  refine v_iconst (v := 0) X (xdec_at tX1_init_0 19 rfl) (by decide) ?_
  refine x_put (C' := (xup (xup (xup (xup (xup A (11, i) (.inl (Z.2 0, 3, .inl (fun _ => 0)))) (12, i) (.inl (Z.2 0, 3, .inl (fun _ => 0)))) (13, i) (.inl (Z.2 0, 3, .inl (fun _ => 0)))) (14, i) (.inl (Z.2 1, 8, .inr (.inl (fun _ => 0))))) (10, i) (.inr (1, (updV (updV (updV (updV (updV (fP0 0 .null .null .null .null) 1 (.ref a1)) 2 (.ref a2)) 3 (.ref a3)) 4 (.ref a4)) 5 (.int 0)))))) X hinX1 tyX1 tyX1_ok nmX1 (10, i) (xup_at _ _ _) rfl 5 (by decide) (xw_at tW_7 16 rfl) rfl rfl rfl rfl (by simp [xlay]) (fun q => (congrFun (xup_xup _ _ _ _) q).symm) (xdec_at tX1_init_0 20 rfl) ?_
  refine v_aload_n X (xdec_at tX1_init_0 21 rfl) rfl rfl ?_
  refine v_iconst (v := 0) X (xdec_at tX1_init_0 22 rfl) (by decide) ?_
  refine x_put (C' := (xup (xup (xup (xup (xup A (11, i) (.inl (Z.2 0, 3, .inl (fun _ => 0)))) (12, i) (.inl (Z.2 0, 3, .inl (fun _ => 0)))) (13, i) (.inl (Z.2 0, 3, .inl (fun _ => 0)))) (14, i) (.inl (Z.2 1, 8, .inr (.inl (fun _ => 0))))) (10, i) (.inr (1, (updV (updV (updV (updV (updV (updV (fP0 0 .null .null .null .null) 1 (.ref a1)) 2 (.ref a2)) 3 (.ref a3)) 4 (.ref a4)) 5 (.int 0)) 6 (.int 0)))))) X hinX1 tyX1 tyX1_ok nmX1 (10, i) (xup_at _ _ _) rfl 6 (by decide) (xw_at tW_7 18 rfl) rfl rfl rfl rfl (by simp [xlay]) (fun q => (congrFun (xup_xup _ _ _ _) q).symm) (xdec_at tX1_init_0 23 rfl) ?_
  refine v_aload_n X (xdec_at tX1_init_0 24 rfl) rfl rfl ?_
  refine v_iconst (v := 0) X (xdec_at tX1_init_0 25 rfl) (by decide) ?_
  refine x_put (C' := (xup (xup (xup (xup (xup A (11, i) (.inl (Z.2 0, 3, .inl (fun _ => 0)))) (12, i) (.inl (Z.2 0, 3, .inl (fun _ => 0)))) (13, i) (.inl (Z.2 0, 3, .inl (fun _ => 0)))) (14, i) (.inl (Z.2 1, 8, .inr (.inl (fun _ => 0))))) (10, i) (.inr (1, (updV (updV (updV (updV (updV (updV (updV (fP0 0 .null .null .null .null) 1 (.ref a1)) 2 (.ref a2)) 3 (.ref a3)) 4 (.ref a4)) 5 (.int 0)) 6 (.int 0)) 7 (.int 0)))))) X hinX1 tyX1 tyX1_ok nmX1 (10, i) (xup_at _ _ _) rfl 7 (by decide) (xw_at tW_7 20 rfl) rfl rfl rfl rfl (by simp [xlay]) (fun q => (congrFun (xup_xup _ _ _ _) q).symm) (xdec_at tX1_init_0 26 rfl) ?_
  refine v_aload_n X (xdec_at tX1_init_0 27 rfl) rfl rfl ?_
  refine v_lconst (v := 0) X (xdec_at tX1_init_0 28 rfl) (by decide) ?_
  refine x_put (C' := (xup (xup (xup (xup (xup A (11, i) (.inl (Z.2 0, 3, .inl (fun _ => 0)))) (12, i) (.inl (Z.2 0, 3, .inl (fun _ => 0)))) (13, i) (.inl (Z.2 0, 3, .inl (fun _ => 0)))) (14, i) (.inl (Z.2 1, 8, .inr (.inl (fun _ => 0))))) (10, i) (.inr (1, (updV (updV (updV (updV (updV (updV (updV (updV (fP0 0 .null .null .null .null) 1 (.ref a1)) 2 (.ref a2)) 3 (.ref a3)) 4 (.ref a4)) 5 (.int 0)) 6 (.int 0)) 7 (.int 0)) 8 (.long 0)))))) X hinX1 tyX1 tyX1_ok nmX1 (10, i) (xup_at _ _ _) rfl 8 (by decide) (xw_at tW_7 22 rfl) rfl rfl rfl rfl (by simp [xlay]) (fun q => (congrFun (xup_xup _ _ _ _) q).symm) (xdec_at tX1_init_0 29 rfl) ?_
  refine v_aload_n X (xdec_at tX1_init_0 30 rfl) rfl rfl ?_
  refine v_lconst (v := 0) X (xdec_at tX1_init_0 31 rfl) (by decide) ?_
  refine x_put (C' := (xup (xup (xup (xup (xup A (11, i) (.inl (Z.2 0, 3, .inl (fun _ => 0)))) (12, i) (.inl (Z.2 0, 3, .inl (fun _ => 0)))) (13, i) (.inl (Z.2 0, 3, .inl (fun _ => 0)))) (14, i) (.inl (Z.2 1, 8, .inr (.inl (fun _ => 0))))) (10, i) (.inr (1, (updV (updV (updV (updV (updV (updV (updV (updV (updV (fP0 0 .null .null .null .null) 1 (.ref a1)) 2 (.ref a2)) 3 (.ref a3)) 4 (.ref a4)) 5 (.int 0)) 6 (.int 0)) 7 (.int 0)) 8 (.long 0)) 9 (.long 0)))))) X hinX1 tyX1 tyX1_ok nmX1 (10, i) (xup_at _ _ _) rfl 9 (by decide) (xw_at tW_7 24 rfl) rfl rfl rfl rfl (by simp [xlay]) (fun q => (congrFun (xup_xup _ _ _ _) q).symm) (xdec_at tX1_init_0 32 rfl) ?_
  refine v_aload_n X (xdec_at tX1_init_0 33 rfl) rfl rfl ?_
  refine v_iload_n X (xdec_at tX1_init_0 34 rfl) rfl rfl ?_
  refine x_putF (C' := (xup (xup (xup (xup (xup A (11, i) (.inl (Z.2 0, 3, .inl (fun _ => 0)))) (12, i) (.inl (Z.2 0, 3, .inl (fun _ => 0)))) (13, i) (.inl (Z.2 0, 3, .inl (fun _ => 0)))) (14, i) (.inl (Z.2 1, 8, .inr (.inl (fun _ => 0))))) (10, i) (.inr (1, (updV (updV (updV (updV (updV (updV (updV (updV (updV (updV (fP0 0 .null .null .null .null) 1 (.ref a1)) 2 (.ref a2)) 3 (.ref a3)) 4 (.ref a4)) 5 (.int 0)) 6 (.int 0)) 7 (.int 0)) 8 (.long 0)) 9 (.long 0)) 0 (.int v)))))) X hinX1 tyX1 tyX1_ok nmX1 (10, i) (xup_at _ _ _) rfl 0 (by decide) (xw_at tW_7 2 rfl) rfl rfl hnm rfl rfl rfl (by simp [xlay]) (fun q => (congrFun (xup_xup _ _ _ _) q).symm) (xdec_at tX1_init_0 35 rfl) ?_
  exact v_vret X hr (xdec_at tX1_init_0 36 rfl) (Nat.le_of_ble_eq_true rfl) (Nat.le_of_ble_eq_true rfl) ⟨rfl, a1, a2, a3, a4, rfl, congrArg (fun f => xup _ (10, i) (.inr (1, f) : xE)) (funext fun j => by match j with | 0 => rfl | 1 => rfl | 2 => rfl | 3 => rfl | 4 => rfl | 5 => rfl | 6 => rfl | 7 => rfl | 8 => rfl | 9 => rfl | j + 10 => simp [updV, fP0])⟩
def fG0 (a b : Value) (d : Int32) : Nat → Value := fun j => match j with
  | 0 => a
  | 1 => b
  | 2 => .int d
  | 3 => .int 0
  | _ => .null
set_option maxRecDepth 100000 in
set_option maxHeartbeats 4000000 in
theorem kyX0_init (l : Launch) (Z : xZ) (B0 : Nat) (lay : xK → Nat) (A : xK → Option xE) (g : Nat) (a b : Nat) (d : Int32) : YM l yX0_init cX0_init 4 (none : Option FieldType) 1 40 0 0 Z B0 [.ref (lay (20, g)), .ref a, .ref b, .int d] lay (xup A (20, g) (.inr (0, fG0 .null .null 0))) (fun v9 lay' C' => v9 = none ∧ lay' = lay ∧ C' = xup A (20, g) (.inr (0, fG0 (.ref a) (.ref b) d))) := by
  refine YM_of myX0_init.2.2 RX0 rfl [some (.ref (lay (20, g))), some (.ref a), some (.ref b), some (.int d)] rfl (Nat.le_of_ble_eq_true rfl) ?_
  intro P1 P2 P3 P4 P5 P6 P7 P8 X hr hnm
  refine v_aload_n X (xdec_at tX0_init_0 0 rfl) rfl rfl ?_
  refine v_objInit X (xw_at tW_8 29 rfl) ⟨(Nat.le_of_ble_eq_true rfl), (Nat.le_of_ble_eq_true rfl)⟩ (xdec_at tX0_init_0 1 rfl) ?_
  refine v_aload_n X (xdec_at tX0_init_0 2 rfl) rfl rfl ?_
  refine v_iconst (v := 0) X (xdec_at tX0_init_0 3 rfl) (by decide) ?_
  refine x_put (C' := (xup A (20, g) (.inr (0, (updV (fG0 .null .null 0) 3 (.int 0)))))) X hinX0 tyX0 tyX0_ok nmX0 (20, g) (xup_at _ _ _) rfl 3 (by decide) (xw_at tW_8 39 rfl) rfl rfl rfl rfl rfl (fun q => (congrFun (xup_xup _ _ _ _) q).symm) (xdec_at tX0_init_0 4 rfl) ?_
  refine v_aload_n X (xdec_at tX0_init_0 5 rfl) rfl rfl ?_
  refine v_aload_n X (xdec_at tX0_init_0 6 rfl) rfl rfl ?_
  refine x_putF (C' := (xup A (20, g) (.inr (0, (updV (updV (fG0 .null .null 0) 3 (.int 0)) 0 (.ref a)))))) X hinX0 tyX0 tyX0_ok nmX0 (20, g) (xup_at _ _ _) rfl 0 (by decide) (xw_at tW_8 30 rfl) rfl rfl hnm rfl rfl rfl rfl (fun q => (congrFun (xup_xup _ _ _ _) q).symm) (xdec_at tX0_init_0 7 rfl) ?_
  refine v_aload_n X (xdec_at tX0_init_0 8 rfl) rfl rfl ?_
  refine v_aload_n X (xdec_at tX0_init_0 9 rfl) rfl rfl ?_
  refine x_putF (C' := (xup A (20, g) (.inr (0, (updV (updV (updV (fG0 .null .null 0) 3 (.int 0)) 0 (.ref a)) 1 (.ref b)))))) X hinX0 tyX0 tyX0_ok nmX0 (20, g) (xup_at _ _ _) rfl 1 (by decide) (xw_at tW_8 33 rfl) rfl rfl hnm rfl rfl rfl rfl (fun q => (congrFun (xup_xup _ _ _ _) q).symm) (xdec_at tX0_init_0 10 rfl) ?_
  refine v_aload_n X (xdec_at tX0_init_0 11 rfl) rfl rfl ?_
  refine v_iload_n X (xdec_at tX0_init_0 12 rfl) rfl rfl ?_
  refine x_putF (C' := (xup A (20, g) (.inr (0, (updV (updV (updV (updV (fG0 .null .null 0) 3 (.int 0)) 0 (.ref a)) 1 (.ref b)) 2 (.int d)))))) X hinX0 tyX0 tyX0_ok nmX0 (20, g) (xup_at _ _ _) rfl 2 (by decide) (xw_at tW_8 36 rfl) rfl rfl hnm rfl rfl rfl rfl (fun q => (congrFun (xup_xup _ _ _ _) q).symm) (xdec_at tX0_init_0 13 rfl) ?_
  exact v_vret X hr (xdec_at tX0_init_0 14 rfl) (Nat.le_of_ble_eq_true rfl) (Nat.le_of_ble_eq_true rfl) ⟨rfl, rfl, congrArg (fun f => xup A (20, g) (.inr (0, f) : xE)) (funext fun j => by match j with | 0 => rfl | 1 => rfl | 2 => rfl | 3 => rfl | j + 4 => simp [updV, fG0])⟩
def fT0 (k : Int32) (o t : Value) (g lk rg : Int32) (h : Value) (c : Int32) : Nat → Value := fun j => match j with
  | 0 => .int k
  | 1 => o
  | 2 => .int g
  | 3 => .int lk
  | 4 => .int rg
  | 5 => t
  | 6 => o
  | 7 => .null
  | 8 => .int 0
  | 9 => .int 0
  | 10 => .int 0
  | 11 => .int 0
  | 12 => .int 0
  | 13 => h
  | 14 => .int c
  | _ => .null
set_option maxRecDepth 100000 in
set_option maxHeartbeats 4000000 in
theorem kyX3_init (l : Launch) (Z : xZ) (B0 : Nat) (lay : xK → Nat) (A : xK → Option xE) (t i b : Nat) (k g lk rg : Int32) (fp : Nat → Value) (hrg : rg = 0 ∨ rg = 1) (hn31 : A (31, t) = none) (hr2 : A (200, 0) = none) (hp : A (10, i) = some (.inr (1, fp))) (hp0 : fp 0 = .int (nI i)) : YM l yX3_init cX3_init 7 (none : Option FieldType) 4 130 1 8 Z B0 [.ref (lay (30, t)), .int k, .ref (lay (10, i)), .ref b, .int g, .int lk, .int rg] lay (xup A (30, t) (.inr (3, (fT0 0 .null .null 0 0 0 .null 0)))) (fun v9 lay' C' => v9 = none ∧ ∃ a, lay' = xlay lay (31, t) a ∧ C' = xup (xup A (31, t) (if rg = 0 then aI Z 0 (fun _ => 0) else aI Z 8 (upd (fun _ => 0) 0 (nI i)))) (30, t) (.inr (3, fT0 k (.ref (lay (10, i))) (.ref b) g lk rg (.ref a) (if rg = 0 then 0 else 1)))) := by
  refine YM_of myX3_init.2.2 RX3 rfl [some (.ref (lay (30, t))), some (.int k), some (.ref (lay (10, i))), some (.ref b), some (.int g), some (.int lk), some (.int rg)] rfl (Nat.le_of_ble_eq_true rfl) ?_
  intro P1 P2 P3 P4 P5 P6 P7 P8 X hr hnm
  refine v_aload_n X (xdec_at tX3_init_0 0 rfl) rfl rfl ?_
  refine v_objInit X (xw_at tW_12 21 rfl) ⟨(Nat.le_of_ble_eq_true rfl), (Nat.le_of_ble_eq_true rfl)⟩ (xdec_at tX3_init_0 1 rfl) ?_
  refine v_aload_n X (xdec_at tX3_init_0 2 rfl) rfl rfl ?_
  refine v_null X (xdec_at tX3_init_0 3 rfl) ?_
  refine x_put (C' := (xup A (30, t) (.inr (3, (updV (fT0 0 .null .null 0 0 0 .null 0) 7 (.null)))))) X hinX3 tyX3 tyX3_ok nmX3 (30, t) (xup_at _ _ _) rfl 7 (by decide) (xw_at tW_12 35 rfl) rfl rfl rfl rfl rfl (fun q => (congrFun (xup_xup _ _ _ _) q).symm) (xdec_at tX3_init_0 4 rfl) ?_
  refine v_aload_n X (xdec_at tX3_init_0 5 rfl) rfl rfl ?_
  refine v_iconst (v := 0) X (xdec_at tX3_init_0 6 rfl) (by decide) ?_
  refine x_put (C' := (xup A (30, t) (.inr (3, (updV (updV (fT0 0 .null .null 0 0 0 .null 0) 7 (.null)) 8 (.int 0)))))) X hinX3 tyX3 tyX3_ok nmX3 (30, t) (xup_at _ _ _) rfl 8 (by decide) (xw_at tW_12 37 rfl) rfl rfl rfl rfl rfl (fun q => (congrFun (xup_xup _ _ _ _) q).symm) (xdec_at tX3_init_0 7 rfl) ?_
  refine v_aload_n X (xdec_at tX3_init_0 8 rfl) rfl rfl ?_
  refine v_iconst (v := 0) X (xdec_at tX3_init_0 9 rfl) (by decide) ?_
  refine x_put (C' := (xup A (30, t) (.inr (3, (updV (updV (updV (fT0 0 .null .null 0 0 0 .null 0) 7 (.null)) 8 (.int 0)) 9 (.int 0)))))) X hinX3 tyX3 tyX3_ok nmX3 (30, t) (xup_at _ _ _) rfl 9 (by decide) (xw_at tW_12 39 rfl) rfl rfl rfl rfl rfl (fun q => (congrFun (xup_xup _ _ _ _) q).symm) (xdec_at tX3_init_0 10 rfl) ?_
  refine v_aload_n X (xdec_at tX3_init_0 11 rfl) rfl rfl ?_
  refine v_iconst (v := 0) X (xdec_at tX3_init_0 12 rfl) (by decide) ?_
  refine x_put (C' := (xup A (30, t) (.inr (3, (updV (updV (updV (updV (fT0 0 .null .null 0 0 0 .null 0) 7 (.null)) 8 (.int 0)) 9 (.int 0)) 10 (.int 0)))))) X hinX3 tyX3 tyX3_ok nmX3 (30, t) (xup_at _ _ _) rfl 10 (by decide) (xw_at tW_13 1 rfl) rfl rfl rfl rfl rfl (fun q => (congrFun (xup_xup _ _ _ _) q).symm) (xdec_at tX3_init_0 13 rfl) ?_
  refine v_aload_n X (xdec_at tX3_init_0 14 rfl) rfl rfl ?_
  refine v_iconst (v := 0) X (xdec_at tX3_init_0 15 rfl) (by decide) ?_
  refine x_put (C' := (xup A (30, t) (.inr (3, (updV (updV (updV (updV (updV (fT0 0 .null .null 0 0 0 .null 0) 7 (.null)) 8 (.int 0)) 9 (.int 0)) 10 (.int 0)) 11 (.int 0)))))) X hinX3 tyX3 tyX3_ok nmX3 (30, t) (xup_at _ _ _) rfl 11 (by decide) (xw_at tW_13 3 rfl) rfl rfl rfl rfl rfl (fun q => (congrFun (xup_xup _ _ _ _) q).symm) (xdec_at tX3_init_0 16 rfl) ?_
  refine v_aload_n X (xdec_at tX3_init_0 17 rfl) rfl rfl ?_
  refine v_iconst (v := 0) X (xdec_at tX3_init_0 18 rfl) (by decide) ?_
  refine x_put (C' := (xup A (30, t) (.inr (3, (updV (updV (updV (updV (updV (updV (fT0 0 .null .null 0 0 0 .null 0) 7 (.null)) 8 (.int 0)) 9 (.int 0)) 10 (.int 0)) 11 (.int 0)) 12 (.int 0)))))) X hinX3 tyX3 tyX3_ok nmX3 (30, t) (xup_at _ _ _) rfl 12 (by decide) (xw_at tW_13 5 rfl) rfl rfl rfl rfl rfl (fun q => (congrFun (xup_xup _ _ _ _) q).symm) (xdec_at tX3_init_0 19 rfl) ?_
  refine v_aload_n X (xdec_at tX3_init_0 20 rfl) rfl rfl ?_
  refine v_iconst (v := 0) X (xdec_at tX3_init_0 21 rfl) (by decide) ?_
  refine x_put (C' := (xup A (30, t) (.inr (3, (updV (updV (updV (updV (updV (updV (updV (fT0 0 .null .null 0 0 0 .null 0) 7 (.null)) 8 (.int 0)) 9 (.int 0)) 10 (.int 0)) 11 (.int 0)) 12 (.int 0)) 14 (.int 0)))))) X hinX3 tyX3 tyX3_ok nmX3 (30, t) (xup_at _ _ _) rfl 14 (by decide) (xw_at tW_13 9 rfl) rfl rfl rfl rfl rfl (fun q => (congrFun (xup_xup _ _ _ _) q).symm) (xdec_at tX3_init_0 22 rfl) ?_
  refine v_aload_n X (xdec_at tX3_init_0 23 rfl) rfl rfl ?_
  refine v_iload_n X (xdec_at tX3_init_0 24 rfl) rfl rfl ?_
  refine x_putF (C' := (xup A (30, t) (.inr (3, (updV (updV (updV (updV (updV (updV (updV (updV (fT0 0 .null .null 0 0 0 .null 0) 7 (.null)) 8 (.int 0)) 9 (.int 0)) 10 (.int 0)) 11 (.int 0)) 12 (.int 0)) 14 (.int 0)) 0 (.int k)))))) X hinX3 tyX3 tyX3_ok nmX3 (30, t) (xup_at _ _ _) rfl 0 (by decide) (xw_at tW_12 22 rfl) rfl rfl hnm rfl rfl rfl rfl (fun q => (congrFun (xup_xup _ _ _ _) q).symm) (xdec_at tX3_init_0 25 rfl) ?_
  refine v_aload_n X (xdec_at tX3_init_0 26 rfl) rfl rfl ?_
  refine v_aload_n X (xdec_at tX3_init_0 27 rfl) rfl rfl ?_
  refine x_putF (C' := (xup A (30, t) (.inr (3, (updV (updV (updV (updV (updV (updV (updV (updV (updV (fT0 0 .null .null 0 0 0 .null 0) 7 (.null)) 8 (.int 0)) 9 (.int 0)) 10 (.int 0)) 11 (.int 0)) 12 (.int 0)) 14 (.int 0)) 0 (.int k)) 1 (.ref (lay (10, i)))))))) X hinX3 tyX3 tyX3_ok nmX3 (30, t) (xup_at _ _ _) rfl 1 (by decide) (xw_at tW_12 24 rfl) rfl rfl hnm rfl rfl rfl rfl (fun q => (congrFun (xup_xup _ _ _ _) q).symm) (xdec_at tX3_init_0 28 rfl) ?_
  refine v_aload_n X (xdec_at tX3_init_0 29 rfl) rfl rfl ?_
  refine v_aload_n X (xdec_at tX3_init_0 30 rfl) rfl rfl ?_
  refine x_put (C' := (xup A (30, t) (.inr (3, (updV (updV (updV (updV (updV (updV (updV (updV (updV (updV (fT0 0 .null .null 0 0 0 .null 0) 7 (.null)) 8 (.int 0)) 9 (.int 0)) 10 (.int 0)) 11 (.int 0)) 12 (.int 0)) 14 (.int 0)) 0 (.int k)) 1 (.ref (lay (10, i)))) 5 (.ref b)))))) X hinX3 tyX3 tyX3_ok nmX3 (30, t) (xup_at _ _ _) rfl 5 (by decide) (xw_at tW_12 31 rfl) rfl rfl rfl rfl rfl (fun q => (congrFun (xup_xup _ _ _ _) q).symm) (xdec_at tX3_init_0 31 rfl) ?_
  refine v_aload_n X (xdec_at tX3_init_0 32 rfl) rfl rfl ?_
  refine v_aload_n X (xdec_at tX3_init_0 33 rfl) rfl rfl ?_
  refine x_put (C' := (xup A (30, t) (.inr (3, (updV (updV (updV (updV (updV (updV (updV (updV (updV (updV (updV (fT0 0 .null .null 0 0 0 .null 0) 7 (.null)) 8 (.int 0)) 9 (.int 0)) 10 (.int 0)) 11 (.int 0)) 12 (.int 0)) 14 (.int 0)) 0 (.int k)) 1 (.ref (lay (10, i)))) 5 (.ref b)) 6 (.ref (lay (10, i)))))))) X hinX3 tyX3 tyX3_ok nmX3 (30, t) (xup_at _ _ _) rfl 6 (by decide) (xw_at tW_12 33 rfl) rfl rfl rfl rfl rfl (fun q => (congrFun (xup_xup _ _ _ _) q).symm) (xdec_at tX3_init_0 34 rfl) ?_
  refine v_aload_n X (xdec_at tX3_init_0 35 rfl) rfl rfl ?_
  refine v_iload X (xdec_at tX3_init_0 36 rfl) rfl ?_
  refine x_putF (C' := (xup A (30, t) (.inr (3, (updV (updV (updV (updV (updV (updV (updV (updV (updV (updV (updV (updV (fT0 0 .null .null 0 0 0 .null 0) 7 (.null)) 8 (.int 0)) 9 (.int 0)) 10 (.int 0)) 11 (.int 0)) 12 (.int 0)) 14 (.int 0)) 0 (.int k)) 1 (.ref (lay (10, i)))) 5 (.ref b)) 6 (.ref (lay (10, i)))) 2 (.int g)))))) X hinX3 tyX3 tyX3_ok nmX3 (30, t) (xup_at _ _ _) rfl 2 (by decide) (xw_at tW_12 26 rfl) rfl rfl hnm rfl rfl rfl rfl (fun q => (congrFun (xup_xup _ _ _ _) q).symm) (xdec_at tX3_init_0 37 rfl) ?_
  refine v_aload_n X (xdec_at tX3_init_0 38 rfl) rfl rfl ?_
  refine v_iload X (xdec_at tX3_init_0 39 rfl) rfl ?_
  refine x_putF (C' := (xup A (30, t) (.inr (3, (updV (updV (updV (updV (updV (updV (updV (updV (updV (updV (updV (updV (updV (fT0 0 .null .null 0 0 0 .null 0) 7 (.null)) 8 (.int 0)) 9 (.int 0)) 10 (.int 0)) 11 (.int 0)) 12 (.int 0)) 14 (.int 0)) 0 (.int k)) 1 (.ref (lay (10, i)))) 5 (.ref b)) 6 (.ref (lay (10, i)))) 2 (.int g)) 3 (.int lk)))))) X hinX3 tyX3 tyX3_ok nmX3 (30, t) (xup_at _ _ _) rfl 3 (by decide) (xw_at tW_12 28 rfl) rfl rfl hnm rfl rfl rfl rfl (fun q => (congrFun (xup_xup _ _ _ _) q).symm) (xdec_at tX3_init_1 0 rfl) ?_
  refine v_aload_n X (xdec_at tX3_init_1 1 rfl) rfl rfl ?_
  refine v_iload X (xdec_at tX3_init_1 2 rfl) rfl ?_
  refine x_putF (C' := (xup A (30, t) (.inr (3, (updV (updV (updV (updV (updV (updV (updV (updV (updV (updV (updV (updV (updV (updV (fT0 0 .null .null 0 0 0 .null 0) 7 (.null)) 8 (.int 0)) 9 (.int 0)) 10 (.int 0)) 11 (.int 0)) 12 (.int 0)) 14 (.int 0)) 0 (.int k)) 1 (.ref (lay (10, i)))) 5 (.ref b)) 6 (.ref (lay (10, i)))) 2 (.int g)) 3 (.int lk)) 4 (.int rg)))))) X hinX3 tyX3 tyX3_ok nmX3 (30, t) (xup_at _ _ _) rfl 4 (by decide) (xw_at tW_12 29 rfl) rfl rfl hnm rfl (nb01 hrg) (by rcases hrg with h9 | h9 <;> rw [h9] <;> rfl) rfl (fun q => (congrFun (xup_xup _ _ _ _) q).symm) (xdec_at tX3_init_1 3 rfl) ?_
  refine v_aload_n X (xdec_at tX3_init_1 4 rfl) rfl rfl ?_
  refine v_iload X (xdec_at tX3_init_1 5 rfl) rfl ?_
  refine v_if_eq (tgt := 88) X (xdec_at tX3_init_1 6 rfl) (by decide) (fun c_80 => ?_) (fun c_80 => ?_)
  · refine v_iconst (v := 0) X (xdec_at tX3_init_1 9 rfl) (by decide) ?_
    refine x_newi X (31, t) (by simp [xup, hn31]) (N := 0) (by decide) (by decide) (by decide) ⟨(Nat.le_of_ble_eq_true rfl), (Nat.le_of_ble_eq_true rfl)⟩ (xdec_at tX3_init_1 10 rfl) fun a1 _ => ?_
    refine x_put (C' := xup (xup A (31, t) (.inl (Z.2 0, 0, .inl (fun _ => 0)))) (30, t) (.inr (3, updV (updV (updV (updV (updV (updV (updV (updV (updV (updV (updV (updV (updV (updV (updV (fT0 0 .null .null 0 0 0 .null 0) 7 (.null)) 8 (.int 0)) 9 (.int 0)) 10 (.int 0)) 11 (.int 0)) 12 (.int 0)) 14 (.int 0)) 0 (.int k)) 1 (.ref (lay (10, i)))) 5 (.ref b)) 6 (.ref (lay (10, i)))) 2 (.int g)) 3 (.int lk)) 4 (.int rg)) 13 (.ref a1)))) X hinX3 tyX3 tyX3_ok nmX3 (30, t) ((xup_ne _ _ (by simp)).trans (xup_at _ _ _)) rfl 13 (by decide) (xw_at tW_13 7 rfl) rfl rfl rfl rfl (by simp [xlay]) (xup_swp (by simp) _ _ _) (xdec_at tX3_init_1 11 rfl) ?_
    refine v_aload_n X (xdec_at tX3_init_1 12 rfl) rfl rfl ?_
    have e9 : (xup (xup A (31, t) (.inl (Z.2 0, 0, .inl (fun _ => 0)))) (30, t) (.inr (3, (updV (updV (updV (updV (updV (updV (updV (updV (updV (updV (updV (updV (updV (updV (updV (fT0 0 .null .null 0 0 0 .null 0) 7 (.null)) 8 (.int 0)) 9 (.int 0)) 10 (.int 0)) 11 (.int 0)) 12 (.int 0)) 14 (.int 0)) 0 (.int k)) 1 (.ref (lay (10, i)))) 5 (.ref b)) 6 (.ref (lay (10, i)))) 2 (.int g)) 3 (.int lk)) 4 (.int rg)) 13 (.ref a1))))) = xup (xup A (31, t) (.inl (Z.2 0, 0, .inl (fun _ => 0)))) (30, t) (.inr (3, fT0 k (.ref (lay (10, i))) (.ref b) g lk rg (.ref a1) 0)) := congrArg (fun f => xup _ (30, t) (.inr (3, f) : xE)) (funext fun j => by match j with | 0 => rfl | 1 => rfl | 2 => rfl | 3 => rfl | 4 => rfl | 5 => rfl | 6 => rfl | 7 => rfl | 8 => rfl | 9 => rfl | 10 => rfl | 11 => rfl | 12 => rfl | 13 => rfl | 14 => rfl | j + 15 => simp [updV, fT0])
    rw [e9]
    have l30 : xlay lay (31, t) a1 (30, t) = lay (30, t) := by simp [xlay]
    have l10 : xlay lay (31, t) a1 (10, i) = lay (10, i) := by simp [xlay]
    rw [← l30]
    refine v_callV X myX3_sign [] [] (kyX3_sign l Z B0 (xlay lay (31, t) a1) (xup (xup A (31, t) (.inl (Z.2 0, 0, .inl (fun _ => 0)))) (30, t) (.inr (3, fT0 k (.ref (lay (10, i))) (.ref b) g lk rg (.ref a1) 0))) t i 0 0 (fT0 k (.ref (lay (10, i))) (.ref b) g lk rg (.ref a1) 0) fp (fun _ => 0) rg (xup_at _ _ _) (by simp [xup]) (by simp [xup, hp]) hp0 rfl rfl (by show Value.ref a1 = _; simp [xlay]) (by rw [l10]; rfl) (by simp [xup, hr2]) (Nat.zero_le _) (by decide) (by decide) (fun z => absurd c_80 z) 0 0 (fun z => absurd c_80 z)) (xw_at tW_10 14 rfl) (30, t) (xup_at _ _ _) rfl rfl rfl rfl (by rfl) (Nat.le_of_ble_eq_true rfl) (xdec_at tX3_init_1 13 rfl) ⟨(Nat.le_of_ble_eq_true rfl), (Nat.le_of_ble_eq_true rfl)⟩ ⟨(Nat.le_of_ble_eq_true rfl), (Nat.le_of_ble_eq_true rfl)⟩ ?_
    rintro v9 lay9 C9 ⟨rfl, h9⟩
    rcases h9 with ⟨-, rfl, rfl⟩ | ⟨z, -⟩ | ⟨z, -⟩
    · refine v_le (lv' := [none, none, none, none, none, none, none]) (by simp [xle]) ?_
      exact v_vret X hr (xdec_at tX3_init_1 14 rfl) (Nat.le_of_ble_eq_true rfl) (Nat.le_of_ble_eq_true rfl) ⟨rfl, a1, rfl, by rw [if_pos c_80, if_pos c_80]; rfl⟩
    · exact absurd c_80 z
    · exact absurd c_80 z
  · refine v_bipush (v := 8) X (xdec_at tX3_init_1 7 rfl) (by decide) ?_
    refine v_goto (tgt := 89) X (xdec_at tX3_init_1 8 rfl) (by decide) ?_
    refine x_newi X (31, t) (by simp [xup, hn31]) (N := 8) (by decide) (by decide) (by decide) ⟨(Nat.le_of_ble_eq_true rfl), (Nat.le_of_ble_eq_true rfl)⟩ (xdec_at tX3_init_1 10 rfl) fun a1 _ => ?_
    refine x_put (C' := xup (xup A (31, t) (.inl (Z.2 0, 8, .inl (fun _ => 0)))) (30, t) (.inr (3, updV (updV (updV (updV (updV (updV (updV (updV (updV (updV (updV (updV (updV (updV (updV (fT0 0 .null .null 0 0 0 .null 0) 7 (.null)) 8 (.int 0)) 9 (.int 0)) 10 (.int 0)) 11 (.int 0)) 12 (.int 0)) 14 (.int 0)) 0 (.int k)) 1 (.ref (lay (10, i)))) 5 (.ref b)) 6 (.ref (lay (10, i)))) 2 (.int g)) 3 (.int lk)) 4 (.int rg)) 13 (.ref a1)))) X hinX3 tyX3 tyX3_ok nmX3 (30, t) ((xup_ne _ _ (by simp)).trans (xup_at _ _ _)) rfl 13 (by decide) (xw_at tW_13 7 rfl) rfl rfl rfl rfl (by simp [xlay]) (xup_swp (by simp) _ _ _) (xdec_at tX3_init_1 11 rfl) ?_
    refine v_aload_n X (xdec_at tX3_init_1 12 rfl) rfl rfl ?_
    have e9 : (xup (xup A (31, t) (.inl (Z.2 0, 8, .inl (fun _ => 0)))) (30, t) (.inr (3, (updV (updV (updV (updV (updV (updV (updV (updV (updV (updV (updV (updV (updV (updV (updV (fT0 0 .null .null 0 0 0 .null 0) 7 (.null)) 8 (.int 0)) 9 (.int 0)) 10 (.int 0)) 11 (.int 0)) 12 (.int 0)) 14 (.int 0)) 0 (.int k)) 1 (.ref (lay (10, i)))) 5 (.ref b)) 6 (.ref (lay (10, i)))) 2 (.int g)) 3 (.int lk)) 4 (.int rg)) 13 (.ref a1))))) = xup (xup A (31, t) (.inl (Z.2 0, 8, .inl (fun _ => 0)))) (30, t) (.inr (3, fT0 k (.ref (lay (10, i))) (.ref b) g lk rg (.ref a1) 0)) := congrArg (fun f => xup _ (30, t) (.inr (3, f) : xE)) (funext fun j => by match j with | 0 => rfl | 1 => rfl | 2 => rfl | 3 => rfl | 4 => rfl | 5 => rfl | 6 => rfl | 7 => rfl | 8 => rfl | 9 => rfl | 10 => rfl | 11 => rfl | 12 => rfl | 13 => rfl | 14 => rfl | j + 15 => simp [updV, fT0])
    rw [e9]
    have l30 : xlay lay (31, t) a1 (30, t) = lay (30, t) := by simp [xlay]
    have l10 : xlay lay (31, t) a1 (10, i) = lay (10, i) := by simp [xlay]
    rw [← l30]
    refine v_callV X myX3_sign [] [] (kyX3_sign l Z B0 (xlay lay (31, t) a1) (xup (xup A (31, t) (.inl (Z.2 0, 8, .inl (fun _ => 0)))) (30, t) (.inr (3, fT0 k (.ref (lay (10, i))) (.ref b) g lk rg (.ref a1) 0))) t i 0 8 (fT0 k (.ref (lay (10, i))) (.ref b) g lk rg (.ref a1) 0) fp (fun _ => 0) rg (xup_at _ _ _) (by simp [xup]) (by simp [xup, hp]) hp0 rfl rfl (by show Value.ref a1 = _; simp [xlay]) (by rw [l10]; rfl) (by simp [xup, hr2]) (Nat.zero_le _) (by decide) (by decide) (fun _ => by decide) 0 0 (fun _ z => absurd z (by decide))) (xw_at tW_10 14 rfl) (30, t) (xup_at _ _ _) rfl rfl rfl rfl (by rfl) (Nat.le_of_ble_eq_true rfl) (xdec_at tX3_init_1 13 rfl) ⟨(Nat.le_of_ble_eq_true rfl), (Nat.le_of_ble_eq_true rfl)⟩ ⟨(Nat.le_of_ble_eq_true rfl), (Nat.le_of_ble_eq_true rfl)⟩ ?_
    rintro v9 lay9 C9 ⟨rfl, h9⟩
    rcases h9 with ⟨z, -⟩ | ⟨-, -, rfl, rfl⟩ | ⟨-, z, -⟩
    · exact absurd z c_80
    · refine v_le (lv' := [none, none, none, none, none, none, none]) (by simp [xle]) ?_
      refine v_vret X hr (xdec_at tX3_init_1 14 rfl) (Nat.le_of_ble_eq_true rfl) (Nat.le_of_ble_eq_true rfl) ⟨rfl, a1, rfl, ?_⟩
      rw [if_neg c_80, if_neg c_80]
      have e8 : updV (fT0 k (.ref (lay (10, i))) (.ref b) g lk rg (.ref a1) 0) 14 (.int (nI (0 + 1))) = fT0 k (.ref (lay (10, i))) (.ref b) g lk rg (.ref a1) 1 := (funext fun j => by match j with | 0 => rfl | 1 => rfl | 2 => rfl | 3 => rfl | 4 => rfl | 5 => rfl | 6 => rfl | 7 => rfl | 8 => rfl | 9 => rfl | 10 => rfl | 11 => rfl | 12 => rfl | 13 => rfl | 14 => rfl | j + 15 => simp [updV, fT0])
      rw [e8]
      funext q
      unfold xup aI
      by_cases h1 : q = (30, t)
      · rw [if_pos h1, if_pos h1]
      · rw [if_neg h1, if_neg h1]
        by_cases h2 : q = (31, t)
        · rw [if_pos h2, if_pos h2, if_neg h1]
        · rw [if_neg h2, if_neg h2, if_neg h1, if_neg h2]
    · exact absurd z (by decide)
