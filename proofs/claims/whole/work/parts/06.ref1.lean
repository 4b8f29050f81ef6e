set_option maxRecDepth 100000 in
set_option maxHeartbeats 4000000 in
theorem c_in (l : Launch) (Z : xZ) (B0 : Nat) (lay : xK → Nat) (C : xK → Option xE) (a b c : Int32) : YM l yX5_in cX5_in 3 ((some FieldType.boolean)) 0 0 0 0 Z B0 [.int a, .int b, .int c] lay C (fun v lay' C' => lay = lay' ∧ C = C' ∧ ((v = some (.int 1) ∧ inR a b c) ∨ (v = some (.int 0) ∧ ¬ inR a b c))) := by
  refine YM_of myX5_in.2 RX5 rfl [some (.int a), some (.int b), some (.int c)] rfl (Nat.le_of_ble_eq_true rfl) ?_
  intro P1 P2 P3 P4 P5 P6 P7 P8 X hr hnm
  refine v_iload_n X (xdec_at tX5_in_0 0 rfl) rfl rfl ?_
  refine v_iload_n X (xdec_at tX5_in_0 1 rfl) rfl rfl ?_
  refine v_icmp_lt (tgt := 14) X (xdec_at tX5_in_0 2 rfl) (by decide) (fun c_2 => ?_) (fun c_2 => ?_)
  · refine v_iconst (v := 0) X (xdec_at tX5_in_0 8 rfl) (by decide) ?_
    exact v_zret X hr (xdec_at tX5_in_0 9 rfl) (Nat.le_of_ble_eq_true rfl) (Nat.le_of_ble_eq_true rfl) (by rfl) ⟨rfl, rfl, Or.inr ⟨rfl, by exact fun q => absurd q.1 (Int32.not_le.mpr c_2)⟩⟩
  · refine v_iload_n X (xdec_at tX5_in_0 3 rfl) rfl rfl ?_
    refine v_iload_n X (xdec_at tX5_in_0 4 rfl) rfl rfl ?_
    refine v_icmp_gt (tgt := 14) X (xdec_at tX5_in_0 5 rfl) (by decide) (fun c_7 => ?_) (fun c_7 => ?_)
    · refine v_iconst (v := 0) X (xdec_at tX5_in_0 8 rfl) (by decide) ?_
      exact v_zret X hr (xdec_at tX5_in_0 9 rfl) (Nat.le_of_ble_eq_true rfl) (Nat.le_of_ble_eq_true rfl) (by rfl) ⟨rfl, rfl, Or.inr ⟨rfl, by exact fun q => absurd q.2 (Int32.not_le.mpr c_7)⟩⟩
    · refine v_iconst (v := 1) X (xdec_at tX5_in_0 6 rfl) (by decide) ?_
      refine v_goto (tgt := 15) X (xdec_at tX5_in_0 7 rfl) (by decide) ?_
      exact v_zret X hr (xdec_at tX5_in_0 9 rfl) (Nat.le_of_ble_eq_true rfl) (Nat.le_of_ble_eq_true rfl) (by rfl) ⟨rfl, rfl, Or.inl ⟨rfl, by exact ⟨Int32.not_lt.mp c_2, Int32.not_lt.mp c_7⟩⟩⟩
set_option maxRecDepth 100000 in
set_option maxHeartbeats 4000000 in
theorem c_isPost (l : Launch) (Z : xZ) (B0 : Nat) (lay : xK → Nat) (μ : Mu) (r : xK → Option xE) (a : Int32) : YM l yX5_isPost cX5_isPost 2 ((some FieldType.boolean)) 1 22 0 0 Z B0 [.ref (lay (100, 0)), .int a] lay (cM Z lay μ r) (fun v lay' C' => lay = lay' ∧ C' = cM Z lay μ r ∧ ((v = some (.int 1) ∧ isP μ a) ∨ (v = some (.int 0) ∧ ¬ isP μ a))) := by
  refine YM_of myX5_isPost.2.2 RX5 rfl [some (.ref (lay (100, 0))), some (.int a)] rfl (Nat.le_of_ble_eq_true rfl) ?_
  intro P1 P2 P3 P4 P5 P6 P7 P8 X hr hnm
  refine v_iload_n X (xdec_at tX5_isPost_0 0 rfl) rfl rfl ?_
  refine v_iconst (v := 0) X (xdec_at tX5_isPost_0 1 rfl) (by decide) ?_
  refine v_aload_n X (xdec_at tX5_isPost_0 2 rfl) rfl rfl ?_
  refine r_S (v := (μ.1 0 0)) X 0 (by decide) rfl rfl (xdec_at tX5_isPost_0 3 rfl) rfl ?_
  refine v_iconst (v := 1) X (xdec_at tX5_isPost_0 4 rfl) (by decide) ?_
  refine v_isub X (xdec_at tX5_isPost_0 5 rfl) ?_
  refine v_callS X myX5_in [.int a, .int 0, .int ((μ.1 0 0) - 1)] [] (c_in l Z B0 lay (cM Z lay μ r) a 0 ((μ.1 0 0) - 1)) (xw_at tW_18 1 rfl) rfl rfl (by rfl) (Nat.le_of_ble_eq_true rfl) (xdec_at tX5_isPost_0 6 rfl) ⟨(Nat.le_of_ble_eq_true rfl), (Nat.le_of_ble_eq_true rfl)⟩ ⟨(Nat.le_of_ble_eq_true rfl), (Nat.le_of_ble_eq_true rfl)⟩ ?_
  rintro v9 lay9 C9 ⟨rfl, rfl, ⟨rfl, q_8⟩ | ⟨rfl, q_8⟩⟩
  · exact v_zret X hr (xdec_at tX5_isPost_0 7 rfl) (Nat.le_of_ble_eq_true rfl) (Nat.le_of_ble_eq_true rfl) (by rfl) ⟨rfl, rfl, Or.inl ⟨rfl, q_8⟩⟩
  · exact v_zret X hr (xdec_at tX5_isPost_0 7 rfl) (Nat.le_of_ble_eq_true rfl) (Nat.le_of_ble_eq_true rfl) (by rfl) ⟨rfl, rfl, Or.inr ⟨rfl, q_8⟩⟩
set_option maxRecDepth 100000 in
set_option maxHeartbeats 4000000 in
theorem c_isThing (l : Launch) (Z : xZ) (B0 : Nat) (lay : xK → Nat) (μ : Mu) (r : xK → Option xE) (a : Int32) : YM l yX5_isThing cX5_isThing 2 ((some FieldType.boolean)) 1 22 0 0 Z B0 [.ref (lay (100, 0)), .int a] lay (cM Z lay μ r) (fun v lay' C' => lay = lay' ∧ C' = cM Z lay μ r ∧ ((v = some (.int 1) ∧ isT μ a) ∨ (v = some (.int 0) ∧ ¬ isT μ a))) := by
  refine YM_of myX5_isThing.2.2 RX5 rfl [some (.ref (lay (100, 0))), some (.int a)] rfl (Nat.le_of_ble_eq_true rfl) ?_
  intro P1 P2 P3 P4 P5 P6 P7 P8 X hr hnm
  refine v_iload_n X (xdec_at tX5_isThing_0 0 rfl) rfl rfl ?_
  refine v_iconst (v := 0) X (xdec_at tX5_isThing_0 1 rfl) (by decide) ?_
  refine v_aload_n X (xdec_at tX5_isThing_0 2 rfl) rfl rfl ?_
  refine r_S (v := (μ.1 16 0)) X 16 (by decide) rfl rfl (xdec_at tX5_isThing_0 3 rfl) rfl ?_
  refine v_iconst (v := 1) X (xdec_at tX5_isThing_0 4 rfl) (by decide) ?_
  refine v_isub X (xdec_at tX5_isThing_0 5 rfl) ?_
  refine v_callS X myX5_in [.int a, .int 0, .int ((μ.1 16 0) - 1)] [] (c_in l Z B0 lay (cM Z lay μ r) a 0 ((μ.1 16 0) - 1)) (xw_at tW_18 1 rfl) rfl rfl (by rfl) (Nat.le_of_ble_eq_true rfl) (xdec_at tX5_isThing_0 6 rfl) ⟨(Nat.le_of_ble_eq_true rfl), (Nat.le_of_ble_eq_true rfl)⟩ ⟨(Nat.le_of_ble_eq_true rfl), (Nat.le_of_ble_eq_true rfl)⟩ ?_
  rintro v9 lay9 C9 ⟨rfl, rfl, ⟨rfl, q_8⟩ | ⟨rfl, q_8⟩⟩
  · exact v_zret X hr (xdec_at tX5_isThing_0 7 rfl) (Nat.le_of_ble_eq_true rfl) (Nat.le_of_ble_eq_true rfl) (by rfl) ⟨rfl, rfl, Or.inl ⟨rfl, q_8⟩⟩
  · exact v_zret X hr (xdec_at tX5_isThing_0 7 rfl) (Nat.le_of_ble_eq_true rfl) (Nat.le_of_ble_eq_true rfl) (by rfl) ⟨rfl, rfl, Or.inr ⟨rfl, q_8⟩⟩
set_option maxRecDepth 100000 in
set_option maxHeartbeats 4000000 in
theorem c_isKind (l : Launch) (Z : xZ) (B0 : Nat) (lay : xK → Nat) (C : xK → Option xE) (a : Int32) : YM l yX5_isKind cX5_isKind 1 ((some FieldType.boolean)) 1 22 0 0 Z B0 [.int a] lay C (fun v lay' C' => lay = lay' ∧ C = C' ∧ ((v = some (.int 1) ∧ isK a) ∨ (v = some (.int 0) ∧ ¬ isK a))) := by
  refine YM_of myX5_isKind.2 RX5 rfl [some (.int a)] rfl (Nat.le_of_ble_eq_true rfl) ?_
  intro P1 P2 P3 P4 P5 P6 P7 P8 X hr hnm
  refine v_iload_n X (xdec_at tX5_isKind_0 0 rfl) rfl rfl ?_
  refine v_iconst (v := 0) X (xdec_at tX5_isKind_0 1 rfl) (by decide) ?_
  refine v_iconst (v := 2) X (xdec_at tX5_isKind_0 2 rfl) (by decide) ?_
  refine v_callS X myX5_in [.int a, .int 0, .int 2] [] (c_in l Z B0 lay C a 0 2) (xw_at tW_18 1 rfl) rfl rfl (by rfl) (Nat.le_of_ble_eq_true rfl) (xdec_at tX5_isKind_0 3 rfl) ⟨(Nat.le_of_ble_eq_true rfl), (Nat.le_of_ble_eq_true rfl)⟩ ⟨(Nat.le_of_ble_eq_true rfl), (Nat.le_of_ble_eq_true rfl)⟩ ?_
  rintro v9 lay9 C9 ⟨rfl, rfl, ⟨rfl, q_3⟩ | ⟨rfl, q_3⟩⟩
  · exact v_zret X hr (xdec_at tX5_isKind_0 4 rfl) (Nat.le_of_ble_eq_true rfl) (Nat.le_of_ble_eq_true rfl) (by rfl) ⟨rfl, rfl, Or.inl ⟨rfl, q_3⟩⟩
  · exact v_zret X hr (xdec_at tX5_isKind_0 4 rfl) (Nat.le_of_ble_eq_true rfl) (Nat.le_of_ble_eq_true rfl) (by rfl) ⟨rfl, rfl, Or.inr ⟨rfl, q_3⟩⟩
set_option maxRecDepth 100000 in
set_option maxHeartbeats 4000000 in
theorem c_areGrams (l : Launch) (Z : xZ) (B0 : Nat) (lay : xK → Nat) (C : xK → Option xE) (a b : Int32) : YM l yX5_areGrams cX5_areGrams 2 ((some FieldType.boolean)) 1 22 0 0 Z B0 [.int a, .int b] lay C (fun v lay' C' => lay = lay' ∧ C = C' ∧ ((v = some (.int 1) ∧ arG a b) ∨ (v = some (.int 0) ∧ ¬ arG a b))) := by
  refine YM_of myX5_areGrams.2 RX5 rfl [some (.int a), some (.int b)] rfl (Nat.le_of_ble_eq_true rfl) ?_
  intro P1 P2 P3 P4 P5 P6 P7 P8 X hr hnm
  refine v_iload_n X (xdec_at tX5_areGrams_0 0 rfl) rfl rfl ?_
  refine v_iconst (v := 1) X (xdec_at tX5_areGrams_0 1 rfl) (by decide) ?_
  refine v_iload_n X (xdec_at tX5_areGrams_0 2 rfl) rfl rfl ?_
  refine v_iconst (v := 1) X (xdec_at tX5_areGrams_0 3 rfl) (by decide) ?_
  refine v_icmp_ne (tgt := 12) X (xdec_at tX5_areGrams_0 4 rfl) (by decide) (fun c_4 => ?_) (fun c_4 => ?_)
  · refine v_sipush (v := 2000) X (xdec_at tX5_areGrams_0 7 rfl) (by decide) ?_
    refine v_callS X myX5_in [.int b, .int 1, .int 2000] [] (c_in l Z B0 lay C b 1 2000) (xw_at tW_18 1 rfl) rfl rfl (by rfl) (Nat.le_of_ble_eq_true rfl) (xdec_at tX5_areGrams_0 8 rfl) ⟨(Nat.le_of_ble_eq_true rfl), (Nat.le_of_ble_eq_true rfl)⟩ ⟨(Nat.le_of_ble_eq_true rfl), (Nat.le_of_ble_eq_true rfl)⟩ ?_
    rintro v9 lay9 C9 ⟨rfl, rfl, ⟨rfl, q_15⟩ | ⟨rfl, q_15⟩⟩
    · exact v_zret X hr (xdec_at tX5_areGrams_0 9 rfl) (Nat.le_of_ble_eq_true rfl) (Nat.le_of_ble_eq_true rfl) (by rfl) ⟨rfl, rfl, Or.inl ⟨rfl, by simpa [arG, c_4] using q_15⟩⟩
    · exact v_zret X hr (xdec_at tX5_areGrams_0 9 rfl) (Nat.le_of_ble_eq_true rfl) (Nat.le_of_ble_eq_true rfl) (by rfl) ⟨rfl, rfl, Or.inr ⟨rfl, by simpa [arG, c_4] using q_15⟩⟩
  · refine v_bipush (v := 20) X (xdec_at tX5_areGrams_0 5 rfl) (by decide) ?_
    refine v_goto (tgt := 15) X (xdec_at tX5_areGrams_0 6 rfl) (by decide) ?_
    refine v_callS X myX5_in [.int b, .int 1, .int 20] [] (c_in l Z B0 lay C b 1 20) (xw_at tW_18 1 rfl) rfl rfl (by rfl) (Nat.le_of_ble_eq_true rfl) (xdec_at tX5_areGrams_0 8 rfl) ⟨(Nat.le_of_ble_eq_true rfl), (Nat.le_of_ble_eq_true rfl)⟩ ⟨(Nat.le_of_ble_eq_true rfl), (Nat.le_of_ble_eq_true rfl)⟩ ?_
    rintro v9 lay9 C9 ⟨rfl, rfl, ⟨rfl, q_15⟩ | ⟨rfl, q_15⟩⟩
    · exact v_zret X hr (xdec_at tX5_areGrams_0 9 rfl) (Nat.le_of_ble_eq_true rfl) (Nat.le_of_ble_eq_true rfl) (by rfl) ⟨rfl, rfl, Or.inl ⟨rfl, by simpa [arG, (eq_true c_4)] using q_15⟩⟩
    · exact v_zret X hr (xdec_at tX5_areGrams_0 9 rfl) (Nat.le_of_ble_eq_true rfl) (Nat.le_of_ble_eq_true rfl) (by rfl) ⟨rfl, rfl, Or.inr ⟨rfl, by simpa [arG, (eq_true c_4)] using q_15⟩⟩
set_option maxRecDepth 100000 in
set_option maxHeartbeats 4000000 in
theorem c_thrown (l : Launch) (Z : xZ) (B0 : Nat) (lay : xK → Nat) (μ : Mu) (r : xK → Option xE)  : YM l yX5_thrown cX5_thrown 1 ((some FieldType.int)) 0 0 0 0 Z B0 [.ref (lay (100, 0))] lay (cM Z lay μ r) (fun v lay' C' => lay = lay' ∧ v = some (.int (μ.1 38 0)) ∧ C' = cM Z lay μ r) := by
  refine YM_of myX5_thrown.2.2 RX5 rfl [some (.ref (lay (100, 0)))] rfl (Nat.le_of_ble_eq_true rfl) ?_
  intro P1 P2 P3 P4 P5 P6 P7 P8 X hr hnm
  refine v_aload_n X (xdec_at tX5_thrown_0 0 rfl) rfl rfl ?_
  refine r_S (v := (μ.1 38 0)) X 38 (by decide) rfl rfl (xdec_at tX5_thrown_0 1 rfl) rfl ?_
  exact v_iret X hr (xdec_at tX5_thrown_0 2 rfl) (Nat.le_of_ble_eq_true rfl) (Nat.le_of_ble_eq_true rfl) ⟨rfl, rfl, rfl⟩
set_option maxRecDepth 100000 in
set_option maxHeartbeats 4000000 in
theorem c_fails (l : Launch) (Z : xZ) (B0 : Nat) (lay : xK → Nat) (μ : Mu) (r : xK → Option xE) (k : Int32) : YM l yX5_fails cX5_fails 2 ((some FieldType.int)) 0 0 0 0 Z B0 [.ref (lay (100, 0)), .int k] lay (cM Z lay μ r) (fun v lay' C' => lay = lay' ∧ v = some (.int 0) ∧ C' = cM Z lay (th μ k) r) := by
  refine YM_of myX5_fails.2.2 RX5 rfl [some (.ref (lay (100, 0))), some (.int k)] rfl (Nat.le_of_ble_eq_true rfl) ?_
  intro P1 P2 P3 P4 P5 P6 P7 P8 X hr hnm
  refine v_aload_n X (xdec_at tX5_fails_0 0 rfl) rfl rfl ?_
  refine v_iload_n X (xdec_at tX5_fails_0 1 rfl) rfl rfl ?_
  refine r_PS X 38 (by decide) rfl (by decide) rfl (xdec_at tX5_fails_0 2 rfl) ?_
  refine v_iconst (v := 0) X (xdec_at tX5_fails_0 3 rfl) (by decide) ?_
  exact v_iret X hr (xdec_at tX5_fails_0 4 rfl) (Nat.le_of_ble_eq_true rfl) (Nat.le_of_ble_eq_true rfl) ⟨rfl, rfl, rfl⟩
set_option maxRecDepth 100000 in
set_option maxHeartbeats 4000000 in
theorem c_asks1 (l : Launch) (Z : xZ) (B0 : Nat) (lay : xK → Nat) (μ : Mu) (r : xK → Option xE)  : YM l yX5_asks cX5_asks 2 ((some FieldType.boolean)) 0 0 0 0 Z B0 [.ref (lay (100, 0)), .int 1] lay (cM Z lay μ r) (fun v lay' C' => lay = lay' ∧ v = some (.int 1) ∧ C' = cM Z lay (th μ 0) r) := by
  refine YM_of myX5_asks.2.2 RX5 rfl [some (.ref (lay (100, 0))), some (.int 1)] rfl (Nat.le_of_ble_eq_true rfl) ?_
  intro P1 P2 P3 P4 P5 P6 P7 P8 X hr hnm
  refine v_aload_n X (xdec_at tX5_asks_0 0 rfl) rfl rfl ?_
  refine v_iload_n X (xdec_at tX5_asks_0 1 rfl) rfl rfl ?_
  refine v_if_eq (tgt := 9) X (xdec_at tX5_asks_0 2 rfl) (by decide) (fun h9 => absurd h9 (by decide)) (fun _ => ?_)
  refine v_iconst (v := 0) X (xdec_at tX5_asks_0 3 rfl) (by decide) ?_
  refine v_goto (tgt := 10) X (xdec_at tX5_asks_0 4 rfl) (by decide) ?_
  refine r_PS X 38 (by decide) rfl (by decide) rfl (xdec_at tX5_asks_0 6 rfl) ?_
  refine v_iload_n X (xdec_at tX5_asks_0 7 rfl) rfl rfl ?_
  exact v_zret X hr (xdec_at tX5_asks_0 8 rfl) (Nat.le_of_ble_eq_true rfl) (Nat.le_of_ble_eq_true rfl) (by rfl) ⟨rfl, rfl, rfl⟩
set_option maxRecDepth 100000 in
set_option maxHeartbeats 4000000 in
theorem c_asks0 (l : Launch) (Z : xZ) (B0 : Nat) (lay : xK → Nat) (μ : Mu) (r : xK → Option xE)  : YM l yX5_asks cX5_asks 2 ((some FieldType.boolean)) 0 0 0 0 Z B0 [.ref (lay (100, 0)), .int 0] lay (cM Z lay μ r) (fun v lay' C' => lay = lay' ∧ v = some (.int 0) ∧ C' = cM Z lay (th μ 1) r) := by
  refine YM_of myX5_asks.2.2 RX5 rfl [some (.ref (lay (100, 0))), some (.int 0)] rfl (Nat.le_of_ble_eq_true rfl) ?_
  intro P1 P2 P3 P4 P5 P6 P7 P8 X hr hnm
  refine v_aload_n X (xdec_at tX5_asks_0 0 rfl) rfl rfl ?_
  refine v_iload_n X (xdec_at tX5_asks_0 1 rfl) rfl rfl ?_
  refine v_if_eq (tgt := 9) X (xdec_at tX5_asks_0 2 rfl) (by decide) (fun _ => ?_) (fun h9 => absurd h9 (by decide))
  refine v_iconst (v := 1) X (xdec_at tX5_asks_0 5 rfl) (by decide) ?_
  refine r_PS X 38 (by decide) rfl (by decide) rfl (xdec_at tX5_asks_0 6 rfl) ?_
  refine v_iload_n X (xdec_at tX5_asks_0 7 rfl) rfl rfl ?_
  exact v_zret X hr (xdec_at tX5_asks_0 8 rfl) (Nat.le_of_ble_eq_true rfl) (Nat.le_of_ble_eq_true rfl) (by rfl) ⟨rfl, rfl, rfl⟩
