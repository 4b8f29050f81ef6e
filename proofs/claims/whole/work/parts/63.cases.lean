/-! the cases of the law -/
set_option maxRecDepth 100000 in
set_option maxHeartbeats 4000000 in
theorem lc_post {p : Program} {l : Launch} {e : Env} {s : State} {m : MethodId} {below : List Frame} {meth : Method} {c : Code} {Z : xZ} {b L k : Nat} {xs : Nat → Int32} {lay : xK → Nat} {μ : Mu} {tb : Tb} {o : Nat → Int64} {cells slots : Nat} {v5 v6 v7 : Option Value} (hl0 : l.stackTraces = false) (X : Cx p m meth c cL_law 8 s #[Value.ref b] RL Z s.heap.size) (hE : xEx s.heap.size s ∧ xNc s) (hX : va_X b L xs s s.heap) (hbl : b < s.heap.size) (hLn : L ≤ 3584) (hk : 7 * k + 7 ≤ L) (hL : LI μ tb k) (hRM : RM cells slots k tb) (kk : LK p l e s m below meth c Z b k) : V p l e room_1 s m #[Value.ref b] below meth c (lw_Z below #[Value.ref b] s) Z s.heap.size 8 lay (cM Z lay μ (cX Z lay μ tb (oW Z o))) cells slots 160 [some (.ref b), some (.ref (lay (0, 0))), some (.ref (lay (100, 0))), some (.ref (lay (300, 0))), some (.int (nI (7 * k))), v5, v6, v7] [] := by
  have hk5 : k < 512 := by omega
  refine v_aload_n X (xdec_at tL_law_0 25 rfl) rfl rfl ?_
  refine v_aload_n X (xdec_at tL_law_0 26 rfl) rfl rfl ?_
  refine v_law X hE hL mw_post [.ref (lay (0, 0)), .ref (lay (300, 0))] [] (w_post l hl0 Z s.heap.size lay μ tb (cM Z lay μ (oW Z o)) hL.1.1 hL.1.2.1 o rfl) oW_up (cs_LI cs_post (by simp [up2_at]) (fun hc => ni_post hL.1 hc)) (RMu hRM (by decide) (by decide) (Nat.le_refl (Pp tb))) (xw_at tW_3 8 rfl) rfl (by rfl) (Nat.le_of_ble_eq_true rfl) (xdec_at tL_law_0 27 rfl) ⟨(Nat.le_of_ble_eq_true rfl), (Nat.le_of_ble_eq_true rfl)⟩ (RMf hRM (by omega) hL.1 (by decide) (by decide)) fun lay' tb9 o9 e0 e1 e3 hL' ho hRM' => ?_
  rw [← e0, ← e1, ← e3]
  refine v_istore (lv' := [some (.ref b), some (.ref (lay' (0, 0))), some (.ref (lay' (100, 0))), some (.ref (lay' (300, 0))), some (.int (nI (7 * k))), some (.int ((M_post μ).2.1 38 0)), v6, v7]) X (xdec_at tL_law_0 28 rfl) (by decide) rfl ?_
  refine v_aload_n X (xdec_at tL_law_0 29 rfl) rfl rfl ?_
  refine v_callV X myX5_post [] [] (c_post l Z s.heap.size lay' μ (cX Z lay' (M_post μ).2 tb9 (oW Z o9)) hL.1.1) (xw_at tW_17 27 rfl) (100, 0) cM_0 rfl rfl rfl rfl (by rfl) (Nat.le_of_ble_eq_true rfl) (xdec_at tL_law_0 30 rfl) ⟨(Nat.le_of_ble_eq_true rfl), (Nat.le_of_ble_eq_true rfl)⟩ (RMf hRM' (by omega) hL'.1 (by decide) (by decide)) ?_
  rintro v9 lay9 C9 ⟨rfl, rfl, rfl⟩
  refine v_istore (lv' := [some (.ref b), some (.ref (lay' (0, 0))), some (.ref (lay' (100, 0))), some (.ref (lay' (300, 0))), some (.int (nI (7 * k))), some (.int ((M_post μ).2.1 38 0)), some (.int (M_post μ).1), v7]) X (xdec_at tL_law_0 31 rfl) (by decide) rfl ?_
  refine v_aload_n X (xdec_at tL_law_0 32 rfl) rfl rfl ?_
  refine v_callV X myX5_thrown [] [] (c_thrown l Z s.heap.size lay' (M_post μ).2 (cX Z lay' (M_post μ).2 tb9 (oW Z o9))) (xw_at tW_17 23 rfl) (100, 0) cM_0 rfl rfl rfl rfl (by rfl) (Nat.le_of_ble_eq_true rfl) (xdec_at tL_law_0 33 rfl) ⟨(Nat.le_of_ble_eq_true rfl), (Nat.le_of_ble_eq_true rfl)⟩ (RMf hRM' (by omega) hL'.1 (by decide) (by decide)) ?_
  rintro v9 lay9 C9 ⟨rfl, rfl, rfl⟩
  refine v_iload X (xdec_at tL_law_0 34 rfl) rfl ?_
  refine v_icmp_eq (tgt := 184) X (xdec_at tL_law_0 35 rfl) (by decide) (fun _ => ?_) (fun h9 => absurd rfl h9)
  refine v_iload X (xdec_at tL_law_0 38 rfl) rfl ?_
  refine v_if_ne (tgt := 201) X (xdec_at tL_law_0 39 rfl) (by decide) (fun c_186 => ?_) (fun c_186 => ?_)
  · refine v_goto (tgt := 1991) X (xdec_at tL_law_1 9 rfl) (by decide) ?_
    exact kk lay' (M_post μ).2 tb9 o9 _ _ _ _ _ hL' hRM'
  · refine v_aload_n X (xdec_at tL_law_1 0 rfl) rfl rfl ?_
    refine v_iconst (v := 0) X (xdec_at tL_law_1 1 rfl) (by decide) ?_
    refine x_lald (v := o9 0) X (300, 0) cW_o (vp_in_nI (n := 0) (N := 1) (by decide) (by decide)) rfl rfl (xdec_at tL_law_1 2 rfl) ?_
    refine v_iload X (xdec_at tL_law_1 3 rfl) rfl ?_
    refine v_i2l X (xdec_at tL_law_1 4 rfl) rfl ?_
    refine v_lcmp X (xdec_at tL_law_1 5 rfl) ?_
    refine v_if_eq (tgt := 201) X (xdec_at tL_law_1 6 rfl) (by decide) (fun _ => ?_) (fun h9 => absurd (lcz ((congrFun (ho c_186) 0).trans (if_pos rfl))) h9)
    refine v_goto (tgt := 1991) X (xdec_at tL_law_1 9 rfl) (by decide) ?_
    exact kk lay' (M_post μ).2 tb9 o9 _ _ _ _ _ hL' hRM'
set_option maxRecDepth 100000 in
set_option maxHeartbeats 4000000 in
theorem lc_rates {p : Program} {l : Launch} {e : Env} {s : State} {m : MethodId} {below : List Frame} {meth : Method} {c : Code} {Z : xZ} {b L k : Nat} {xs : Nat → Int32} {lay : xK → Nat} {μ : Mu} {tb : Tb} {o : Nat → Int64} {cells slots : Nat} {v5 v6 v7 : Option Value} (hl0 : l.stackTraces = false) (X : Cx p m meth c cL_law 8 s #[Value.ref b] RL Z s.heap.size) (hE : xEx s.heap.size s ∧ xNc s) (hX : va_X b L xs s s.heap) (hbl : b < s.heap.size) (hLn : L ≤ 3584) (hk : 7 * k + 7 ≤ L) (hL : LI μ tb k) (hRM : RM cells slots k tb) (kk : LK p l e s m below meth c Z b k) : V p l e room_1 s m #[Value.ref b] below meth c (lw_Z below #[Value.ref b] s) Z s.heap.size 8 lay (cM Z lay μ (cX Z lay μ tb (oW Z o))) cells slots 204 [some (.ref b), some (.ref (lay (0, 0))), some (.ref (lay (100, 0))), some (.ref (lay (300, 0))), some (.int (nI (7 * k))), v5, v6, v7] [] := by
  have hk5 : k < 512 := by omega
  refine v_aload_n X (xdec_at tL_law_1 10 rfl) rfl rfl ?_
  refine v_aload_n X (xdec_at tL_law_1 11 rfl) rfl rfl ?_
  refine v_iload X (xdec_at tL_law_1 12 rfl) rfl ?_
  refine v_iconst (v := 1) X (xdec_at tL_law_1 13 rfl) (by decide) ?_
  refine v_iadd X (xdec_at tL_law_1 14 rfl) ?_
  refine v_sld X hX hbl (nI_add (7 * k) 1) (by omega) hLn (xdec_at tL_law_1 15 rfl) ?_
  refine v_aload_n X (xdec_at tL_law_1 16 rfl) rfl rfl ?_
  refine v_iload X (xdec_at tL_law_1 17 rfl) rfl ?_
  refine v_iconst (v := 2) X (xdec_at tL_law_1 18 rfl) (by decide) ?_
  refine v_iadd X (xdec_at tL_law_1 19 rfl) ?_
  refine v_sld X hX hbl (nI_add (7 * k) 2) (by omega) hLn (xdec_at tL_law_1 20 rfl) ?_
  refine v_aload_n X (xdec_at tL_law_1 21 rfl) rfl rfl ?_
  refine v_iload X (xdec_at tL_law_1 22 rfl) rfl ?_
  refine v_iconst (v := 3) X (xdec_at tL_law_1 23 rfl) (by decide) ?_
  refine v_iadd X (xdec_at tL_law_1 24 rfl) ?_
  refine v_sld X hX hbl (nI_add (7 * k) 3) (by omega) hLn (xdec_at tL_law_1 25 rfl) ?_
  refine v_aload_n X (xdec_at tL_law_1 26 rfl) rfl rfl ?_
  refine v_iload X (xdec_at tL_law_1 27 rfl) rfl ?_
  refine v_iconst (v := 4) X (xdec_at tL_law_1 28 rfl) (by decide) ?_
  refine v_iadd X (xdec_at tL_law_1 29 rfl) ?_
  refine v_sld X hX hbl (nI_add (7 * k) 4) (by omega) hLn (xdec_at tL_law_1 30 rfl) ?_
  refine v_law X hE hL mw_rates [.ref (lay (0, 0)), .int (xs (7 * k + 1)), .int (xs (7 * k + 2)), .int (xs (7 * k + 3)), .int (xs (7 * k + 4))] [] (w_rates l hl0 Z s.heap.size lay μ tb (cM Z lay μ (oW Z o)) hL.1.1 (xs (7 * k + 1)) (xs (7 * k + 2)) (xs (7 * k + 3)) (xs (7 * k + 4))) rfl (cs_LI (cs_rates _ _ _ _) (by simp [up2_at]) (fun hc => ni_rates hL.1 hc)) (RMu hRM (by decide) (by decide) (Nat.le_refl (Pp tb))) (xw_at tW_5 23 rfl) rfl (by rfl) (Nat.le_of_ble_eq_true rfl) (xdec_at tL_law_1 31 rfl) ⟨(Nat.le_of_ble_eq_true rfl), (Nat.le_of_ble_eq_true rfl)⟩ (RMf hRM (by omega) hL.1 (by decide) (by decide)) fun lay' tb9 o9 e0 e1 e3 hL' ho hRM' => ?_
  rw [← e0, ← e1, ← e3]
  refine v_istore (lv' := [some (.ref b), some (.ref (lay' (0, 0))), some (.ref (lay' (100, 0))), some (.ref (lay' (300, 0))), some (.int (nI (7 * k))), some (.int ((M_rates μ (xs (7 * k + 1)) (xs (7 * k + 2)) (xs (7 * k + 3)) (xs (7 * k + 4))).1 38 0)), v6, v7]) X (xdec_at tL_law_1 32 rfl) (by decide) rfl ?_
  refine v_aload_n X (xdec_at tL_law_1 33 rfl) rfl rfl ?_
  refine v_aload_n X (xdec_at tL_law_1 34 rfl) rfl rfl ?_
  refine v_iload X (xdec_at tL_law_1 35 rfl) rfl ?_
  refine v_iconst (v := 1) X (xdec_at tL_law_1 36 rfl) (by decide) ?_
  refine v_iadd X (xdec_at tL_law_1 37 rfl) ?_
  refine v_sld X hX hbl (nI_add (7 * k) 1) (by omega) hLn (xdec_at tL_law_1 38 rfl) ?_
  refine v_aload_n X (xdec_at tL_law_1 39 rfl) rfl rfl ?_
  refine v_iload X (xdec_at tL_law_2 0 rfl) rfl ?_
  refine v_iconst (v := 2) X (xdec_at tL_law_2 1 rfl) (by decide) ?_
  refine v_iadd X (xdec_at tL_law_2 2 rfl) ?_
  refine v_sld X hX hbl (nI_add (7 * k) 2) (by omega) hLn (xdec_at tL_law_2 3 rfl) ?_
  refine v_aload_n X (xdec_at tL_law_2 4 rfl) rfl rfl ?_
  refine v_iload X (xdec_at tL_law_2 5 rfl) rfl ?_
  refine v_iconst (v := 3) X (xdec_at tL_law_2 6 rfl) (by decide) ?_
  refine v_iadd X (xdec_at tL_law_2 7 rfl) ?_
  refine v_sld X hX hbl (nI_add (7 * k) 3) (by omega) hLn (xdec_at tL_law_2 8 rfl) ?_
  refine v_aload_n X (xdec_at tL_law_2 9 rfl) rfl rfl ?_
  refine v_iload X (xdec_at tL_law_2 10 rfl) rfl ?_
  refine v_iconst (v := 4) X (xdec_at tL_law_2 11 rfl) (by decide) ?_
  refine v_iadd X (xdec_at tL_law_2 12 rfl) ?_
  refine v_sld X hX hbl (nI_add (7 * k) 4) (by omega) hLn (xdec_at tL_law_2 13 rfl) ?_
  refine v_callV X myX5_rates [.int (xs (7 * k + 1)), .int (xs (7 * k + 2)), .int (xs (7 * k + 3)), .int (xs (7 * k + 4))] [] (c_rates l Z s.heap.size lay' μ (cX Z lay' (M_rates μ (xs (7 * k + 1)) (xs (7 * k + 2)) (xs (7 * k + 3)) (xs (7 * k + 4))) tb9 (oW Z o9)) (xs (7 * k + 1)) (xs (7 * k + 2)) (xs (7 * k + 3)) (xs (7 * k + 4)) hL.1.1) (xw_at tW_17 34 rfl) (100, 0) cM_0 rfl rfl rfl rfl (by rfl) (Nat.le_of_ble_eq_true rfl) (xdec_at tL_law_2 14 rfl) ⟨(Nat.le_of_ble_eq_true rfl), (Nat.le_of_ble_eq_true rfl)⟩ (RMf hRM' (by omega) hL'.1 (by decide) (by decide)) ?_
  rintro v9 lay9 C9 ⟨rfl, rfl, rfl⟩
  refine v_aload_n X (xdec_at tL_law_2 15 rfl) rfl rfl ?_
  refine v_callV X myX5_thrown [] [] (c_thrown l Z s.heap.size lay' (M_rates μ (xs (7 * k + 1)) (xs (7 * k + 2)) (xs (7 * k + 3)) (xs (7 * k + 4))) (cX Z lay' (M_rates μ (xs (7 * k + 1)) (xs (7 * k + 2)) (xs (7 * k + 3)) (xs (7 * k + 4))) tb9 (oW Z o9))) (xw_at tW_17 23 rfl) (100, 0) cM_0 rfl rfl rfl rfl (by rfl) (Nat.le_of_ble_eq_true rfl) (xdec_at tL_law_2 16 rfl) ⟨(Nat.le_of_ble_eq_true rfl), (Nat.le_of_ble_eq_true rfl)⟩ (RMf hRM' (by omega) hL'.1 (by decide) (by decide)) ?_
  rintro v9 lay9 C9 ⟨rfl, rfl, rfl⟩
  refine v_iload X (xdec_at tL_law_2 17 rfl) rfl ?_
  refine v_icmp_eq (tgt := 273) X (xdec_at tL_law_2 18 rfl) (by decide) (fun _ => ?_) (fun h9 => absurd rfl h9)
  refine v_goto (tgt := 1991) X (xdec_at tL_law_2 21 rfl) (by decide) ?_
  exact kk lay' (M_rates μ (xs (7 * k + 1)) (xs (7 * k + 2)) (xs (7 * k + 3)) (xs (7 * k + 4))) tb9 o9 _ _ _ _ _ hL' hRM'
set_option maxRecDepth 100000 in
set_option maxHeartbeats 4000000 in
theorem lc_due {p : Program} {l : Launch} {e : Env} {s : State} {m : MethodId} {below : List Frame} {meth : Method} {c : Code} {Z : xZ} {b L k : Nat} {xs : Nat → Int32} {lay : xK → Nat} {μ : Mu} {tb : Tb} {o : Nat → Int64} {cells slots : Nat} {v5 v6 v7 : Option Value} (hl0 : l.stackTraces = false) (X : Cx p m meth c cL_law 8 s #[Value.ref b] RL Z s.heap.size) (hE : xEx s.heap.size s ∧ xNc s) (hX : va_X b L xs s s.heap) (hbl : b < s.heap.size) (hLn : L ≤ 3584) (hk : 7 * k + 7 ≤ L) (hL : LI μ tb k) (hRM : RM cells slots k tb) (kk : LK p l e s m below meth c Z b k) : V p l e room_1 s m #[Value.ref b] below meth c (lw_Z below #[Value.ref b] s) Z s.heap.size 8 lay (cM Z lay μ (cX Z lay μ tb (oW Z o))) cells slots 276 [some (.ref b), some (.ref (lay (0, 0))), some (.ref (lay (100, 0))), some (.ref (lay (300, 0))), some (.int (nI (7 * k))), v5, v6, v7] [] := by
  have hk5 : k < 512 := by omega
  refine v_aload_n X (xdec_at tL_law_2 22 rfl) rfl rfl ?_
  refine v_aload_n X (xdec_at tL_law_2 23 rfl) rfl rfl ?_
  refine v_iload X (xdec_at tL_law_2 24 rfl) rfl ?_
  refine v_iconst (v := 1) X (xdec_at tL_law_2 25 rfl) (by decide) ?_
  refine v_iadd X (xdec_at tL_law_2 26 rfl) ?_
  refine v_sld X hX hbl (nI_add (7 * k) 1) (by omega) hLn (xdec_at tL_law_2 27 rfl) ?_
  refine v_aload_n X (xdec_at tL_law_2 28 rfl) rfl rfl ?_
  refine v_iload X (xdec_at tL_law_2 29 rfl) rfl ?_
  refine v_iconst (v := 2) X (xdec_at tL_law_2 30 rfl) (by decide) ?_
  refine v_iadd X (xdec_at tL_law_2 31 rfl) ?_
  refine v_sld X hX hbl (nI_add (7 * k) 2) (by omega) hLn (xdec_at tL_law_2 32 rfl) ?_
  refine v_aload_n X (xdec_at tL_law_2 33 rfl) rfl rfl ?_
  refine v_iload X (xdec_at tL_law_2 34 rfl) rfl ?_
  refine v_iconst (v := 3) X (xdec_at tL_law_2 35 rfl) (by decide) ?_
  refine v_iadd X (xdec_at tL_law_2 36 rfl) ?_
  refine v_sld X hX hbl (nI_add (7 * k) 3) (by omega) hLn (xdec_at tL_law_2 37 rfl) ?_
  refine v_aload_n X (xdec_at tL_law_2 38 rfl) rfl rfl ?_
  refine v_law X hE hL mw_due [.ref (lay (0, 0)), .int (xs (7 * k + 1)), .int (xs (7 * k + 2)), .int (xs (7 * k + 3)), .ref (lay (300, 0))] [] (w_due l hl0 Z s.heap.size lay μ tb (cM Z lay μ (oW Z o)) hL.1.1 (xs (7 * k + 1)) (xs (7 * k + 2)) (xs (7 * k + 3)) o rfl) oW_up (cs_LI (cs_due _ _ _) (by simp [up2_at]) (fun hc => ni_due hL.1 hc)) (RMu hRM (by decide) (by decide) (Nat.le_refl (Pp tb))) (xw_at tW_6 27 rfl) rfl (by rfl) (Nat.le_of_ble_eq_true rfl) (xdec_at tL_law_2 39 rfl) ⟨(Nat.le_of_ble_eq_true rfl), (Nat.le_of_ble_eq_true rfl)⟩ (RMf hRM (by omega) hL.1 (by decide) (by decide)) fun lay' tb9 o9 e0 e1 e3 hL' ho hRM' => ?_
  rw [← e0, ← e1, ← e3]
  refine v_istore (lv' := [some (.ref b), some (.ref (lay' (0, 0))), some (.ref (lay' (100, 0))), some (.ref (lay' (300, 0))), some (.int (nI (7 * k))), some (.int ((M_due μ (xs (7 * k + 1)) (xs (7 * k + 2)) (xs (7 * k + 3))).2.1 38 0)), v6, v7]) X (xdec_at tL_law_3 0 rfl) (by decide) rfl ?_
  refine v_aload_n X (xdec_at tL_law_3 1 rfl) rfl rfl ?_
  refine v_aload_n X (xdec_at tL_law_3 2 rfl) rfl rfl ?_
  refine v_iload X (xdec_at tL_law_3 3 rfl) rfl ?_
  refine v_iconst (v := 1) X (xdec_at tL_law_3 4 rfl) (by decide) ?_
  refine v_iadd X (xdec_at tL_law_3 5 rfl) ?_
  refine v_sld X hX hbl (nI_add (7 * k) 1) (by omega) hLn (xdec_at tL_law_3 6 rfl) ?_
  refine v_aload_n X (xdec_at tL_law_3 7 rfl) rfl rfl ?_
  refine v_iload X (xdec_at tL_law_3 8 rfl) rfl ?_
  refine v_iconst (v := 2) X (xdec_at tL_law_3 9 rfl) (by decide) ?_
  refine v_iadd X (xdec_at tL_law_3 10 rfl) ?_
  refine v_sld X hX hbl (nI_add (7 * k) 2) (by omega) hLn (xdec_at tL_law_3 11 rfl) ?_
  refine v_aload_n X (xdec_at tL_law_3 12 rfl) rfl rfl ?_
  refine v_iload X (xdec_at tL_law_3 13 rfl) rfl ?_
  refine v_iconst (v := 3) X (xdec_at tL_law_3 14 rfl) (by decide) ?_
  refine v_iadd X (xdec_at tL_law_3 15 rfl) ?_
  refine v_sld X hX hbl (nI_add (7 * k) 3) (by omega) hLn (xdec_at tL_law_3 16 rfl) ?_
  refine v_callV X myX5_due [.int (xs (7 * k + 1)), .int (xs (7 * k + 2)), .int (xs (7 * k + 3))] [] (c_due l Z s.heap.size lay' μ (cX Z lay' (M_due μ (xs (7 * k + 1)) (xs (7 * k + 2)) (xs (7 * k + 3))).2 tb9 (oW Z o9)) (xs (7 * k + 1)) (xs (7 * k + 2)) (xs (7 * k + 3)) hL.1.1) (xw_at tW_18 7 rfl) (100, 0) cM_0 rfl rfl rfl rfl (by rfl) (Nat.le_of_ble_eq_true rfl) (xdec_at tL_law_3 17 rfl) ⟨(Nat.le_of_ble_eq_true rfl), (Nat.le_of_ble_eq_true rfl)⟩ (RMf hRM' (by omega) hL'.1 (by decide) (by decide)) ?_
  rintro v9 lay9 C9 ⟨rfl, rfl, rfl⟩
  refine v_istore (lv' := [some (.ref b), some (.ref (lay' (0, 0))), some (.ref (lay' (100, 0))), some (.ref (lay' (300, 0))), some (.int (nI (7 * k))), some (.int ((M_due μ (xs (7 * k + 1)) (xs (7 * k + 2)) (xs (7 * k + 3))).2.1 38 0)), some (.int (M_due μ (xs (7 * k + 1)) (xs (7 * k + 2)) (xs (7 * k + 3))).1), v7]) X (xdec_at tL_law_3 18 rfl) (by decide) rfl ?_
  refine v_aload_n X (xdec_at tL_law_3 19 rfl) rfl rfl ?_
  refine v_callV X myX5_thrown [] [] (c_thrown l Z s.heap.size lay' (M_due μ (xs (7 * k + 1)) (xs (7 * k + 2)) (xs (7 * k + 3))).2 (cX Z lay' (M_due μ (xs (7 * k + 1)) (xs (7 * k + 2)) (xs (7 * k + 3))).2 tb9 (oW Z o9))) (xw_at tW_17 23 rfl) (100, 0) cM_0 rfl rfl rfl rfl (by rfl) (Nat.le_of_ble_eq_true rfl) (xdec_at tL_law_3 20 rfl) ⟨(Nat.le_of_ble_eq_true rfl), (Nat.le_of_ble_eq_true rfl)⟩ (RMf hRM' (by omega) hL'.1 (by decide) (by decide)) ?_
  rintro v9 lay9 C9 ⟨rfl, rfl, rfl⟩
  refine v_iload X (xdec_at tL_law_3 21 rfl) rfl ?_
  refine v_icmp_eq (tgt := 336) X (xdec_at tL_law_3 22 rfl) (by decide) (fun _ => ?_) (fun h9 => absurd rfl h9)
  refine v_iload X (xdec_at tL_law_3 25 rfl) rfl ?_
  refine v_if_ne (tgt := 353) X (xdec_at tL_law_3 26 rfl) (by decide) (fun c_338 => ?_) (fun c_338 => ?_)
  · refine v_goto (tgt := 1991) X (xdec_at tL_law_3 36 rfl) (by decide) ?_
    exact kk lay' (M_due μ (xs (7 * k + 1)) (xs (7 * k + 2)) (xs (7 * k + 3))).2 tb9 o9 _ _ _ _ _ hL' hRM'
  · refine v_aload_n X (xdec_at tL_law_3 27 rfl) rfl rfl ?_
    refine v_iconst (v := 0) X (xdec_at tL_law_3 28 rfl) (by decide) ?_
    refine x_lald (v := o9 0) X (300, 0) cW_o (vp_in_nI (n := 0) (N := 1) (by decide) (by decide)) rfl rfl (xdec_at tL_law_3 29 rfl) ?_
    refine v_iload X (xdec_at tL_law_3 30 rfl) rfl ?_
    refine v_i2l X (xdec_at tL_law_3 31 rfl) rfl ?_
    refine v_lcmp X (xdec_at tL_law_3 32 rfl) ?_
    refine v_if_eq (tgt := 353) X (xdec_at tL_law_3 33 rfl) (by decide) (fun _ => ?_) (fun h9 => absurd (lcz ((congrFun (ho c_338) 0).trans (if_pos rfl))) h9)
    refine v_goto (tgt := 1991) X (xdec_at tL_law_3 36 rfl) (by decide) ?_
    exact kk lay' (M_due μ (xs (7 * k + 1)) (xs (7 * k + 2)) (xs (7 * k + 3))).2 tb9 o9 _ _ _ _ _ hL' hRM'
set_option maxRecDepth 100000 in
set_option maxHeartbeats 4000000 in
theorem lc_charge {p : Program} {l : Launch} {e : Env} {s : State} {m : MethodId} {below : List Frame} {meth : Method} {c : Code} {Z : xZ} {b L k : Nat} {xs : Nat → Int32} {lay : xK → Nat} {μ : Mu} {tb : Tb} {o : Nat → Int64} {cells slots : Nat} {v5 v6 v7 : Option Value} (hl0 : l.stackTraces = false) (X : Cx p m meth c cL_law 8 s #[Value.ref b] RL Z s.heap.size) (hE : xEx s.heap.size s ∧ xNc s) (hX : va_X b L xs s s.heap) (hbl : b < s.heap.size) (hLn : L ≤ 3584) (hk : 7 * k + 7 ≤ L) (hL : LI μ tb k) (hRM : RM cells slots k tb) (kk : LK p l e s m below meth c Z b k) : V p l e room_1 s m #[Value.ref b] below meth c (lw_Z below #[Value.ref b] s) Z s.heap.size 8 lay (cM Z lay μ (cX Z lay μ tb (oW Z o))) cells slots 356 [some (.ref b), some (.ref (lay (0, 0))), some (.ref (lay (100, 0))), some (.ref (lay (300, 0))), some (.int (nI (7 * k))), v5, v6, v7] [] := by
  have hk5 : k < 512 := by omega
  refine v_aload_n X (xdec_at tL_law_3 37 rfl) rfl rfl ?_
  refine v_aload_n X (xdec_at tL_law_3 38 rfl) rfl rfl ?_
  refine v_iload X (xdec_at tL_law_3 39 rfl) rfl ?_
  refine v_iconst (v := 1) X (xdec_at tL_law_4 0 rfl) (by decide) ?_
  refine v_iadd X (xdec_at tL_law_4 1 rfl) ?_
  refine v_sld X hX hbl (nI_add (7 * k) 1) (by omega) hLn (xdec_at tL_law_4 2 rfl) ?_
  refine v_aload_n X (xdec_at tL_law_4 3 rfl) rfl rfl ?_
  refine v_iload X (xdec_at tL_law_4 4 rfl) rfl ?_
  refine v_iconst (v := 2) X (xdec_at tL_law_4 5 rfl) (by decide) ?_
  refine v_iadd X (xdec_at tL_law_4 6 rfl) ?_
  refine v_sld X hX hbl (nI_add (7 * k) 2) (by omega) hLn (xdec_at tL_law_4 7 rfl) ?_
  refine v_aload_n X (xdec_at tL_law_4 8 rfl) rfl rfl ?_
  refine v_law X hE hL mw_charge [.ref (lay (0, 0)), .int (xs (7 * k + 1)), .int (xs (7 * k + 2)), .ref (lay (300, 0))] [] (w_charge l hl0 Z s.heap.size lay μ tb (cM Z lay μ (oW Z o)) hL.1.1 (xs (7 * k + 1)) (xs (7 * k + 2)) o rfl) oW_up (cs_LI (cs_charge _ _) (by simp [up2_at]) (fun hc => ni_p hL.1 (Or.inl rfl) hc.1 (okF rfl _) (fun z => absurd z (by decide)))) (RMu hRM (by decide) (by decide) (Nat.le_refl (Pp tb))) (xw_at tW_6 34 rfl) rfl (by rfl) (Nat.le_of_ble_eq_true rfl) (xdec_at tL_law_4 9 rfl) ⟨(Nat.le_of_ble_eq_true rfl), (Nat.le_of_ble_eq_true rfl)⟩ (RMf hRM (by omega) hL.1 (by decide) (by decide)) fun lay' tb9 o9 e0 e1 e3 hL' ho hRM' => ?_
  rw [← e0, ← e1, ← e3]
  refine v_istore (lv' := [some (.ref b), some (.ref (lay' (0, 0))), some (.ref (lay' (100, 0))), some (.ref (lay' (300, 0))), some (.int (nI (7 * k))), some (.int ((M_charge μ (xs (7 * k + 1)) (xs (7 * k + 2))).2.1 38 0)), v6, v7]) X (xdec_at tL_law_4 10 rfl) (by decide) rfl ?_
  refine v_aload_n X (xdec_at tL_law_4 11 rfl) rfl rfl ?_
  refine v_aload_n X (xdec_at tL_law_4 12 rfl) rfl rfl ?_
  refine v_iload X (xdec_at tL_law_4 13 rfl) rfl ?_
  refine v_iconst (v := 1) X (xdec_at tL_law_4 14 rfl) (by decide) ?_
  refine v_iadd X (xdec_at tL_law_4 15 rfl) ?_
  refine v_sld X hX hbl (nI_add (7 * k) 1) (by omega) hLn (xdec_at tL_law_4 16 rfl) ?_
  refine v_aload_n X (xdec_at tL_law_4 17 rfl) rfl rfl ?_
  refine v_iload X (xdec_at tL_law_4 18 rfl) rfl ?_
  refine v_iconst (v := 2) X (xdec_at tL_law_4 19 rfl) (by decide) ?_
  refine v_iadd X (xdec_at tL_law_4 20 rfl) ?_
  refine v_sld X hX hbl (nI_add (7 * k) 2) (by omega) hLn (xdec_at tL_law_4 21 rfl) ?_
  refine v_callV X myX5_charge [.int (xs (7 * k + 1)), .int (xs (7 * k + 2))] [] (c_charge l Z s.heap.size lay' μ (cX Z lay' (M_charge μ (xs (7 * k + 1)) (xs (7 * k + 2))).2 tb9 (oW Z o9)) (xs (7 * k + 1)) (xs (7 * k + 2)) hL.1.1) (xw_at tW_18 14 rfl) (100, 0) cM_0 rfl rfl rfl rfl (by rfl) (Nat.le_of_ble_eq_true rfl) (xdec_at tL_law_4 22 rfl) ⟨(Nat.le_of_ble_eq_true rfl), (Nat.le_of_ble_eq_true rfl)⟩ (RMf hRM' (by omega) hL'.1 (by decide) (by decide)) ?_
  rintro v9 lay9 C9 ⟨rfl, rfl, rfl⟩
  refine v_istore (lv' := [some (.ref b), some (.ref (lay' (0, 0))), some (.ref (lay' (100, 0))), some (.ref (lay' (300, 0))), some (.int (nI (7 * k))), some (.int ((M_charge μ (xs (7 * k + 1)) (xs (7 * k + 2))).2.1 38 0)), some (.int (M_charge μ (xs (7 * k + 1)) (xs (7 * k + 2))).1), v7]) X (xdec_at tL_law_4 23 rfl) (by decide) rfl ?_
  refine v_aload_n X (xdec_at tL_law_4 24 rfl) rfl rfl ?_
  refine v_callV X myX5_thrown [] [] (c_thrown l Z s.heap.size lay' (M_charge μ (xs (7 * k + 1)) (xs (7 * k + 2))).2 (cX Z lay' (M_charge μ (xs (7 * k + 1)) (xs (7 * k + 2))).2 tb9 (oW Z o9))) (xw_at tW_17 23 rfl) (100, 0) cM_0 rfl rfl rfl rfl (by rfl) (Nat.le_of_ble_eq_true rfl) (xdec_at tL_law_4 25 rfl) ⟨(Nat.le_of_ble_eq_true rfl), (Nat.le_of_ble_eq_true rfl)⟩ (RMf hRM' (by omega) hL'.1 (by decide) (by decide)) ?_
  rintro v9 lay9 C9 ⟨rfl, rfl, rfl⟩
  refine v_iload X (xdec_at tL_law_4 26 rfl) rfl ?_
  refine v_icmp_eq (tgt := 404) X (xdec_at tL_law_4 27 rfl) (by decide) (fun _ => ?_) (fun h9 => absurd rfl h9)
  refine v_iload X (xdec_at tL_law_4 30 rfl) rfl ?_
  refine v_if_ne (tgt := 421) X (xdec_at tL_law_4 31 rfl) (by decide) (fun c_406 => ?_) (fun c_406 => ?_)
  · refine v_goto (tgt := 1991) X (xdec_at tL_law_5 1 rfl) (by decide) ?_
    exact kk lay' (M_charge μ (xs (7 * k + 1)) (xs (7 * k + 2))).2 tb9 o9 _ _ _ _ _ hL' hRM'
  · refine v_aload_n X (xdec_at tL_law_4 32 rfl) rfl rfl ?_
    refine v_iconst (v := 0) X (xdec_at tL_law_4 33 rfl) (by decide) ?_
    refine x_lald (v := o9 0) X (300, 0) cW_o (vp_in_nI (n := 0) (N := 1) (by decide) (by decide)) rfl rfl (xdec_at tL_law_4 34 rfl) ?_
    refine v_iload X (xdec_at tL_law_4 35 rfl) rfl ?_
    refine v_i2l X (xdec_at tL_law_4 36 rfl) rfl ?_
    refine v_lcmp X (xdec_at tL_law_4 37 rfl) ?_
    refine v_if_eq (tgt := 421) X (xdec_at tL_law_4 38 rfl) (by decide) (fun _ => ?_) (fun h9 => absurd (lcz ((congrFun (ho c_406) 0).trans (if_pos rfl))) h9)
    refine v_goto (tgt := 1991) X (xdec_at tL_law_5 1 rfl) (by decide) ?_
    exact kk lay' (M_charge μ (xs (7 * k + 1)) (xs (7 * k + 2))).2 tb9 o9 _ _ _ _ _ hL' hRM'
set_option maxRecDepth 100000 in
set_option maxHeartbeats 4000000 in
theorem lc_coupon {p : Program} {l : Launch} {e : Env} {s : State} {m : MethodId} {below : List Frame} {meth : Method} {c : Code} {Z : xZ} {b L k : Nat} {xs : Nat → Int32} {lay : xK → Nat} {μ : Mu} {tb : Tb} {o : Nat → Int64} {cells slots : Nat} {v5 v6 v7 : Option Value} (hl0 : l.stackTraces = false) (X : Cx p m meth c cL_law 8 s #[Value.ref b] RL Z s.heap.size) (hE : xEx s.heap.size s ∧ xNc s) (hX : va_X b L xs s s.heap) (hbl : b < s.heap.size) (hLn : L ≤ 3584) (hk : 7 * k + 7 ≤ L) (hL : LI μ tb k) (hRM : RM cells slots k tb) (kk : LK p l e s m below meth c Z b k) : V p l e room_1 s m #[Value.ref b] below meth c (lw_Z below #[Value.ref b] s) Z s.heap.size 8 lay (cM Z lay μ (cX Z lay μ tb (oW Z o))) cells slots 424 [some (.ref b), some (.ref (lay (0, 0))), some (.ref (lay (100, 0))), some (.ref (lay (300, 0))), some (.int (nI (7 * k))), v5, v6, v7] [] := by
  have hk5 : k < 512 := by omega
  refine v_aload_n X (xdec_at tL_law_5 2 rfl) rfl rfl ?_
  refine v_aload_n X (xdec_at tL_law_5 3 rfl) rfl rfl ?_
  refine v_iload X (xdec_at tL_law_5 4 rfl) rfl ?_
  refine v_iconst (v := 1) X (xdec_at tL_law_5 5 rfl) (by decide) ?_
  refine v_iadd X (xdec_at tL_law_5 6 rfl) ?_
  refine v_sld X hX hbl (nI_add (7 * k) 1) (by omega) hLn (xdec_at tL_law_5 7 rfl) ?_
  refine v_aload_n X (xdec_at tL_law_5 8 rfl) rfl rfl ?_
  refine v_iload X (xdec_at tL_law_5 9 rfl) rfl ?_
  refine v_iconst (v := 2) X (xdec_at tL_law_5 10 rfl) (by decide) ?_
  refine v_iadd X (xdec_at tL_law_5 11 rfl) ?_
  refine v_sld X hX hbl (nI_add (7 * k) 2) (by omega) hLn (xdec_at tL_law_5 12 rfl) ?_
  refine v_aload_n X (xdec_at tL_law_5 13 rfl) rfl rfl ?_
  refine v_law X hE hL mw_coupon [.ref (lay (0, 0)), .int (xs (7 * k + 1)), .int (xs (7 * k + 2)), .ref (lay (300, 0))] [] (w_coupon l hl0 Z s.heap.size lay μ tb (cM Z lay μ (oW Z o)) hL.1.1 (xs (7 * k + 1)) (xs (7 * k + 2)) o rfl) oW_up (cs_LI (cs_coupon _ _) (by simp [up2_at]) (fun hc => ni_p hL.1 (Or.inr (Or.inl rfl)) hc.1 (okF rfl _) (fun _ => inR_nn hc.2))) (RMu hRM (by decide) (by decide) (Nat.le_refl (Pp tb))) (xw_at tW_7 1 rfl) rfl (by rfl) (Nat.le_of_ble_eq_true rfl) (xdec_at tL_law_5 14 rfl) ⟨(Nat.le_of_ble_eq_true rfl), (Nat.le_of_ble_eq_true rfl)⟩ (RMf hRM (by omega) hL.1 (by decide) (by decide)) fun lay' tb9 o9 e0 e1 e3 hL' ho hRM' => ?_
  rw [← e0, ← e1, ← e3]
  refine v_istore (lv' := [some (.ref b), some (.ref (lay' (0, 0))), some (.ref (lay' (100, 0))), some (.ref (lay' (300, 0))), some (.int (nI (7 * k))), some (.int ((M_coupon μ (xs (7 * k + 1)) (xs (7 * k + 2))).2.1 38 0)), v6, v7]) X (xdec_at tL_law_5 15 rfl) (by decide) rfl ?_
  refine v_aload_n X (xdec_at tL_law_5 16 rfl) rfl rfl ?_
  refine v_aload_n X (xdec_at tL_law_5 17 rfl) rfl rfl ?_
  refine v_iload X (xdec_at tL_law_5 18 rfl) rfl ?_
  refine v_iconst (v := 1) X (xdec_at tL_law_5 19 rfl) (by decide) ?_
  refine v_iadd X (xdec_at tL_law_5 20 rfl) ?_
  refine v_sld X hX hbl (nI_add (7 * k) 1) (by omega) hLn (xdec_at tL_law_5 21 rfl) ?_
  refine v_aload_n X (xdec_at tL_law_5 22 rfl) rfl rfl ?_
  refine v_iload X (xdec_at tL_law_5 23 rfl) rfl ?_
  refine v_iconst (v := 2) X (xdec_at tL_law_5 24 rfl) (by decide) ?_
  refine v_iadd X (xdec_at tL_law_5 25 rfl) ?_
  refine v_sld X hX hbl (nI_add (7 * k) 2) (by omega) hLn (xdec_at tL_law_5 26 rfl) ?_
  refine v_callV X myX5_coupon [.int (xs (7 * k + 1)), .int (xs (7 * k + 2))] [] (c_coupon l Z s.heap.size lay' μ (cX Z lay' (M_coupon μ (xs (7 * k + 1)) (xs (7 * k + 2))).2 tb9 (oW Z o9)) (xs (7 * k + 1)) (xs (7 * k + 2)) hL.1.1) (xw_at tW_18 18 rfl) (100, 0) cM_0 rfl rfl rfl rfl (by rfl) (Nat.le_of_ble_eq_true rfl) (xdec_at tL_law_5 27 rfl) ⟨(Nat.le_of_ble_eq_true rfl), (Nat.le_of_ble_eq_true rfl)⟩ (RMf hRM' (by omega) hL'.1 (by decide) (by decide)) ?_
  rintro v9 lay9 C9 ⟨rfl, rfl, rfl⟩
  refine v_istore (lv' := [some (.ref b), some (.ref (lay' (0, 0))), some (.ref (lay' (100, 0))), some (.ref (lay' (300, 0))), some (.int (nI (7 * k))), some (.int ((M_coupon μ (xs (7 * k + 1)) (xs (7 * k + 2))).2.1 38 0)), some (.int (M_coupon μ (xs (7 * k + 1)) (xs (7 * k + 2))).1), v7]) X (xdec_at tL_law_5 28 rfl) (by decide) rfl ?_
  refine v_aload_n X (xdec_at tL_law_5 29 rfl) rfl rfl ?_
  refine v_callV X myX5_thrown [] [] (c_thrown l Z s.heap.size lay' (M_coupon μ (xs (7 * k + 1)) (xs (7 * k + 2))).2 (cX Z lay' (M_coupon μ (xs (7 * k + 1)) (xs (7 * k + 2))).2 tb9 (oW Z o9))) (xw_at tW_17 23 rfl) (100, 0) cM_0 rfl rfl rfl rfl (by rfl) (Nat.le_of_ble_eq_true rfl) (xdec_at tL_law_5 30 rfl) ⟨(Nat.le_of_ble_eq_true rfl), (Nat.le_of_ble_eq_true rfl)⟩ (RMf hRM' (by omega) hL'.1 (by decide) (by decide)) ?_
  rintro v9 lay9 C9 ⟨rfl, rfl, rfl⟩
  refine v_iload X (xdec_at tL_law_5 31 rfl) rfl ?_
  refine v_icmp_eq (tgt := 472) X (xdec_at tL_law_5 32 rfl) (by decide) (fun _ => ?_) (fun h9 => absurd rfl h9)
  refine v_iload X (xdec_at tL_law_5 35 rfl) rfl ?_
  refine v_if_ne (tgt := 489) X (xdec_at tL_law_5 36 rfl) (by decide) (fun c_474 => ?_) (fun c_474 => ?_)
  · refine v_goto (tgt := 1991) X (xdec_at tL_law_6 6 rfl) (by decide) ?_
    exact kk lay' (M_coupon μ (xs (7 * k + 1)) (xs (7 * k + 2))).2 tb9 o9 _ _ _ _ _ hL' hRM'
  · refine v_aload_n X (xdec_at tL_law_5 37 rfl) rfl rfl ?_
    refine v_iconst (v := 0) X (xdec_at tL_law_5 38 rfl) (by decide) ?_
    refine x_lald (v := o9 0) X (300, 0) cW_o (vp_in_nI (n := 0) (N := 1) (by decide) (by decide)) rfl rfl (xdec_at tL_law_5 39 rfl) ?_
    refine v_iload X (xdec_at tL_law_6 0 rfl) rfl ?_
    refine v_i2l X (xdec_at tL_law_6 1 rfl) rfl ?_
    refine v_lcmp X (xdec_at tL_law_6 2 rfl) ?_
    refine v_if_eq (tgt := 489) X (xdec_at tL_law_6 3 rfl) (by decide) (fun _ => ?_) (fun h9 => absurd (lcz ((congrFun (ho c_474) 0).trans (if_pos rfl))) h9)
    refine v_goto (tgt := 1991) X (xdec_at tL_law_6 6 rfl) (by decide) ?_
    exact kk lay' (M_coupon μ (xs (7 * k + 1)) (xs (7 * k + 2))).2 tb9 o9 _ _ _ _ _ hL' hRM'
set_option maxRecDepth 100000 in
set_option maxHeartbeats 4000000 in
theorem lc_strike {p : Program} {l : Launch} {e : Env} {s : State} {m : MethodId} {below : List Frame} {meth : Method} {c : Code} {Z : xZ} {b L k : Nat} {xs : Nat → Int32} {lay : xK → Nat} {μ : Mu} {tb : Tb} {o : Nat → Int64} {cells slots : Nat} {v5 v6 v7 : Option Value} (hl0 : l.stackTraces = false) (X : Cx p m meth c cL_law 8 s #[Value.ref b] RL Z s.heap.size) (hE : xEx s.heap.size s ∧ xNc s) (hX : va_X b L xs s s.heap) (hbl : b < s.heap.size) (hLn : L ≤ 3584) (hk : 7 * k + 7 ≤ L) (hL : LI μ tb k) (hRM : RM cells slots k tb) (kk : LK p l e s m below meth c Z b k) : V p l e room_1 s m #[Value.ref b] below meth c (lw_Z below #[Value.ref b] s) Z s.heap.size 8 lay (cM Z lay μ (cX Z lay μ tb (oW Z o))) cells slots 492 [some (.ref b), some (.ref (lay (0, 0))), some (.ref (lay (100, 0))), some (.ref (lay (300, 0))), some (.int (nI (7 * k))), v5, v6, v7] [] := by
  have hk5 : k < 512 := by omega
  refine v_aload_n X (xdec_at tL_law_6 7 rfl) rfl rfl ?_
  refine v_aload_n X (xdec_at tL_law_6 8 rfl) rfl rfl ?_
  refine v_iload X (xdec_at tL_law_6 9 rfl) rfl ?_
  refine v_iconst (v := 1) X (xdec_at tL_law_6 10 rfl) (by decide) ?_
  refine v_iadd X (xdec_at tL_law_6 11 rfl) ?_
  refine v_sld X hX hbl (nI_add (7 * k) 1) (by omega) hLn (xdec_at tL_law_6 12 rfl) ?_
  refine v_aload_n X (xdec_at tL_law_6 13 rfl) rfl rfl ?_
  refine v_iload X (xdec_at tL_law_6 14 rfl) rfl ?_
  refine v_iconst (v := 2) X (xdec_at tL_law_6 15 rfl) (by decide) ?_
  refine v_iadd X (xdec_at tL_law_6 16 rfl) ?_
  refine v_sld X hX hbl (nI_add (7 * k) 2) (by omega) hLn (xdec_at tL_law_6 17 rfl) ?_
  refine v_if_eq (tgt := 512) X (xdec_at tL_law_6 18 rfl) (by decide) (fun c_505 => ?_) (fun c_505 => ?_)
  · refine v_iconst (v := 0) X (xdec_at tL_law_6 21 rfl) (by decide) ?_
    refine v_aload_n X (xdec_at tL_law_6 22 rfl) rfl rfl ?_
    refine v_law X hE hL mw_strike [.ref (lay (0, 0)), .int (xs (7 * k + 1)), .int 0, .ref (lay (300, 0))] [] (w_strike l hl0 Z s.heap.size lay μ tb (cM Z lay μ (oW Z o)) hL.1.1 (xs (7 * k + 1)) 0 (Or.inl rfl) o rfl) oW_up (cs_LI (cs_strike _ _) (by simp [up2_at]) (fun hc => ni_p hL.1 (Or.inr (Or.inr rfl)) hc (okb (by omega) (Or.inl rfl)) (fun z => absurd z (by decide)))) (RMu hRM (by decide) (by decide) (Nat.le_refl (Pp tb))) (xw_at tW_7 8 rfl) rfl (by rfl) (Nat.le_of_ble_eq_true rfl) (xdec_at tL_law_6 23 rfl) ⟨(Nat.le_of_ble_eq_true rfl), (Nat.le_of_ble_eq_true rfl)⟩ (RMf hRM (by omega) hL.1 (by decide) (by decide)) fun lay' tb9 o9 e0 e1 e3 hL' ho hRM' => ?_
    rw [← e0, ← e1, ← e3]
    refine v_istore (lv' := [some (.ref b), some (.ref (lay' (0, 0))), some (.ref (lay' (100, 0))), some (.ref (lay' (300, 0))), some (.int (nI (7 * k))), some (.int ((M_strike μ (xs (7 * k + 1)) 0).2.1 38 0)), v6, v7]) X (xdec_at tL_law_6 24 rfl) (by decide) rfl ?_
    refine v_aload_n X (xdec_at tL_law_6 25 rfl) rfl rfl ?_
    refine v_aload_n X (xdec_at tL_law_6 26 rfl) rfl rfl ?_
    refine v_iload X (xdec_at tL_law_6 27 rfl) rfl ?_
    refine v_iconst (v := 1) X (xdec_at tL_law_6 28 rfl) (by decide) ?_
    refine v_iadd X (xdec_at tL_law_6 29 rfl) ?_
    refine v_sld X hX hbl (nI_add (7 * k) 1) (by omega) hLn (xdec_at tL_law_6 30 rfl) ?_
    refine v_aload_n X (xdec_at tL_law_6 31 rfl) rfl rfl ?_
    refine v_iload X (xdec_at tL_law_6 32 rfl) rfl ?_
    refine v_iconst (v := 2) X (xdec_at tL_law_6 33 rfl) (by decide) ?_
    refine v_iadd X (xdec_at tL_law_6 34 rfl) ?_
    refine v_sld X hX hbl (nI_add (7 * k) 2) (by omega) hLn (xdec_at tL_law_6 35 rfl) ?_
    refine v_if_eq (tgt := 539) X (xdec_at tL_law_6 36 rfl) (by decide) (fun _ => ?_) (fun h9 => absurd c_505 h9)
    refine v_iconst (v := 0) X (xdec_at tL_law_6 39 rfl) (by decide) ?_
    refine v_callV X myX5_strike [.int (xs (7 * k + 1)), .int 0] [] (c_strike l Z s.heap.size lay' μ (cX Z lay' (M_strike μ (xs (7 * k + 1)) 0).2 tb9 (oW Z o9)) (xs (7 * k + 1)) 0 hL.1.1 (Or.inl rfl)) (xw_at tW_18 22 rfl) (100, 0) cM_0 rfl rfl rfl rfl (by rfl) (Nat.le_of_ble_eq_true rfl) (xdec_at tL_law_7 0 rfl) ⟨(Nat.le_of_ble_eq_true rfl), (Nat.le_of_ble_eq_true rfl)⟩ (RMf hRM' (by omega) hL'.1 (by decide) (by decide)) ?_
    rintro v9 lay9 C9 ⟨rfl, rfl, rfl⟩
    refine v_istore (lv' := [some (.ref b), some (.ref (lay' (0, 0))), some (.ref (lay' (100, 0))), some (.ref (lay' (300, 0))), some (.int (nI (7 * k))), some (.int ((M_strike μ (xs (7 * k + 1)) 0).2.1 38 0)), some (.int (M_strike μ (xs (7 * k + 1)) 0).1), v7]) X (xdec_at tL_law_7 1 rfl) (by decide) rfl ?_
    refine v_aload_n X (xdec_at tL_law_7 2 rfl) rfl rfl ?_
    refine v_callV X myX5_thrown [] [] (c_thrown l Z s.heap.size lay' (M_strike μ (xs (7 * k + 1)) 0).2 (cX Z lay' (M_strike μ (xs (7 * k + 1)) 0).2 tb9 (oW Z o9))) (xw_at tW_17 23 rfl) (100, 0) cM_0 rfl rfl rfl rfl (by rfl) (Nat.le_of_ble_eq_true rfl) (xdec_at tL_law_7 3 rfl) ⟨(Nat.le_of_ble_eq_true rfl), (Nat.le_of_ble_eq_true rfl)⟩ (RMf hRM' (by omega) hL'.1 (by decide) (by decide)) ?_
    rintro v9 lay9 C9 ⟨rfl, rfl, rfl⟩
    refine v_iload X (xdec_at tL_law_7 4 rfl) rfl ?_
    refine v_icmp_eq (tgt := 556) X (xdec_at tL_law_7 5 rfl) (by decide) (fun _ => ?_) (fun h9 => absurd rfl h9)
    refine v_iload X (xdec_at tL_law_7 8 rfl) rfl ?_
    refine v_if_ne (tgt := 580) X (xdec_at tL_law_7 9 rfl) (by decide) (fun c_558 => ?_) (fun c_558 => ?_)
    · refine v_goto (tgt := 1991) X (xdec_at tL_law_7 22 rfl) (by decide) ?_
      exact kk lay' (M_strike μ (xs (7 * k + 1)) 0).2 tb9 o9 _ _ _ _ _ hL' hRM'
    · refine v_aload_n X (xdec_at tL_law_7 10 rfl) rfl rfl ?_
      refine v_iconst (v := 0) X (xdec_at tL_law_7 11 rfl) (by decide) ?_
      refine x_lald (v := o9 0) X (300, 0) cW_o (vp_in_nI (n := 0) (N := 1) (by decide) (by decide)) rfl rfl (xdec_at tL_law_7 12 rfl) ?_
      refine v_iload X (xdec_at tL_law_7 13 rfl) rfl ?_
      refine v_if_eq (tgt := 573) X (xdec_at tL_law_7 14 rfl) (by decide) (fun c_566 => ?_) (fun c_566 => ?_)
      · refine v_lconst (v := 0) X (xdec_at tL_law_7 17 rfl) (by decide) ?_
        refine v_lcmp X (xdec_at tL_law_7 18 rfl) ?_
        refine v_if_eq (tgt := 580) X (xdec_at tL_law_7 19 rfl) (by decide) (fun _ => ?_) (fun h9 => absurd (lcz (((congrFun (ho c_558) 0).trans (if_pos rfl)).trans (if_pos c_566))) h9)
        refine v_goto (tgt := 1991) X (xdec_at tL_law_7 22 rfl) (by decide) ?_
        exact kk lay' (M_strike μ (xs (7 * k + 1)) 0).2 tb9 o9 _ _ _ _ _ hL' hRM'
      · refine v_lconst (v := 1) X (xdec_at tL_law_7 15 rfl) (by decide) ?_
        refine v_goto (tgt := 574) X (xdec_at tL_law_7 16 rfl) (by decide) ?_
        refine v_lcmp X (xdec_at tL_law_7 18 rfl) ?_
        refine v_if_eq (tgt := 580) X (xdec_at tL_law_7 19 rfl) (by decide) (fun _ => ?_) (fun h9 => absurd (lcz (((congrFun (ho c_558) 0).trans (if_pos rfl)).trans (if_neg c_566))) h9)
        refine v_goto (tgt := 1991) X (xdec_at tL_law_7 22 rfl) (by decide) ?_
        exact kk lay' (M_strike μ (xs (7 * k + 1)) 0).2 tb9 o9 _ _ _ _ _ hL' hRM'
  · refine v_iconst (v := 1) X (xdec_at tL_law_6 19 rfl) (by decide) ?_
    refine v_goto (tgt := 513) X (xdec_at tL_law_6 20 rfl) (by decide) ?_
    refine v_aload_n X (xdec_at tL_law_6 22 rfl) rfl rfl ?_
    refine v_law X hE hL mw_strike [.ref (lay (0, 0)), .int (xs (7 * k + 1)), .int 1, .ref (lay (300, 0))] [] (w_strike l hl0 Z s.heap.size lay μ tb (cM Z lay μ (oW Z o)) hL.1.1 (xs (7 * k + 1)) 1 (Or.inr rfl) o rfl) oW_up (cs_LI (cs_strike _ _) (by simp [up2_at]) (fun hc => ni_p hL.1 (Or.inr (Or.inr rfl)) hc (okb (by omega) (Or.inr rfl)) (fun z => absurd z (by decide)))) (RMu hRM (by decide) (by decide) (Nat.le_refl (Pp tb))) (xw_at tW_7 8 rfl) rfl (by rfl) (Nat.le_of_ble_eq_true rfl) (xdec_at tL_law_6 23 rfl) ⟨(Nat.le_of_ble_eq_true rfl), (Nat.le_of_ble_eq_true rfl)⟩ (RMf hRM (by omega) hL.1 (by decide) (by decide)) fun lay' tb9 o9 e0 e1 e3 hL' ho hRM' => ?_
    rw [← e0, ← e1, ← e3]
    refine v_istore (lv' := [some (.ref b), some (.ref (lay' (0, 0))), some (.ref (lay' (100, 0))), some (.ref (lay' (300, 0))), some (.int (nI (7 * k))), some (.int ((M_strike μ (xs (7 * k + 1)) 1).2.1 38 0)), v6, v7]) X (xdec_at tL_law_6 24 rfl) (by decide) rfl ?_
    refine v_aload_n X (xdec_at tL_law_6 25 rfl) rfl rfl ?_
    refine v_aload_n X (xdec_at tL_law_6 26 rfl) rfl rfl ?_
    refine v_iload X (xdec_at tL_law_6 27 rfl) rfl ?_
    refine v_iconst (v := 1) X (xdec_at tL_law_6 28 rfl) (by decide) ?_
    refine v_iadd X (xdec_at tL_law_6 29 rfl) ?_
    refine v_sld X hX hbl (nI_add (7 * k) 1) (by omega) hLn (xdec_at tL_law_6 30 rfl) ?_
    refine v_aload_n X (xdec_at tL_law_6 31 rfl) rfl rfl ?_
    refine v_iload X (xdec_at tL_law_6 32 rfl) rfl ?_
    refine v_iconst (v := 2) X (xdec_at tL_law_6 33 rfl) (by decide) ?_
    refine v_iadd X (xdec_at tL_law_6 34 rfl) ?_
    refine v_sld X hX hbl (nI_add (7 * k) 2) (by omega) hLn (xdec_at tL_law_6 35 rfl) ?_
    refine v_if_eq (tgt := 539) X (xdec_at tL_law_6 36 rfl) (by decide) (fun h9 => absurd h9 c_505) (fun _ => ?_)
    refine v_iconst (v := 1) X (xdec_at tL_law_6 37 rfl) (by decide) ?_
    refine v_goto (tgt := 540) X (xdec_at tL_law_6 38 rfl) (by decide) ?_
    refine v_callV X myX5_strike [.int (xs (7 * k + 1)), .int 1] [] (c_strike l Z s.heap.size lay' μ (cX Z lay' (M_strike μ (xs (7 * k + 1)) 1).2 tb9 (oW Z o9)) (xs (7 * k + 1)) 1 hL.1.1 (Or.inr rfl)) (xw_at tW_18 22 rfl) (100, 0) cM_0 rfl rfl rfl rfl (by rfl) (Nat.le_of_ble_eq_true rfl) (xdec_at tL_law_7 0 rfl) ⟨(Nat.le_of_ble_eq_true rfl), (Nat.le_of_ble_eq_true rfl)⟩ (RMf hRM' (by omega) hL'.1 (by decide) (by decide)) ?_
    rintro v9 lay9 C9 ⟨rfl, rfl, rfl⟩
    refine v_istore (lv' := [some (.ref b), some (.ref (lay' (0, 0))), some (.ref (lay' (100, 0))), some (.ref (lay' (300, 0))), some (.int (nI (7 * k))), some (.int ((M_strike μ (xs (7 * k + 1)) 1).2.1 38 0)), some (.int (M_strike μ (xs (7 * k + 1)) 1).1), v7]) X (xdec_at tL_law_7 1 rfl) (by decide) rfl ?_
    refine v_aload_n X (xdec_at tL_law_7 2 rfl) rfl rfl ?_
    refine v_callV X myX5_thrown [] [] (c_thrown l Z s.heap.size lay' (M_strike μ (xs (7 * k + 1)) 1).2 (cX Z lay' (M_strike μ (xs (7 * k + 1)) 1).2 tb9 (oW Z o9))) (xw_at tW_17 23 rfl) (100, 0) cM_0 rfl rfl rfl rfl (by rfl) (Nat.le_of_ble_eq_true rfl) (xdec_at tL_law_7 3 rfl) ⟨(Nat.le_of_ble_eq_true rfl), (Nat.le_of_ble_eq_true rfl)⟩ (RMf hRM' (by omega) hL'.1 (by decide) (by decide)) ?_
    rintro v9 lay9 C9 ⟨rfl, rfl, rfl⟩
    refine v_iload X (xdec_at tL_law_7 4 rfl) rfl ?_
    refine v_icmp_eq (tgt := 556) X (xdec_at tL_law_7 5 rfl) (by decide) (fun _ => ?_) (fun h9 => absurd rfl h9)
    refine v_iload X (xdec_at tL_law_7 8 rfl) rfl ?_
    refine v_if_ne (tgt := 580) X (xdec_at tL_law_7 9 rfl) (by decide) (fun c_558 => ?_) (fun c_558 => ?_)
    · refine v_goto (tgt := 1991) X (xdec_at tL_law_7 22 rfl) (by decide) ?_
      exact kk lay' (M_strike μ (xs (7 * k + 1)) 1).2 tb9 o9 _ _ _ _ _ hL' hRM'
    · refine v_aload_n X (xdec_at tL_law_7 10 rfl) rfl rfl ?_
      refine v_iconst (v := 0) X (xdec_at tL_law_7 11 rfl) (by decide) ?_
      refine x_lald (v := o9 0) X (300, 0) cW_o (vp_in_nI (n := 0) (N := 1) (by decide) (by decide)) rfl rfl (xdec_at tL_law_7 12 rfl) ?_
      refine v_iload X (xdec_at tL_law_7 13 rfl) rfl ?_
      refine v_if_eq (tgt := 573) X (xdec_at tL_law_7 14 rfl) (by decide) (fun c_566 => ?_) (fun c_566 => ?_)
      · refine v_lconst (v := 0) X (xdec_at tL_law_7 17 rfl) (by decide) ?_
        refine v_lcmp X (xdec_at tL_law_7 18 rfl) ?_
        refine v_if_eq (tgt := 580) X (xdec_at tL_law_7 19 rfl) (by decide) (fun _ => ?_) (fun h9 => absurd (lcz (((congrFun (ho c_558) 0).trans (if_pos rfl)).trans (if_pos c_566))) h9)
        refine v_goto (tgt := 1991) X (xdec_at tL_law_7 22 rfl) (by decide) ?_
        exact kk lay' (M_strike μ (xs (7 * k + 1)) 1).2 tb9 o9 _ _ _ _ _ hL' hRM'
      · refine v_lconst (v := 1) X (xdec_at tL_law_7 15 rfl) (by decide) ?_
        refine v_goto (tgt := 574) X (xdec_at tL_law_7 16 rfl) (by decide) ?_
        refine v_lcmp X (xdec_at tL_law_7 18 rfl) ?_
        refine v_if_eq (tgt := 580) X (xdec_at tL_law_7 19 rfl) (by decide) (fun _ => ?_) (fun h9 => absurd (lcz (((congrFun (ho c_558) 0).trans (if_pos rfl)).trans (if_neg c_566))) h9)
        refine v_goto (tgt := 1991) X (xdec_at tL_law_7 22 rfl) (by decide) ?_
        exact kk lay' (M_strike μ (xs (7 * k + 1)) 1).2 tb9 o9 _ _ _ _ _ hL' hRM'
set_option maxRecDepth 100000 in
set_option maxHeartbeats 4000000 in
theorem lc_leg {p : Program} {l : Launch} {e : Env} {s : State} {m : MethodId} {below : List Frame} {meth : Method} {c : Code} {Z : xZ} {b L k : Nat} {xs : Nat → Int32} {lay : xK → Nat} {μ : Mu} {tb : Tb} {o : Nat → Int64} {cells slots : Nat} {v5 v6 v7 : Option Value} (hl0 : l.stackTraces = false) (X : Cx p m meth c cL_law 8 s #[Value.ref b] RL Z s.heap.size) (hE : xEx s.heap.size s ∧ xNc s) (hX : va_X b L xs s s.heap) (hbl : b < s.heap.size) (hLn : L ≤ 3584) (hk : 7 * k + 7 ≤ L) (hL : LI μ tb k) (hRM : RM cells slots k tb) (kk : LK p l e s m below meth c Z b k) : V p l e room_1 s m #[Value.ref b] below meth c (lw_Z below #[Value.ref b] s) Z s.heap.size 8 lay (cM Z lay μ (cX Z lay μ tb (oW Z o))) cells slots 583 [some (.ref b), some (.ref (lay (0, 0))), some (.ref (lay (100, 0))), some (.ref (lay (300, 0))), some (.int (nI (7 * k))), v5, v6, v7] [] := by
  have hk5 : k < 512 := by omega
  refine v_aload_n X (xdec_at tL_law_7 23 rfl) rfl rfl ?_
  refine v_aload_n X (xdec_at tL_law_7 24 rfl) rfl rfl ?_
  refine v_iload X (xdec_at tL_law_7 25 rfl) rfl ?_
  refine v_iconst (v := 1) X (xdec_at tL_law_7 26 rfl) (by decide) ?_
  refine v_iadd X (xdec_at tL_law_7 27 rfl) ?_
  refine v_sld X hX hbl (nI_add (7 * k) 1) (by omega) hLn (xdec_at tL_law_7 28 rfl) ?_
  refine v_aload_n X (xdec_at tL_law_7 29 rfl) rfl rfl ?_
  refine v_iload X (xdec_at tL_law_7 30 rfl) rfl ?_
  refine v_iconst (v := 2) X (xdec_at tL_law_7 31 rfl) (by decide) ?_
  refine v_iadd X (xdec_at tL_law_7 32 rfl) ?_
  refine v_sld X hX hbl (nI_add (7 * k) 2) (by omega) hLn (xdec_at tL_law_7 33 rfl) ?_
  refine v_aload_n X (xdec_at tL_law_7 34 rfl) rfl rfl ?_
  refine v_iload X (xdec_at tL_law_7 35 rfl) rfl ?_
  refine v_iconst (v := 3) X (xdec_at tL_law_7 36 rfl) (by decide) ?_
  refine v_iadd X (xdec_at tL_law_7 37 rfl) ?_
  refine v_sld X hX hbl (nI_add (7 * k) 3) (by omega) hLn (xdec_at tL_law_7 38 rfl) ?_
  refine v_aload_n X (xdec_at tL_law_7 39 rfl) rfl rfl ?_
  refine v_law X hE hL mw_leg [.ref (lay (0, 0)), .int (xs (7 * k + 1)), .int (xs (7 * k + 2)), .int (xs (7 * k + 3)), .ref (lay (300, 0))] [] (w_leg l hl0 Z s.heap.size lay μ tb (cM Z lay μ (oW Z o)) hL.1.1 (xs (7 * k + 1)) (xs (7 * k + 2)) (xs (7 * k + 3)) hL.1.2.1 o rfl) oW_up (cs_LI (cs_leg _ _ _) (by simp [up2_at]) (fun hc => ni_leg hL.1 hc tb.1)) (RMu hRM (by decide) (by decide) (Nat.le_refl (Pp tb))) (xw_at tW_7 15 rfl) rfl (by rfl) (Nat.le_of_ble_eq_true rfl) (xdec_at tL_law_8 0 rfl) ⟨(Nat.le_of_ble_eq_true rfl), (Nat.le_of_ble_eq_true rfl)⟩ (RMf hRM (by omega) hL.1 (by decide) (by decide)) fun lay' tb9 o9 e0 e1 e3 hL' ho hRM' => ?_
  rw [← e0, ← e1, ← e3]
  refine v_istore (lv' := [some (.ref b), some (.ref (lay' (0, 0))), some (.ref (lay' (100, 0))), some (.ref (lay' (300, 0))), some (.int (nI (7 * k))), some (.int ((M_leg μ (xs (7 * k + 1)) (xs (7 * k + 2)) (xs (7 * k + 3))).2.1 38 0)), v6, v7]) X (xdec_at tL_law_8 1 rfl) (by decide) rfl ?_
  refine v_aload_n X (xdec_at tL_law_8 2 rfl) rfl rfl ?_
  refine v_aload_n X (xdec_at tL_law_8 3 rfl) rfl rfl ?_
  refine v_iload X (xdec_at tL_law_8 4 rfl) rfl ?_
  refine v_iconst (v := 1) X (xdec_at tL_law_8 5 rfl) (by decide) ?_
  refine v_iadd X (xdec_at tL_law_8 6 rfl) ?_
  refine v_sld X hX hbl (nI_add (7 * k) 1) (by omega) hLn (xdec_at tL_law_8 7 rfl) ?_
  refine v_aload_n X (xdec_at tL_law_8 8 rfl) rfl rfl ?_
  refine v_iload X (xdec_at tL_law_8 9 rfl) rfl ?_
  refine v_iconst (v := 2) X (xdec_at tL_law_8 10 rfl) (by decide) ?_
  refine v_iadd X (xdec_at tL_law_8 11 rfl) ?_
  refine v_sld X hX hbl (nI_add (7 * k) 2) (by omega) hLn (xdec_at tL_law_8 12 rfl) ?_
  refine v_aload_n X (xdec_at tL_law_8 13 rfl) rfl rfl ?_
  refine v_iload X (xdec_at tL_law_8 14 rfl) rfl ?_
  refine v_iconst (v := 3) X (xdec_at tL_law_8 15 rfl) (by decide) ?_
  refine v_iadd X (xdec_at tL_law_8 16 rfl) ?_
  refine v_sld X hX hbl (nI_add (7 * k) 3) (by omega) hLn (xdec_at tL_law_8 17 rfl) ?_
  refine v_callV X myX5_leg [.int (xs (7 * k + 1)), .int (xs (7 * k + 2)), .int (xs (7 * k + 3))] [] (c_leg l Z s.heap.size lay' μ (cX Z lay' (M_leg μ (xs (7 * k + 1)) (xs (7 * k + 2)) (xs (7 * k + 3))).2 tb9 (oW Z o9)) (xs (7 * k + 1)) (xs (7 * k + 2)) (xs (7 * k + 3)) hL.1.1) (xw_at tW_18 26 rfl) (100, 0) cM_0 rfl rfl rfl rfl (by rfl) (Nat.le_of_ble_eq_true rfl) (xdec_at tL_law_8 18 rfl) ⟨(Nat.le_of_ble_eq_true rfl), (Nat.le_of_ble_eq_true rfl)⟩ (RMf hRM' (by omega) hL'.1 (by decide) (by decide)) ?_
  rintro v9 lay9 C9 ⟨rfl, rfl, rfl⟩
  refine v_istore (lv' := [some (.ref b), some (.ref (lay' (0, 0))), some (.ref (lay' (100, 0))), some (.ref (lay' (300, 0))), some (.int (nI (7 * k))), some (.int ((M_leg μ (xs (7 * k + 1)) (xs (7 * k + 2)) (xs (7 * k + 3))).2.1 38 0)), some (.int (M_leg μ (xs (7 * k + 1)) (xs (7 * k + 2)) (xs (7 * k + 3))).1), v7]) X (xdec_at tL_law_8 19 rfl) (by decide) rfl ?_
  refine v_aload_n X (xdec_at tL_law_8 20 rfl) rfl rfl ?_
  refine v_callV X myX5_thrown [] [] (c_thrown l Z s.heap.size lay' (M_leg μ (xs (7 * k + 1)) (xs (7 * k + 2)) (xs (7 * k + 3))).2 (cX Z lay' (M_leg μ (xs (7 * k + 1)) (xs (7 * k + 2)) (xs (7 * k + 3))).2 tb9 (oW Z o9))) (xw_at tW_17 23 rfl) (100, 0) cM_0 rfl rfl rfl rfl (by rfl) (Nat.le_of_ble_eq_true rfl) (xdec_at tL_law_8 21 rfl) ⟨(Nat.le_of_ble_eq_true rfl), (Nat.le_of_ble_eq_true rfl)⟩ (RMf hRM' (by omega) hL'.1 (by decide) (by decide)) ?_
  rintro v9 lay9 C9 ⟨rfl, rfl, rfl⟩
  refine v_iload X (xdec_at tL_law_8 22 rfl) rfl ?_
  refine v_icmp_eq (tgt := 643) X (xdec_at tL_law_8 23 rfl) (by decide) (fun _ => ?_) (fun h9 => absurd rfl h9)
  refine v_iload X (xdec_at tL_law_8 26 rfl) rfl ?_
  refine v_if_ne (tgt := 660) X (xdec_at tL_law_8 27 rfl) (by decide) (fun c_645 => ?_) (fun c_645 => ?_)
  · refine v_goto (tgt := 1991) X (xdec_at tL_law_8 37 rfl) (by decide) ?_
    exact kk lay' (M_leg μ (xs (7 * k + 1)) (xs (7 * k + 2)) (xs (7 * k + 3))).2 tb9 o9 _ _ _ _ _ hL' hRM'
  · refine v_aload_n X (xdec_at tL_law_8 28 rfl) rfl rfl ?_
    refine v_iconst (v := 0) X (xdec_at tL_law_8 29 rfl) (by decide) ?_
    refine x_lald (v := o9 0) X (300, 0) cW_o (vp_in_nI (n := 0) (N := 1) (by decide) (by decide)) rfl rfl (xdec_at tL_law_8 30 rfl) ?_
    refine v_iload X (xdec_at tL_law_8 31 rfl) rfl ?_
    refine v_i2l X (xdec_at tL_law_8 32 rfl) rfl ?_
    refine v_lcmp X (xdec_at tL_law_8 33 rfl) ?_
    refine v_if_eq (tgt := 660) X (xdec_at tL_law_8 34 rfl) (by decide) (fun _ => ?_) (fun h9 => absurd (lcz ((congrFun (ho c_645) 0).trans (if_pos rfl))) h9)
    refine v_goto (tgt := 1991) X (xdec_at tL_law_8 37 rfl) (by decide) ?_
    exact kk lay' (M_leg μ (xs (7 * k + 1)) (xs (7 * k + 2)) (xs (7 * k + 3))).2 tb9 o9 _ _ _ _ _ hL' hRM'
set_option maxRecDepth 100000 in
set_option maxHeartbeats 4000000 in
theorem lc_close {p : Program} {l : Launch} {e : Env} {s : State} {m : MethodId} {below : List Frame} {meth : Method} {c : Code} {Z : xZ} {b L k : Nat} {xs : Nat → Int32} {lay : xK → Nat} {μ : Mu} {tb : Tb} {o : Nat → Int64} {cells slots : Nat} {v5 v6 v7 : Option Value} (hl0 : l.stackTraces = false) (X : Cx p m meth c cL_law 8 s #[Value.ref b] RL Z s.heap.size) (hE : xEx s.heap.size s ∧ xNc s) (hX : va_X b L xs s s.heap) (hbl : b < s.heap.size) (hLn : L ≤ 3584) (hk : 7 * k + 7 ≤ L) (hL : LI μ tb k) (hRM : RM cells slots k tb) (kk : LK p l e s m below meth c Z b k) : V p l e room_1 s m #[Value.ref b] below meth c (lw_Z below #[Value.ref b] s) Z s.heap.size 8 lay (cM Z lay μ (cX Z lay μ tb (oW Z o))) cells slots 663 [some (.ref b), some (.ref (lay (0, 0))), some (.ref (lay (100, 0))), some (.ref (lay (300, 0))), some (.int (nI (7 * k))), v5, v6, v7] [] := by
  have hk5 : k < 512 := by omega
  refine v_aload_n X (xdec_at tL_law_8 38 rfl) rfl rfl ?_
  refine v_aload_n X (xdec_at tL_law_8 39 rfl) rfl rfl ?_
  refine v_iload X (xdec_at tL_law_9 0 rfl) rfl ?_
  refine v_iconst (v := 1) X (xdec_at tL_law_9 1 rfl) (by decide) ?_
  refine v_iadd X (xdec_at tL_law_9 2 rfl) ?_
  refine v_sld X hX hbl (nI_add (7 * k) 1) (by omega) hLn (xdec_at tL_law_9 3 rfl) ?_
  refine v_aload_n X (xdec_at tL_law_9 4 rfl) rfl rfl ?_
  refine v_iload X (xdec_at tL_law_9 5 rfl) rfl ?_
  refine v_iconst (v := 2) X (xdec_at tL_law_9 6 rfl) (by decide) ?_
  refine v_iadd X (xdec_at tL_law_9 7 rfl) ?_
  refine v_sld X hX hbl (nI_add (7 * k) 2) (by omega) hLn (xdec_at tL_law_9 8 rfl) ?_
  refine v_if_eq (tgt := 683) X (xdec_at tL_law_9 9 rfl) (by decide) (fun c_676 => ?_) (fun c_676 => ?_)
  · refine v_iconst (v := 0) X (xdec_at tL_law_9 12 rfl) (by decide) ?_
    refine v_aload_n X (xdec_at tL_law_9 13 rfl) rfl rfl ?_
    refine v_law X hE hL mw_close [.ref (lay (0, 0)), .int (xs (7 * k + 1)), .int 0, .ref (lay (300, 0))] [] (w_close l hl0 Z s.heap.size lay μ tb (cM Z lay μ (oW Z o)) hL.1.1 (xs (7 * k + 1)) 0 hL.1.2.1 (Or.inl rfl) o rfl) oW_up (cs_LI (cs_close _ _) (by simp [up2_at]) (fun hc => ni_close hL.1 hc (Or.inl rfl))) (RMu hRM (by decide) (by decide) (Nat.le_refl (Pp tb))) (xw_at tW_8 6 rfl) rfl (by rfl) (Nat.le_of_ble_eq_true rfl) (xdec_at tL_law_9 14 rfl) ⟨(Nat.le_of_ble_eq_true rfl), (Nat.le_of_ble_eq_true rfl)⟩ (RMf hRM (by omega) hL.1 (by decide) (by decide)) fun lay' tb9 o9 e0 e1 e3 hL' ho hRM' => ?_
    rw [← e0, ← e1, ← e3]
    refine v_istore (lv' := [some (.ref b), some (.ref (lay' (0, 0))), some (.ref (lay' (100, 0))), some (.ref (lay' (300, 0))), some (.int (nI (7 * k))), some (.int ((M_close μ (xs (7 * k + 1)) 0).2.1 38 0)), v6, v7]) X (xdec_at tL_law_9 15 rfl) (by decide) rfl ?_
    refine v_aload_n X (xdec_at tL_law_9 16 rfl) rfl rfl ?_
    refine v_aload_n X (xdec_at tL_law_9 17 rfl) rfl rfl ?_
    refine v_iload X (xdec_at tL_law_9 18 rfl) rfl ?_
    refine v_iconst (v := 1) X (xdec_at tL_law_9 19 rfl) (by decide) ?_
    refine v_iadd X (xdec_at tL_law_9 20 rfl) ?_
    refine v_sld X hX hbl (nI_add (7 * k) 1) (by omega) hLn (xdec_at tL_law_9 21 rfl) ?_
    refine v_aload_n X (xdec_at tL_law_9 22 rfl) rfl rfl ?_
    refine v_iload X (xdec_at tL_law_9 23 rfl) rfl ?_
    refine v_iconst (v := 2) X (xdec_at tL_law_9 24 rfl) (by decide) ?_
    refine v_iadd X (xdec_at tL_law_9 25 rfl) ?_
    refine v_sld X hX hbl (nI_add (7 * k) 2) (by omega) hLn (xdec_at tL_law_9 26 rfl) ?_
    refine v_if_eq (tgt := 710) X (xdec_at tL_law_9 27 rfl) (by decide) (fun _ => ?_) (fun h9 => absurd c_676 h9)
    refine v_iconst (v := 0) X (xdec_at tL_law_9 30 rfl) (by decide) ?_
    refine v_callV X myX5_close [.int (xs (7 * k + 1)), .int 0] [] (c_close l Z s.heap.size lay' μ (cX Z lay' (M_close μ (xs (7 * k + 1)) 0).2 tb9 (oW Z o9)) (xs (7 * k + 1)) 0 hL.1.1 (Or.inl rfl)) (xw_at tW_18 30 rfl) (100, 0) cM_0 rfl rfl rfl rfl (by rfl) (Nat.le_of_ble_eq_true rfl) (xdec_at tL_law_9 31 rfl) ⟨(Nat.le_of_ble_eq_true rfl), (Nat.le_of_ble_eq_true rfl)⟩ (RMf hRM' (by omega) hL'.1 (by decide) (by decide)) ?_
    rintro v9 lay9 C9 ⟨rfl, rfl, rfl⟩
    refine v_istore (lv' := [some (.ref b), some (.ref (lay' (0, 0))), some (.ref (lay' (100, 0))), some (.ref (lay' (300, 0))), some (.int (nI (7 * k))), some (.int ((M_close μ (xs (7 * k + 1)) 0).2.1 38 0)), some (.int (M_close μ (xs (7 * k + 1)) 0).1), v7]) X (xdec_at tL_law_9 32 rfl) (by decide) rfl ?_
    refine v_aload_n X (xdec_at tL_law_9 33 rfl) rfl rfl ?_
    refine v_callV X myX5_thrown [] [] (c_thrown l Z s.heap.size lay' (M_close μ (xs (7 * k + 1)) 0).2 (cX Z lay' (M_close μ (xs (7 * k + 1)) 0).2 tb9 (oW Z o9))) (xw_at tW_17 23 rfl) (100, 0) cM_0 rfl rfl rfl rfl (by rfl) (Nat.le_of_ble_eq_true rfl) (xdec_at tL_law_9 34 rfl) ⟨(Nat.le_of_ble_eq_true rfl), (Nat.le_of_ble_eq_true rfl)⟩ (RMf hRM' (by omega) hL'.1 (by decide) (by decide)) ?_
    rintro v9 lay9 C9 ⟨rfl, rfl, rfl⟩
    refine v_iload X (xdec_at tL_law_9 35 rfl) rfl ?_
    refine v_icmp_eq (tgt := 727) X (xdec_at tL_law_9 36 rfl) (by decide) (fun _ => ?_) (fun h9 => absurd rfl h9)
    refine v_iload X (xdec_at tL_law_9 39 rfl) rfl ?_
    refine v_if_ne (tgt := 751) X (xdec_at tL_law_10 0 rfl) (by decide) (fun c_729 => ?_) (fun c_729 => ?_)
    · refine v_goto (tgt := 1991) X (xdec_at tL_law_10 13 rfl) (by decide) ?_
      exact kk lay' (M_close μ (xs (7 * k + 1)) 0).2 tb9 o9 _ _ _ _ _ hL' hRM'
    · refine v_aload_n X (xdec_at tL_law_10 1 rfl) rfl rfl ?_
      refine v_iconst (v := 0) X (xdec_at tL_law_10 2 rfl) (by decide) ?_
      refine x_lald (v := o9 0) X (300, 0) cW_o (vp_in_nI (n := 0) (N := 1) (by decide) (by decide)) rfl rfl (xdec_at tL_law_10 3 rfl) ?_
      refine v_iload X (xdec_at tL_law_10 4 rfl) rfl ?_
      refine v_if_eq (tgt := 744) X (xdec_at tL_law_10 5 rfl) (by decide) (fun c_737 => ?_) (fun c_737 => ?_)
      · refine v_lconst (v := 0) X (xdec_at tL_law_10 8 rfl) (by decide) ?_
        refine v_lcmp X (xdec_at tL_law_10 9 rfl) ?_
        refine v_if_eq (tgt := 751) X (xdec_at tL_law_10 10 rfl) (by decide) (fun _ => ?_) (fun h9 => absurd (lcz (((congrFun (ho c_729) 0).trans (if_pos rfl)).trans (if_pos c_737))) h9)
        refine v_goto (tgt := 1991) X (xdec_at tL_law_10 13 rfl) (by decide) ?_
        exact kk lay' (M_close μ (xs (7 * k + 1)) 0).2 tb9 o9 _ _ _ _ _ hL' hRM'
      · refine v_lconst (v := 1) X (xdec_at tL_law_10 6 rfl) (by decide) ?_
        refine v_goto (tgt := 745) X (xdec_at tL_law_10 7 rfl) (by decide) ?_
        refine v_lcmp X (xdec_at tL_law_10 9 rfl) ?_
        refine v_if_eq (tgt := 751) X (xdec_at tL_law_10 10 rfl) (by decide) (fun _ => ?_) (fun h9 => absurd (lcz (((congrFun (ho c_729) 0).trans (if_pos rfl)).trans (if_neg c_737))) h9)
        refine v_goto (tgt := 1991) X (xdec_at tL_law_10 13 rfl) (by decide) ?_
        exact kk lay' (M_close μ (xs (7 * k + 1)) 0).2 tb9 o9 _ _ _ _ _ hL' hRM'
  · refine v_iconst (v := 1) X (xdec_at tL_law_9 10 rfl) (by decide) ?_
    refine v_goto (tgt := 684) X (xdec_at tL_law_9 11 rfl) (by decide) ?_
    refine v_aload_n X (xdec_at tL_law_9 13 rfl) rfl rfl ?_
    refine v_law X hE hL mw_close [.ref (lay (0, 0)), .int (xs (7 * k + 1)), .int 1, .ref (lay (300, 0))] [] (w_close l hl0 Z s.heap.size lay μ tb (cM Z lay μ (oW Z o)) hL.1.1 (xs (7 * k + 1)) 1 hL.1.2.1 (Or.inr rfl) o rfl) oW_up (cs_LI (cs_close _ _) (by simp [up2_at]) (fun hc => ni_close hL.1 hc (Or.inr rfl))) (RMu hRM (by decide) (by decide) (Nat.le_refl (Pp tb))) (xw_at tW_8 6 rfl) rfl (by rfl) (Nat.le_of_ble_eq_true rfl) (xdec_at tL_law_9 14 rfl) ⟨(Nat.le_of_ble_eq_true rfl), (Nat.le_of_ble_eq_true rfl)⟩ (RMf hRM (by omega) hL.1 (by decide) (by decide)) fun lay' tb9 o9 e0 e1 e3 hL' ho hRM' => ?_
    rw [← e0, ← e1, ← e3]
    refine v_istore (lv' := [some (.ref b), some (.ref (lay' (0, 0))), some (.ref (lay' (100, 0))), some (.ref (lay' (300, 0))), some (.int (nI (7 * k))), some (.int ((M_close μ (xs (7 * k + 1)) 1).2.1 38 0)), v6, v7]) X (xdec_at tL_law_9 15 rfl) (by decide) rfl ?_
    refine v_aload_n X (xdec_at tL_law_9 16 rfl) rfl rfl ?_
    refine v_aload_n X (xdec_at tL_law_9 17 rfl) rfl rfl ?_
    refine v_iload X (xdec_at tL_law_9 18 rfl) rfl ?_
    refine v_iconst (v := 1) X (xdec_at tL_law_9 19 rfl) (by decide) ?_
    refine v_iadd X (xdec_at tL_law_9 20 rfl) ?_
    refine v_sld X hX hbl (nI_add (7 * k) 1) (by omega) hLn (xdec_at tL_law_9 21 rfl) ?_
    refine v_aload_n X (xdec_at tL_law_9 22 rfl) rfl rfl ?_
    refine v_iload X (xdec_at tL_law_9 23 rfl) rfl ?_
    refine v_iconst (v := 2) X (xdec_at tL_law_9 24 rfl) (by decide) ?_
    refine v_iadd X (xdec_at tL_law_9 25 rfl) ?_
    refine v_sld X hX hbl (nI_add (7 * k) 2) (by omega) hLn (xdec_at tL_law_9 26 rfl) ?_
    refine v_if_eq (tgt := 710) X (xdec_at tL_law_9 27 rfl) (by decide) (fun h9 => absurd h9 c_676) (fun _ => ?_)
    refine v_iconst (v := 1) X (xdec_at tL_law_9 28 rfl) (by decide) ?_
    refine v_goto (tgt := 711) X (xdec_at tL_law_9 29 rfl) (by decide) ?_
    refine v_callV X myX5_close [.int (xs (7 * k + 1)), .int 1] [] (c_close l Z s.heap.size lay' μ (cX Z lay' (M_close μ (xs (7 * k + 1)) 1).2 tb9 (oW Z o9)) (xs (7 * k + 1)) 1 hL.1.1 (Or.inr rfl)) (xw_at tW_18 30 rfl) (100, 0) cM_0 rfl rfl rfl rfl (by rfl) (Nat.le_of_ble_eq_true rfl) (xdec_at tL_law_9 31 rfl) ⟨(Nat.le_of_ble_eq_true rfl), (Nat.le_of_ble_eq_true rfl)⟩ (RMf hRM' (by omega) hL'.1 (by decide) (by decide)) ?_
    rintro v9 lay9 C9 ⟨rfl, rfl, rfl⟩
    refine v_istore (lv' := [some (.ref b), some (.ref (lay' (0, 0))), some (.ref (lay' (100, 0))), some (.ref (lay' (300, 0))), some (.int (nI (7 * k))), some (.int ((M_close μ (xs (7 * k + 1)) 1).2.1 38 0)), some (.int (M_close μ (xs (7 * k + 1)) 1).1), v7]) X (xdec_at tL_law_9 32 rfl) (by decide) rfl ?_
    refine v_aload_n X (xdec_at tL_law_9 33 rfl) rfl rfl ?_
    refine v_callV X myX5_thrown [] [] (c_thrown l Z s.heap.size lay' (M_close μ (xs (7 * k + 1)) 1).2 (cX Z lay' (M_close μ (xs (7 * k + 1)) 1).2 tb9 (oW Z o9))) (xw_at tW_17 23 rfl) (100, 0) cM_0 rfl rfl rfl rfl (by rfl) (Nat.le_of_ble_eq_true rfl) (xdec_at tL_law_9 34 rfl) ⟨(Nat.le_of_ble_eq_true rfl), (Nat.le_of_ble_eq_true rfl)⟩ (RMf hRM' (by omega) hL'.1 (by decide) (by decide)) ?_
    rintro v9 lay9 C9 ⟨rfl, rfl, rfl⟩
    refine v_iload X (xdec_at tL_law_9 35 rfl) rfl ?_
    refine v_icmp_eq (tgt := 727) X (xdec_at tL_law_9 36 rfl) (by decide) (fun _ => ?_) (fun h9 => absurd rfl h9)
    refine v_iload X (xdec_at tL_law_9 39 rfl) rfl ?_
    refine v_if_ne (tgt := 751) X (xdec_at tL_law_10 0 rfl) (by decide) (fun c_729 => ?_) (fun c_729 => ?_)
    · refine v_goto (tgt := 1991) X (xdec_at tL_law_10 13 rfl) (by decide) ?_
      exact kk lay' (M_close μ (xs (7 * k + 1)) 1).2 tb9 o9 _ _ _ _ _ hL' hRM'
    · refine v_aload_n X (xdec_at tL_law_10 1 rfl) rfl rfl ?_
      refine v_iconst (v := 0) X (xdec_at tL_law_10 2 rfl) (by decide) ?_
      refine x_lald (v := o9 0) X (300, 0) cW_o (vp_in_nI (n := 0) (N := 1) (by decide) (by decide)) rfl rfl (xdec_at tL_law_10 3 rfl) ?_
      refine v_iload X (xdec_at tL_law_10 4 rfl) rfl ?_
      refine v_if_eq (tgt := 744) X (xdec_at tL_law_10 5 rfl) (by decide) (fun c_737 => ?_) (fun c_737 => ?_)
      · refine v_lconst (v := 0) X (xdec_at tL_law_10 8 rfl) (by decide) ?_
        refine v_lcmp X (xdec_at tL_law_10 9 rfl) ?_
        refine v_if_eq (tgt := 751) X (xdec_at tL_law_10 10 rfl) (by decide) (fun _ => ?_) (fun h9 => absurd (lcz (((congrFun (ho c_729) 0).trans (if_pos rfl)).trans (if_pos c_737))) h9)
        refine v_goto (tgt := 1991) X (xdec_at tL_law_10 13 rfl) (by decide) ?_
        exact kk lay' (M_close μ (xs (7 * k + 1)) 1).2 tb9 o9 _ _ _ _ _ hL' hRM'
      · refine v_lconst (v := 1) X (xdec_at tL_law_10 6 rfl) (by decide) ?_
        refine v_goto (tgt := 745) X (xdec_at tL_law_10 7 rfl) (by decide) ?_
        refine v_lcmp X (xdec_at tL_law_10 9 rfl) ?_
        refine v_if_eq (tgt := 751) X (xdec_at tL_law_10 10 rfl) (by decide) (fun _ => ?_) (fun h9 => absurd (lcz (((congrFun (ho c_729) 0).trans (if_pos rfl)).trans (if_neg c_737))) h9)
        refine v_goto (tgt := 1991) X (xdec_at tL_law_10 13 rfl) (by decide) ?_
        exact kk lay' (M_close μ (xs (7 * k + 1)) 1).2 tb9 o9 _ _ _ _ _ hL' hRM'
set_option maxRecDepth 100000 in
set_option maxHeartbeats 4000000 in
theorem lc_days {p : Program} {l : Launch} {e : Env} {s : State} {m : MethodId} {below : List Frame} {meth : Method} {c : Code} {Z : xZ} {b L k : Nat} {xs : Nat → Int32} {lay : xK → Nat} {μ : Mu} {tb : Tb} {o : Nat → Int64} {cells slots : Nat} {v5 v6 v7 : Option Value} (hl0 : l.stackTraces = false) (X : Cx p m meth c cL_law 8 s #[Value.ref b] RL Z s.heap.size) (hE : xEx s.heap.size s ∧ xNc s) (hX : va_X b L xs s s.heap) (hbl : b < s.heap.size) (hLn : L ≤ 3584) (hk : 7 * k + 7 ≤ L) (hL : LI μ tb k) (hRM : RM cells slots k tb) (kk : LK p l e s m below meth c Z b k) : V p l e room_1 s m #[Value.ref b] below meth c (lw_Z below #[Value.ref b] s) Z s.heap.size 8 lay (cM Z lay μ (cX Z lay μ tb (oW Z o))) cells slots 754 [some (.ref b), some (.ref (lay (0, 0))), some (.ref (lay (100, 0))), some (.ref (lay (300, 0))), some (.int (nI (7 * k))), v5, v6, v7] [] := by
  have hk5 : k < 512 := by omega
  refine v_aload_n X (xdec_at tL_law_10 14 rfl) rfl rfl ?_
  refine v_aload_n X (xdec_at tL_law_10 15 rfl) rfl rfl ?_
  refine v_iload X (xdec_at tL_law_10 16 rfl) rfl ?_
  refine v_iconst (v := 1) X (xdec_at tL_law_10 17 rfl) (by decide) ?_
  refine v_iadd X (xdec_at tL_law_10 18 rfl) ?_
  refine v_sld X hX hbl (nI_add (7 * k) 1) (by omega) hLn (xdec_at tL_law_10 19 rfl) ?_
  refine v_aload_n X (xdec_at tL_law_10 20 rfl) rfl rfl ?_
  refine v_iload X (xdec_at tL_law_10 21 rfl) rfl ?_
  refine v_iconst (v := 2) X (xdec_at tL_law_10 22 rfl) (by decide) ?_
  refine v_iadd X (xdec_at tL_law_10 23 rfl) ?_
  refine v_sld X hX hbl (nI_add (7 * k) 2) (by omega) hLn (xdec_at tL_law_10 24 rfl) ?_
  refine v_aload_n X (xdec_at tL_law_10 25 rfl) rfl rfl ?_
  refine v_law X hE hL mw_days [.ref (lay (0, 0)), .int (xs (7 * k + 1)), .int (xs (7 * k + 2)), .ref (lay (300, 0))] [] (w_days l hl0 Z s.heap.size lay μ tb (cM Z lay μ (oW Z o)) hL.1.1 (xs (7 * k + 1)) (xs (7 * k + 2)) (hL.1.2.2.2.1.ts hL.1.1 hL.1.2.1.1) o rfl) oW_up (cs_LI (cs_told _ _) (told_38 _ _) (fun hc => ni_told hL.1 _)) (RMu hRM (by decide) (by decide) (Nat.le_refl (Pp tb))) (xw_at tW_8 21 rfl) rfl (by rfl) (Nat.le_of_ble_eq_true rfl) (xdec_at tL_law_10 26 rfl) ⟨(Nat.le_of_ble_eq_true rfl), (Nat.le_of_ble_eq_true rfl)⟩ (RMf hRM (by omega) hL.1 (by decide) (by decide)) fun lay' tb9 o9 e0 e1 e3 hL' ho hRM' => ?_
  rw [← e0, ← e1, ← e3]
  refine v_istore (lv' := [some (.ref b), some (.ref (lay' (0, 0))), some (.ref (lay' (100, 0))), some (.ref (lay' (300, 0))), some (.int (nI (7 * k))), some (.int ((M_told μ (xs (7 * k + 1)) (xs (7 * k + 2))).2.1 38 0)), v6, v7]) X (xdec_at tL_law_10 27 rfl) (by decide) rfl ?_
  refine v_aload_n X (xdec_at tL_law_10 28 rfl) rfl rfl ?_
  refine v_aload_n X (xdec_at tL_law_10 29 rfl) rfl rfl ?_
  refine v_iload X (xdec_at tL_law_10 30 rfl) rfl ?_
  refine v_iconst (v := 1) X (xdec_at tL_law_10 31 rfl) (by decide) ?_
  refine v_iadd X (xdec_at tL_law_10 32 rfl) ?_
  refine v_sld X hX hbl (nI_add (7 * k) 1) (by omega) hLn (xdec_at tL_law_10 33 rfl) ?_
  refine v_aload_n X (xdec_at tL_law_10 34 rfl) rfl rfl ?_
  refine v_iload X (xdec_at tL_law_10 35 rfl) rfl ?_
  refine v_iconst (v := 2) X (xdec_at tL_law_10 36 rfl) (by decide) ?_
  refine v_iadd X (xdec_at tL_law_10 37 rfl) ?_
  refine v_sld X hX hbl (nI_add (7 * k) 2) (by omega) hLn (xdec_at tL_law_10 38 rfl) ?_
  refine v_callV X myX5_days [.int (xs (7 * k + 1)), .int (xs (7 * k + 2))] [] (c_days l Z s.heap.size lay' μ (cX Z lay' (M_told μ (xs (7 * k + 1)) (xs (7 * k + 2))).2 tb9 (oW Z o9)) (xs (7 * k + 1)) (xs (7 * k + 2)) hL.1.1) (xw_at tW_18 34 rfl) (100, 0) cM_0 rfl rfl rfl rfl (by rfl) (Nat.le_of_ble_eq_true rfl) (xdec_at tL_law_10 39 rfl) ⟨(Nat.le_of_ble_eq_true rfl), (Nat.le_of_ble_eq_true rfl)⟩ (RMf hRM' (by omega) hL'.1 (by decide) (by decide)) ?_
  rintro v9 lay9 C9 ⟨rfl, rfl, rfl⟩
  refine v_istore (lv' := [some (.ref b), some (.ref (lay' (0, 0))), some (.ref (lay' (100, 0))), some (.ref (lay' (300, 0))), some (.int (nI (7 * k))), some (.int ((M_told μ (xs (7 * k + 1)) (xs (7 * k + 2))).2.1 38 0)), some (.int (M_told μ (xs (7 * k + 1)) (xs (7 * k + 2))).1), v7]) X (xdec_at tL_law_11 0 rfl) (by decide) rfl ?_
  refine v_aload_n X (xdec_at tL_law_11 1 rfl) rfl rfl ?_
  refine v_callV X myX5_thrown [] [] (c_thrown l Z s.heap.size lay' (M_told μ (xs (7 * k + 1)) (xs (7 * k + 2))).2 (cX Z lay' (M_told μ (xs (7 * k + 1)) (xs (7 * k + 2))).2 tb9 (oW Z o9))) (xw_at tW_17 23 rfl) (100, 0) cM_0 rfl rfl rfl rfl (by rfl) (Nat.le_of_ble_eq_true rfl) (xdec_at tL_law_11 2 rfl) ⟨(Nat.le_of_ble_eq_true rfl), (Nat.le_of_ble_eq_true rfl)⟩ (RMf hRM' (by omega) hL'.1 (by decide) (by decide)) ?_
  rintro v9 lay9 C9 ⟨rfl, rfl, rfl⟩
  refine v_iload X (xdec_at tL_law_11 3 rfl) rfl ?_
  refine v_icmp_eq (tgt := 802) X (xdec_at tL_law_11 4 rfl) (by decide) (fun _ => ?_) (fun h9 => absurd rfl h9)
  refine v_iload X (xdec_at tL_law_11 7 rfl) rfl ?_
  refine v_if_ne (tgt := 819) X (xdec_at tL_law_11 8 rfl) (by decide) (fun c_804 => ?_) (fun c_804 => ?_)
  · refine v_goto (tgt := 1991) X (xdec_at tL_law_11 18 rfl) (by decide) ?_
    exact kk lay' (M_told μ (xs (7 * k + 1)) (xs (7 * k + 2))).2 tb9 o9 _ _ _ _ _ hL' hRM'
  · refine v_aload_n X (xdec_at tL_law_11 9 rfl) rfl rfl ?_
    refine v_iconst (v := 0) X (xdec_at tL_law_11 10 rfl) (by decide) ?_
    refine x_lald (v := o9 0) X (300, 0) cW_o (vp_in_nI (n := 0) (N := 1) (by decide) (by decide)) rfl rfl (xdec_at tL_law_11 11 rfl) ?_
    refine v_iload X (xdec_at tL_law_11 12 rfl) rfl ?_
    refine v_i2l X (xdec_at tL_law_11 13 rfl) rfl ?_
    refine v_lcmp X (xdec_at tL_law_11 14 rfl) ?_
    refine v_if_eq (tgt := 819) X (xdec_at tL_law_11 15 rfl) (by decide) (fun _ => ?_) (fun h9 => absurd (lcz ((congrFun (ho c_804) 0).trans (if_pos rfl))) h9)
    refine v_goto (tgt := 1991) X (xdec_at tL_law_11 18 rfl) (by decide) ?_
    exact kk lay' (M_told μ (xs (7 * k + 1)) (xs (7 * k + 2))).2 tb9 o9 _ _ _ _ _ hL' hRM'
set_option maxRecDepth 100000 in
set_option maxHeartbeats 4000000 in
theorem lc_daysAnew {p : Program} {l : Launch} {e : Env} {s : State} {m : MethodId} {below : List Frame} {meth : Method} {c : Code} {Z : xZ} {b L k : Nat} {xs : Nat → Int32} {lay : xK → Nat} {μ : Mu} {tb : Tb} {o : Nat → Int64} {cells slots : Nat} {v5 v6 v7 : Option Value} (hl0 : l.stackTraces = false) (X : Cx p m meth c cL_law 8 s #[Value.ref b] RL Z s.heap.size) (hE : xEx s.heap.size s ∧ xNc s) (hX : va_X b L xs s s.heap) (hbl : b < s.heap.size) (hLn : L ≤ 3584) (hk : 7 * k + 7 ≤ L) (hL : LI μ tb k) (hRM : RM cells slots k tb) (kk : LK p l e s m below meth c Z b k) : V p l e room_1 s m #[Value.ref b] below meth c (lw_Z below #[Value.ref b] s) Z s.heap.size 8 lay (cM Z lay μ (cX Z lay μ tb (oW Z o))) cells slots 822 [some (.ref b), some (.ref (lay (0, 0))), some (.ref (lay (100, 0))), some (.ref (lay (300, 0))), some (.int (nI (7 * k))), v5, v6, v7] [] := by
  have hk5 : k < 512 := by omega
  refine v_aload_n X (xdec_at tL_law_11 19 rfl) rfl rfl ?_
  refine v_aload_n X (xdec_at tL_law_11 20 rfl) rfl rfl ?_
  refine v_iload X (xdec_at tL_law_11 21 rfl) rfl ?_
  refine v_iconst (v := 1) X (xdec_at tL_law_11 22 rfl) (by decide) ?_
  refine v_iadd X (xdec_at tL_law_11 23 rfl) ?_
  refine v_sld X hX hbl (nI_add (7 * k) 1) (by omega) hLn (xdec_at tL_law_11 24 rfl) ?_
  refine v_aload_n X (xdec_at tL_law_11 25 rfl) rfl rfl ?_
  refine v_iload X (xdec_at tL_law_11 26 rfl) rfl ?_
  refine v_iconst (v := 2) X (xdec_at tL_law_11 27 rfl) (by decide) ?_
  refine v_iadd X (xdec_at tL_law_11 28 rfl) ?_
  refine v_sld X hX hbl (nI_add (7 * k) 2) (by omega) hLn (xdec_at tL_law_11 29 rfl) ?_
  refine v_aload_n X (xdec_at tL_law_11 30 rfl) rfl rfl ?_
  refine v_law X hE hL mw_daysAnew [.ref (lay (0, 0)), .int (xs (7 * k + 1)), .int (xs (7 * k + 2)), .ref (lay (300, 0))] [] (w_daysAnew l hl0 Z s.heap.size lay μ tb (cM Z lay μ (oW Z o)) hL.1.1 (xs (7 * k + 1)) (xs (7 * k + 2)) (hL.1.2.2.2.1.ts hL.1.1 hL.1.2.1.1) o rfl) oW_up (cs_LI (cs_told _ _) (told_38 _ _) (fun hc => ni_told hL.1 _)) (RMu hRM (by decide) (by decide) (Nat.le_refl (Pp tb))) (xw_at tW_8 35 rfl) rfl (by rfl) (Nat.le_of_ble_eq_true rfl) (xdec_at tL_law_11 31 rfl) ⟨(Nat.le_of_ble_eq_true rfl), (Nat.le_of_ble_eq_true rfl)⟩ (RMf hRM (by omega) hL.1 (by decide) (by decide)) fun lay' tb9 o9 e0 e1 e3 hL' ho hRM' => ?_
  rw [← e0, ← e1, ← e3]
  refine v_istore (lv' := [some (.ref b), some (.ref (lay' (0, 0))), some (.ref (lay' (100, 0))), some (.ref (lay' (300, 0))), some (.int (nI (7 * k))), some (.int ((M_told μ (xs (7 * k + 1)) (xs (7 * k + 2))).2.1 38 0)), v6, v7]) X (xdec_at tL_law_11 32 rfl) (by decide) rfl ?_
  refine v_aload_n X (xdec_at tL_law_11 33 rfl) rfl rfl ?_
  refine v_aload_n X (xdec_at tL_law_11 34 rfl) rfl rfl ?_
  refine v_iload X (xdec_at tL_law_11 35 rfl) rfl ?_
  refine v_iconst (v := 1) X (xdec_at tL_law_11 36 rfl) (by decide) ?_
  refine v_iadd X (xdec_at tL_law_11 37 rfl) ?_
  refine v_sld X hX hbl (nI_add (7 * k) 1) (by omega) hLn (xdec_at tL_law_11 38 rfl) ?_
  refine v_aload_n X (xdec_at tL_law_11 39 rfl) rfl rfl ?_
  refine v_iload X (xdec_at tL_law_12 0 rfl) rfl ?_
  refine v_iconst (v := 2) X (xdec_at tL_law_12 1 rfl) (by decide) ?_
  refine v_iadd X (xdec_at tL_law_12 2 rfl) ?_
  refine v_sld X hX hbl (nI_add (7 * k) 2) (by omega) hLn (xdec_at tL_law_12 3 rfl) ?_
  refine v_callV X myX5_daysAnew [.int (xs (7 * k + 1)), .int (xs (7 * k + 2))] [] (c_daysAnew l Z s.heap.size lay' μ (cX Z lay' (M_told μ (xs (7 * k + 1)) (xs (7 * k + 2))).2 tb9 (oW Z o9)) (xs (7 * k + 1)) (xs (7 * k + 2)) hL.1.1) (xw_at tW_19 5 rfl) (100, 0) cM_0 rfl rfl rfl rfl (by rfl) (Nat.le_of_ble_eq_true rfl) (xdec_at tL_law_12 4 rfl) ⟨(Nat.le_of_ble_eq_true rfl), (Nat.le_of_ble_eq_true rfl)⟩ (RMf hRM' (by omega) hL'.1 (by decide) (by decide)) ?_
  rintro v9 lay9 C9 ⟨rfl, rfl, rfl⟩
  refine v_istore (lv' := [some (.ref b), some (.ref (lay' (0, 0))), some (.ref (lay' (100, 0))), some (.ref (lay' (300, 0))), some (.int (nI (7 * k))), some (.int ((M_told μ (xs (7 * k + 1)) (xs (7 * k + 2))).2.1 38 0)), some (.int (M_told μ (xs (7 * k + 1)) (xs (7 * k + 2))).1), v7]) X (xdec_at tL_law_12 5 rfl) (by decide) rfl ?_
  refine v_aload_n X (xdec_at tL_law_12 6 rfl) rfl rfl ?_
  refine v_callV X myX5_thrown [] [] (c_thrown l Z s.heap.size lay' (M_told μ (xs (7 * k + 1)) (xs (7 * k + 2))).2 (cX Z lay' (M_told μ (xs (7 * k + 1)) (xs (7 * k + 2))).2 tb9 (oW Z o9))) (xw_at tW_17 23 rfl) (100, 0) cM_0 rfl rfl rfl rfl (by rfl) (Nat.le_of_ble_eq_true rfl) (xdec_at tL_law_12 7 rfl) ⟨(Nat.le_of_ble_eq_true rfl), (Nat.le_of_ble_eq_true rfl)⟩ (RMf hRM' (by omega) hL'.1 (by decide) (by decide)) ?_
  rintro v9 lay9 C9 ⟨rfl, rfl, rfl⟩
  refine v_iload X (xdec_at tL_law_12 8 rfl) rfl ?_
  refine v_icmp_eq (tgt := 870) X (xdec_at tL_law_12 9 rfl) (by decide) (fun _ => ?_) (fun h9 => absurd rfl h9)
  refine v_iload X (xdec_at tL_law_12 12 rfl) rfl ?_
  refine v_if_ne (tgt := 887) X (xdec_at tL_law_12 13 rfl) (by decide) (fun c_872 => ?_) (fun c_872 => ?_)
  · refine v_goto (tgt := 1991) X (xdec_at tL_law_12 23 rfl) (by decide) ?_
    exact kk lay' (M_told μ (xs (7 * k + 1)) (xs (7 * k + 2))).2 tb9 o9 _ _ _ _ _ hL' hRM'
  · refine v_aload_n X (xdec_at tL_law_12 14 rfl) rfl rfl ?_
    refine v_iconst (v := 0) X (xdec_at tL_law_12 15 rfl) (by decide) ?_
    refine x_lald (v := o9 0) X (300, 0) cW_o (vp_in_nI (n := 0) (N := 1) (by decide) (by decide)) rfl rfl (xdec_at tL_law_12 16 rfl) ?_
    refine v_iload X (xdec_at tL_law_12 17 rfl) rfl ?_
    refine v_i2l X (xdec_at tL_law_12 18 rfl) rfl ?_
    refine v_lcmp X (xdec_at tL_law_12 19 rfl) ?_
    refine v_if_eq (tgt := 887) X (xdec_at tL_law_12 20 rfl) (by decide) (fun _ => ?_) (fun h9 => absurd (lcz ((congrFun (ho c_872) 0).trans (if_pos rfl))) h9)
    refine v_goto (tgt := 1991) X (xdec_at tL_law_12 23 rfl) (by decide) ?_
    exact kk lay' (M_told μ (xs (7 * k + 1)) (xs (7 * k + 2))).2 tb9 o9 _ _ _ _ _ hL' hRM'
set_option maxRecDepth 100000 in
set_option maxHeartbeats 4000000 in
theorem lc_next {p : Program} {l : Launch} {e : Env} {s : State} {m : MethodId} {below : List Frame} {meth : Method} {c : Code} {Z : xZ} {b L k : Nat} {xs : Nat → Int32} {lay : xK → Nat} {μ : Mu} {tb : Tb} {o : Nat → Int64} {cells slots : Nat} {v5 v6 v7 : Option Value} (hl0 : l.stackTraces = false) (X : Cx p m meth c cL_law 8 s #[Value.ref b] RL Z s.heap.size) (hE : xEx s.heap.size s ∧ xNc s) (hX : va_X b L xs s s.heap) (hbl : b < s.heap.size) (hLn : L ≤ 3584) (hk : 7 * k + 7 ≤ L) (hL : LI μ tb k) (hRM : RM cells slots k tb) (kk : LK p l e s m below meth c Z b k) : V p l e room_1 s m #[Value.ref b] below meth c (lw_Z below #[Value.ref b] s) Z s.heap.size 8 lay (cM Z lay μ (cX Z lay μ tb (oW Z o))) cells slots 890 [some (.ref b), some (.ref (lay (0, 0))), some (.ref (lay (100, 0))), some (.ref (lay (300, 0))), some (.int (nI (7 * k))), v5, v6, v7] [] := by
  have hk5 : k < 512 := by omega
  refine v_aload_n X (xdec_at tL_law_12 24 rfl) rfl rfl ?_
  refine v_aload_n X (xdec_at tL_law_12 25 rfl) rfl rfl ?_
  refine v_iload X (xdec_at tL_law_12 26 rfl) rfl ?_
  refine v_iconst (v := 1) X (xdec_at tL_law_12 27 rfl) (by decide) ?_
  refine v_iadd X (xdec_at tL_law_12 28 rfl) ?_
  refine v_sld X hX hbl (nI_add (7 * k) 1) (by omega) hLn (xdec_at tL_law_12 29 rfl) ?_
  refine v_aload_n X (xdec_at tL_law_12 30 rfl) rfl rfl ?_
  refine v_iload X (xdec_at tL_law_12 31 rfl) rfl ?_
  refine v_iconst (v := 2) X (xdec_at tL_law_12 32 rfl) (by decide) ?_
  refine v_iadd X (xdec_at tL_law_12 33 rfl) ?_
  refine v_sld X hX hbl (nI_add (7 * k) 2) (by omega) hLn (xdec_at tL_law_12 34 rfl) ?_
  refine v_aload_n X (xdec_at tL_law_12 35 rfl) rfl rfl ?_
  refine v_law X hE hL mw_next [.ref (lay (0, 0)), .int (xs (7 * k + 1)), .int (xs (7 * k + 2)), .ref (lay (300, 0))] [] (w_next l hl0 Z s.heap.size lay μ tb (cM Z lay μ (oW Z o)) hL.1.1 (xs (7 * k + 1)) (xs (7 * k + 2)) (hL.1.2.2.2.1.ts hL.1.1 hL.1.2.1.1) o rfl) oW_up (cs_LI (cs_next _ _) (told_38 _ _) (fun hc => ni_told hL.1 _)) (RMu hRM (by decide) (by decide) (Nat.le_refl (Pp tb))) (xw_at tW_9 9 rfl) rfl (by rfl) (Nat.le_of_ble_eq_true rfl) (xdec_at tL_law_12 36 rfl) ⟨(Nat.le_of_ble_eq_true rfl), (Nat.le_of_ble_eq_true rfl)⟩ (RMf hRM (by omega) hL.1 (by decide) (by decide)) fun lay' tb9 o9 e0 e1 e3 hL' ho hRM' => ?_
  rw [← e0, ← e1, ← e3]
  refine v_istore (lv' := [some (.ref b), some (.ref (lay' (0, 0))), some (.ref (lay' (100, 0))), some (.ref (lay' (300, 0))), some (.int (nI (7 * k))), some (.int ((M_next μ (xs (7 * k + 1)) (xs (7 * k + 2))).2.1 38 0)), v6, v7]) X (xdec_at tL_law_12 37 rfl) (by decide) rfl ?_
  refine v_aload_n X (xdec_at tL_law_12 38 rfl) rfl rfl ?_
  refine v_aload_n X (xdec_at tL_law_12 39 rfl) rfl rfl ?_
  refine v_iload X (xdec_at tL_law_13 0 rfl) rfl ?_
  refine v_iconst (v := 1) X (xdec_at tL_law_13 1 rfl) (by decide) ?_
  refine v_iadd X (xdec_at tL_law_13 2 rfl) ?_
  refine v_sld X hX hbl (nI_add (7 * k) 1) (by omega) hLn (xdec_at tL_law_13 3 rfl) ?_
  refine v_aload_n X (xdec_at tL_law_13 4 rfl) rfl rfl ?_
  refine v_iload X (xdec_at tL_law_13 5 rfl) rfl ?_
  refine v_iconst (v := 2) X (xdec_at tL_law_13 6 rfl) (by decide) ?_
  refine v_iadd X (xdec_at tL_law_13 7 rfl) ?_
  refine v_sld X hX hbl (nI_add (7 * k) 2) (by omega) hLn (xdec_at tL_law_13 8 rfl) ?_
  refine v_callV X myX5_next [.int (xs (7 * k + 1)), .int (xs (7 * k + 2))] [] (c_next l Z s.heap.size lay' μ (cX Z lay' (M_next μ (xs (7 * k + 1)) (xs (7 * k + 2))).2 tb9 (oW Z o9)) (xs (7 * k + 1)) (xs (7 * k + 2)) hL.1.1) (xw_at tW_19 9 rfl) (100, 0) cM_0 rfl rfl rfl rfl (by rfl) (Nat.le_of_ble_eq_true rfl) (xdec_at tL_law_13 9 rfl) ⟨(Nat.le_of_ble_eq_true rfl), (Nat.le_of_ble_eq_true rfl)⟩ (RMf hRM' (by omega) hL'.1 (by decide) (by decide)) ?_
  rintro v9 lay9 C9 ⟨rfl, rfl, rfl⟩
  refine v_istore (lv' := [some (.ref b), some (.ref (lay' (0, 0))), some (.ref (lay' (100, 0))), some (.ref (lay' (300, 0))), some (.int (nI (7 * k))), some (.int ((M_next μ (xs (7 * k + 1)) (xs (7 * k + 2))).2.1 38 0)), some (.int (M_next μ (xs (7 * k + 1)) (xs (7 * k + 2))).1), v7]) X (xdec_at tL_law_13 10 rfl) (by decide) rfl ?_
  refine v_aload_n X (xdec_at tL_law_13 11 rfl) rfl rfl ?_
  refine v_callV X myX5_thrown [] [] (c_thrown l Z s.heap.size lay' (M_next μ (xs (7 * k + 1)) (xs (7 * k + 2))).2 (cX Z lay' (M_next μ (xs (7 * k + 1)) (xs (7 * k + 2))).2 tb9 (oW Z o9))) (xw_at tW_17 23 rfl) (100, 0) cM_0 rfl rfl rfl rfl (by rfl) (Nat.le_of_ble_eq_true rfl) (xdec_at tL_law_13 12 rfl) ⟨(Nat.le_of_ble_eq_true rfl), (Nat.le_of_ble_eq_true rfl)⟩ (RMf hRM' (by omega) hL'.1 (by decide) (by decide)) ?_
  rintro v9 lay9 C9 ⟨rfl, rfl, rfl⟩
  refine v_iload X (xdec_at tL_law_13 13 rfl) rfl ?_
  refine v_icmp_eq (tgt := 938) X (xdec_at tL_law_13 14 rfl) (by decide) (fun _ => ?_) (fun h9 => absurd rfl h9)
  refine v_iload X (xdec_at tL_law_13 17 rfl) rfl ?_
  refine v_if_ne (tgt := 955) X (xdec_at tL_law_13 18 rfl) (by decide) (fun c_940 => ?_) (fun c_940 => ?_)
  · refine v_goto (tgt := 1991) X (xdec_at tL_law_13 28 rfl) (by decide) ?_
    exact kk lay' (M_next μ (xs (7 * k + 1)) (xs (7 * k + 2))).2 tb9 o9 _ _ _ _ _ hL' hRM'
  · refine v_aload_n X (xdec_at tL_law_13 19 rfl) rfl rfl ?_
    refine v_iconst (v := 0) X (xdec_at tL_law_13 20 rfl) (by decide) ?_
    refine x_lald (v := o9 0) X (300, 0) cW_o (vp_in_nI (n := 0) (N := 1) (by decide) (by decide)) rfl rfl (xdec_at tL_law_13 21 rfl) ?_
    refine v_iload X (xdec_at tL_law_13 22 rfl) rfl ?_
    refine v_i2l X (xdec_at tL_law_13 23 rfl) rfl ?_
    refine v_lcmp X (xdec_at tL_law_13 24 rfl) ?_
    refine v_if_eq (tgt := 955) X (xdec_at tL_law_13 25 rfl) (by decide) (fun _ => ?_) (fun h9 => absurd (lcz ((congrFun (ho c_940) 0).trans (if_pos rfl))) h9)
    refine v_goto (tgt := 1991) X (xdec_at tL_law_13 28 rfl) (by decide) ?_
    exact kk lay' (M_next μ (xs (7 * k + 1)) (xs (7 * k + 2))).2 tb9 o9 _ _ _ _ _ hL' hRM'
set_option maxRecDepth 100000 in
set_option maxHeartbeats 4000000 in
theorem lc_mail {p : Program} {l : Launch} {e : Env} {s : State} {m : MethodId} {below : List Frame} {meth : Method} {c : Code} {Z : xZ} {b L k : Nat} {xs : Nat → Int32} {lay : xK → Nat} {μ : Mu} {tb : Tb} {o : Nat → Int64} {cells slots : Nat} {v5 v6 v7 : Option Value} (hl0 : l.stackTraces = false) (X : Cx p m meth c cL_law 8 s #[Value.ref b] RL Z s.heap.size) (hE : xEx s.heap.size s ∧ xNc s) (hX : va_X b L xs s s.heap) (hbl : b < s.heap.size) (hLn : L ≤ 3584) (hk : 7 * k + 7 ≤ L) (hL : LI μ tb k) (hRM : RM cells slots k tb) (kk : LK p l e s m below meth c Z b k) : V p l e room_1 s m #[Value.ref b] below meth c (lw_Z below #[Value.ref b] s) Z s.heap.size 8 lay (cM Z lay μ (cX Z lay μ tb (oW Z o))) cells slots 958 [some (.ref b), some (.ref (lay (0, 0))), some (.ref (lay (100, 0))), some (.ref (lay (300, 0))), some (.int (nI (7 * k))), v5, v6, v7] [] := by
  have hk5 : k < 512 := by omega
  have hS := hL.2.S hL.1.1 (by omega)
  refine v_aload_n X (xdec_at tL_law_13 29 rfl) rfl rfl ?_
  refine v_aload_n X (xdec_at tL_law_13 30 rfl) rfl rfl ?_
  refine v_iload X (xdec_at tL_law_13 31 rfl) rfl ?_
  refine v_iconst (v := 1) X (xdec_at tL_law_13 32 rfl) (by decide) ?_
  refine v_iadd X (xdec_at tL_law_13 33 rfl) ?_
  refine v_sld X hX hbl (nI_add (7 * k) 1) (by omega) hLn (xdec_at tL_law_13 34 rfl) ?_
  refine v_aload_n X (xdec_at tL_law_13 35 rfl) rfl rfl ?_
  refine v_iload X (xdec_at tL_law_13 36 rfl) rfl ?_
  refine v_iconst (v := 2) X (xdec_at tL_law_13 37 rfl) (by decide) ?_
  refine v_iadd X (xdec_at tL_law_13 38 rfl) ?_
  refine v_sld X hX hbl (nI_add (7 * k) 2) (by omega) hLn (xdec_at tL_law_13 39 rfl) ?_
  refine v_aload_n X (xdec_at tL_law_14 0 rfl) rfl rfl ?_
  refine v_iload X (xdec_at tL_law_14 1 rfl) rfl ?_
  refine v_iconst (v := 3) X (xdec_at tL_law_14 2 rfl) (by decide) ?_
  refine v_iadd X (xdec_at tL_law_14 3 rfl) ?_
  refine v_sld X hX hbl (nI_add (7 * k) 3) (by omega) hLn (xdec_at tL_law_14 4 rfl) ?_
  refine v_aload_n X (xdec_at tL_law_14 5 rfl) rfl rfl ?_
  refine v_iload X (xdec_at tL_law_14 6 rfl) rfl ?_
  refine v_iconst (v := 4) X (xdec_at tL_law_14 7 rfl) (by decide) ?_
  refine v_iadd X (xdec_at tL_law_14 8 rfl) ?_
  refine v_sld X hX hbl (nI_add (7 * k) 4) (by omega) hLn (xdec_at tL_law_14 9 rfl) ?_
  refine v_aload_n X (xdec_at tL_law_14 10 rfl) rfl rfl ?_
  refine v_iload X (xdec_at tL_law_14 11 rfl) rfl ?_
  refine v_iconst (v := 5) X (xdec_at tL_law_14 12 rfl) (by decide) ?_
  refine v_iadd X (xdec_at tL_law_14 13 rfl) ?_
  refine v_sld X hX hbl (nI_add (7 * k) 5) (by omega) hLn (xdec_at tL_law_14 14 rfl) ?_
  refine v_aload_n X (xdec_at tL_law_14 15 rfl) rfl rfl ?_
  refine v_iload X (xdec_at tL_law_14 16 rfl) rfl ?_
  refine v_bipush (v := 6) X (xdec_at tL_law_14 17 rfl) (by decide) ?_
  refine v_iadd X (xdec_at tL_law_14 18 rfl) ?_
  refine v_sld X hX hbl (nI_add (7 * k) 6) (by omega) hLn (xdec_at tL_law_14 19 rfl) ?_
  refine v_if_eq (tgt := 1003) X (xdec_at tL_law_14 20 rfl) (by decide) (fun c_996 => ?_) (fun c_996 => ?_)
  · refine v_iconst (v := 0) X (xdec_at tL_law_14 23 rfl) (by decide) ?_
    refine v_aload_n X (xdec_at tL_law_14 24 rfl) rfl rfl ?_
    refine v_law X hE hL mw_mail [.ref (lay (0, 0)), .int (xs (7 * k + 1)), .int (xs (7 * k + 2)), .int (xs (7 * k + 3)), .int (xs (7 * k + 4)), .int (xs (7 * k + 5)), .int 0, .ref (lay (300, 0))] [] (w_mail l hl0 Z s.heap.size lay μ tb (cM Z lay μ (oW Z o)) hL.1.1 (xs (7 * k + 1)) (xs (7 * k + 2)) (xs (7 * k + 3)) (xs (7 * k + 4)) (xs (7 * k + 5)) 0 hL.1.2.1 (Or.inl rfl) rfl hS o rfl) oW_up (cs_LI (cs_mail _ _ _ _ _ _) (mailS_38 _ _ _ _ _ _ _) (fun hc => ni_mail hL.1 (by omega) hS hc (Or.inl rfl))) (RMu hRM (by decide) (by decide) (Pp_mail hL.1 _ _)) (xw_at tW_9 20 rfl) rfl (by rfl) (Nat.le_of_ble_eq_true rfl) (xdec_at tL_law_14 25 rfl) ⟨(Nat.le_of_ble_eq_true rfl), (Nat.le_of_ble_eq_true rfl)⟩ (RMf hRM (by omega) hL.1 (by decide) (by decide)) fun lay' tb9 o9 e0 e1 e3 hL' ho hRM' => ?_
    rw [← e0, ← e1, ← e3]
    refine v_istore (lv' := [some (.ref b), some (.ref (lay' (0, 0))), some (.ref (lay' (100, 0))), some (.ref (lay' (300, 0))), some (.int (nI (7 * k))), some (.int ((M_mail μ (xs (7 * k + 1)) (xs (7 * k + 2)) (xs (7 * k + 3)) (xs (7 * k + 4)) (xs (7 * k + 5)) 0).2.1 38 0)), v6, v7]) X (xdec_at tL_law_14 26 rfl) (by decide) rfl ?_
    refine v_aload_n X (xdec_at tL_law_14 27 rfl) rfl rfl ?_
    refine v_aload_n X (xdec_at tL_law_14 28 rfl) rfl rfl ?_
    refine v_iload X (xdec_at tL_law_14 29 rfl) rfl ?_
    refine v_iconst (v := 1) X (xdec_at tL_law_14 30 rfl) (by decide) ?_
    refine v_iadd X (xdec_at tL_law_14 31 rfl) ?_
    refine v_sld X hX hbl (nI_add (7 * k) 1) (by omega) hLn (xdec_at tL_law_14 32 rfl) ?_
    refine v_aload_n X (xdec_at tL_law_14 33 rfl) rfl rfl ?_
    refine v_iload X (xdec_at tL_law_14 34 rfl) rfl ?_
    refine v_iconst (v := 2) X (xdec_at tL_law_14 35 rfl) (by decide) ?_
    refine v_iadd X (xdec_at tL_law_14 36 rfl) ?_
    refine v_sld X hX hbl (nI_add (7 * k) 2) (by omega) hLn (xdec_at tL_law_14 37 rfl) ?_
    refine v_aload_n X (xdec_at tL_law_14 38 rfl) rfl rfl ?_
    refine v_iload X (xdec_at tL_law_14 39 rfl) rfl ?_
    refine v_iconst (v := 3) X (xdec_at tL_law_15 0 rfl) (by decide) ?_
    refine v_iadd X (xdec_at tL_law_15 1 rfl) ?_
    refine v_sld X hX hbl (nI_add (7 * k) 3) (by omega) hLn (xdec_at tL_law_15 2 rfl) ?_
    refine v_aload_n X (xdec_at tL_law_15 3 rfl) rfl rfl ?_
    refine v_iload X (xdec_at tL_law_15 4 rfl) rfl ?_
    refine v_iconst (v := 4) X (xdec_at tL_law_15 5 rfl) (by decide) ?_
    refine v_iadd X (xdec_at tL_law_15 6 rfl) ?_
    refine v_sld X hX hbl (nI_add (7 * k) 4) (by omega) hLn (xdec_at tL_law_15 7 rfl) ?_
    refine v_aload_n X (xdec_at tL_law_15 8 rfl) rfl rfl ?_
    refine v_iload X (xdec_at tL_law_15 9 rfl) rfl ?_
    refine v_iconst (v := 5) X (xdec_at tL_law_15 10 rfl) (by decide) ?_
    refine v_iadd X (xdec_at tL_law_15 11 rfl) ?_
    refine v_sld X hX hbl (nI_add (7 * k) 5) (by omega) hLn (xdec_at tL_law_15 12 rfl) ?_
    refine v_aload_n X (xdec_at tL_law_15 13 rfl) rfl rfl ?_
    refine v_iload X (xdec_at tL_law_15 14 rfl) rfl ?_
    refine v_bipush (v := 6) X (xdec_at tL_law_15 15 rfl) (by decide) ?_
    refine v_iadd X (xdec_at tL_law_15 16 rfl) ?_
    refine v_sld X hX hbl (nI_add (7 * k) 6) (by omega) hLn (xdec_at tL_law_15 17 rfl) ?_
    refine v_if_eq (tgt := 1055) X (xdec_at tL_law_15 18 rfl) (by decide) (fun _ => ?_) (fun h9 => absurd c_996 h9)
    refine v_iconst (v := 0) X (xdec_at tL_law_15 21 rfl) (by decide) ?_
    refine v_callV X myX5_mail [.int (xs (7 * k + 1)), .int (xs (7 * k + 2)), .int (xs (7 * k + 3)), .int (xs (7 * k + 4)), .int (xs (7 * k + 5)), .int 0] [] (c_mail l Z s.heap.size lay' μ (cX Z lay' (M_mail μ (xs (7 * k + 1)) (xs (7 * k + 2)) (xs (7 * k + 3)) (xs (7 * k + 4)) (xs (7 * k + 5)) 0).2 tb9 (oW Z o9)) (xs (7 * k + 1)) (xs (7 * k + 2)) (xs (7 * k + 3)) (xs (7 * k + 4)) (xs (7 * k + 5)) 0 hL.1.1 (Or.inl rfl)) (xw_at tW_19 22 rfl) (100, 0) cM_0 rfl rfl rfl rfl (by rfl) (Nat.le_of_ble_eq_true rfl) (xdec_at tL_law_15 22 rfl) ⟨(Nat.le_of_ble_eq_true rfl), (Nat.le_of_ble_eq_true rfl)⟩ (RMf hRM' (by omega) hL'.1 (by decide) (by decide)) ?_
    rintro v9 lay9 C9 ⟨rfl, rfl, rfl⟩
    refine v_istore (lv' := [some (.ref b), some (.ref (lay' (0, 0))), some (.ref (lay' (100, 0))), some (.ref (lay' (300, 0))), some (.int (nI (7 * k))), some (.int ((M_mail μ (xs (7 * k + 1)) (xs (7 * k + 2)) (xs (7 * k + 3)) (xs (7 * k + 4)) (xs (7 * k + 5)) 0).2.1 38 0)), some (.int (M_mail μ (xs (7 * k + 1)) (xs (7 * k + 2)) (xs (7 * k + 3)) (xs (7 * k + 4)) (xs (7 * k + 5)) 0).1), v7]) X (xdec_at tL_law_15 23 rfl) (by decide) rfl ?_
    refine v_aload_n X (xdec_at tL_law_15 24 rfl) rfl rfl ?_
    refine v_callV X myX5_thrown [] [] (c_thrown l Z s.heap.size lay' (M_mail μ (xs (7 * k + 1)) (xs (7 * k + 2)) (xs (7 * k + 3)) (xs (7 * k + 4)) (xs (7 * k + 5)) 0).2 (cX Z lay' (M_mail μ (xs (7 * k + 1)) (xs (7 * k + 2)) (xs (7 * k + 3)) (xs (7 * k + 4)) (xs (7 * k + 5)) 0).2 tb9 (oW Z o9))) (xw_at tW_17 23 rfl) (100, 0) cM_0 rfl rfl rfl rfl (by rfl) (Nat.le_of_ble_eq_true rfl) (xdec_at tL_law_15 25 rfl) ⟨(Nat.le_of_ble_eq_true rfl), (Nat.le_of_ble_eq_true rfl)⟩ (RMf hRM' (by omega) hL'.1 (by decide) (by decide)) ?_
    rintro v9 lay9 C9 ⟨rfl, rfl, rfl⟩
    refine v_iload X (xdec_at tL_law_15 26 rfl) rfl ?_
    refine v_icmp_eq (tgt := 1072) X (xdec_at tL_law_15 27 rfl) (by decide) (fun _ => ?_) (fun h9 => absurd rfl h9)
    refine v_iload X (xdec_at tL_law_15 30 rfl) rfl ?_
    refine v_if_ne (tgt := 1089) X (xdec_at tL_law_15 31 rfl) (by decide) (fun c_1074 => ?_) (fun c_1074 => ?_)
    · refine v_goto (tgt := 1991) X (xdec_at tL_law_16 1 rfl) (by decide) ?_
      exact kk lay' (M_mail μ (xs (7 * k + 1)) (xs (7 * k + 2)) (xs (7 * k + 3)) (xs (7 * k + 4)) (xs (7 * k + 5)) 0).2 tb9 o9 _ _ _ _ _ hL' hRM'
    · refine v_aload_n X (xdec_at tL_law_15 32 rfl) rfl rfl ?_
      refine v_iconst (v := 0) X (xdec_at tL_law_15 33 rfl) (by decide) ?_
      refine x_lald (v := o9 0) X (300, 0) cW_o (vp_in_nI (n := 0) (N := 1) (by decide) (by decide)) rfl rfl (xdec_at tL_law_15 34 rfl) ?_
      refine v_iload X (xdec_at tL_law_15 35 rfl) rfl ?_
      refine v_i2l X (xdec_at tL_law_15 36 rfl) rfl ?_
      refine v_lcmp X (xdec_at tL_law_15 37 rfl) ?_
      refine v_if_eq (tgt := 1089) X (xdec_at tL_law_15 38 rfl) (by decide) (fun _ => ?_) (fun h9 => absurd (lcz ((congrFun (ho c_1074) 0).trans (if_pos rfl))) h9)
      refine v_goto (tgt := 1991) X (xdec_at tL_law_16 1 rfl) (by decide) ?_
      exact kk lay' (M_mail μ (xs (7 * k + 1)) (xs (7 * k + 2)) (xs (7 * k + 3)) (xs (7 * k + 4)) (xs (7 * k + 5)) 0).2 tb9 o9 _ _ _ _ _ hL' hRM'
  · refine v_iconst (v := 1) X (xdec_at tL_law_14 21 rfl) (by decide) ?_
    refine v_goto (tgt := 1004) X (xdec_at tL_law_14 22 rfl) (by decide) ?_
    refine v_aload_n X (xdec_at tL_law_14 24 rfl) rfl rfl ?_
    refine v_law X hE hL mw_mail [.ref (lay (0, 0)), .int (xs (7 * k + 1)), .int (xs (7 * k + 2)), .int (xs (7 * k + 3)), .int (xs (7 * k + 4)), .int (xs (7 * k + 5)), .int 1, .ref (lay (300, 0))] [] (w_mail l hl0 Z s.heap.size lay μ tb (cM Z lay μ (oW Z o)) hL.1.1 (xs (7 * k + 1)) (xs (7 * k + 2)) (xs (7 * k + 3)) (xs (7 * k + 4)) (xs (7 * k + 5)) 1 hL.1.2.1 (Or.inr rfl) rfl hS o rfl) oW_up (cs_LI (cs_mail _ _ _ _ _ _) (mailS_38 _ _ _ _ _ _ _) (fun hc => ni_mail hL.1 (by omega) hS hc (Or.inr rfl))) (RMu hRM (by decide) (by decide) (Pp_mail hL.1 _ _)) (xw_at tW_9 20 rfl) rfl (by rfl) (Nat.le_of_ble_eq_true rfl) (xdec_at tL_law_14 25 rfl) ⟨(Nat.le_of_ble_eq_true rfl), (Nat.le_of_ble_eq_true rfl)⟩ (RMf hRM (by omega) hL.1 (by decide) (by decide)) fun lay' tb9 o9 e0 e1 e3 hL' ho hRM' => ?_
    rw [← e0, ← e1, ← e3]
    refine v_istore (lv' := [some (.ref b), some (.ref (lay' (0, 0))), some (.ref (lay' (100, 0))), some (.ref (lay' (300, 0))), some (.int (nI (7 * k))), some (.int ((M_mail μ (xs (7 * k + 1)) (xs (7 * k + 2)) (xs (7 * k + 3)) (xs (7 * k + 4)) (xs (7 * k + 5)) 1).2.1 38 0)), v6, v7]) X (xdec_at tL_law_14 26 rfl) (by decide) rfl ?_
    refine v_aload_n X (xdec_at tL_law_14 27 rfl) rfl rfl ?_
    refine v_aload_n X (xdec_at tL_law_14 28 rfl) rfl rfl ?_
    refine v_iload X (xdec_at tL_law_14 29 rfl) rfl ?_
    refine v_iconst (v := 1) X (xdec_at tL_law_14 30 rfl) (by decide) ?_
    refine v_iadd X (xdec_at tL_law_14 31 rfl) ?_
    refine v_sld X hX hbl (nI_add (7 * k) 1) (by omega) hLn (xdec_at tL_law_14 32 rfl) ?_
    refine v_aload_n X (xdec_at tL_law_14 33 rfl) rfl rfl ?_
    refine v_iload X (xdec_at tL_law_14 34 rfl) rfl ?_
    refine v_iconst (v := 2) X (xdec_at tL_law_14 35 rfl) (by decide) ?_
    refine v_iadd X (xdec_at tL_law_14 36 rfl) ?_
    refine v_sld X hX hbl (nI_add (7 * k) 2) (by omega) hLn (xdec_at tL_law_14 37 rfl) ?_
    refine v_aload_n X (xdec_at tL_law_14 38 rfl) rfl rfl ?_
    refine v_iload X (xdec_at tL_law_14 39 rfl) rfl ?_
    refine v_iconst (v := 3) X (xdec_at tL_law_15 0 rfl) (by decide) ?_
    refine v_iadd X (xdec_at tL_law_15 1 rfl) ?_
    refine v_sld X hX hbl (nI_add (7 * k) 3) (by omega) hLn (xdec_at tL_law_15 2 rfl) ?_
    refine v_aload_n X (xdec_at tL_law_15 3 rfl) rfl rfl ?_
    refine v_iload X (xdec_at tL_law_15 4 rfl) rfl ?_
    refine v_iconst (v := 4) X (xdec_at tL_law_15 5 rfl) (by decide) ?_
    refine v_iadd X (xdec_at tL_law_15 6 rfl) ?_
    refine v_sld X hX hbl (nI_add (7 * k) 4) (by omega) hLn (xdec_at tL_law_15 7 rfl) ?_
    refine v_aload_n X (xdec_at tL_law_15 8 rfl) rfl rfl ?_
    refine v_iload X (xdec_at tL_law_15 9 rfl) rfl ?_
    refine v_iconst (v := 5) X (xdec_at tL_law_15 10 rfl) (by decide) ?_
    refine v_iadd X (xdec_at tL_law_15 11 rfl) ?_
    refine v_sld X hX hbl (nI_add (7 * k) 5) (by omega) hLn (xdec_at tL_law_15 12 rfl) ?_
    refine v_aload_n X (xdec_at tL_law_15 13 rfl) rfl rfl ?_
    refine v_iload X (xdec_at tL_law_15 14 rfl) rfl ?_
    refine v_bipush (v := 6) X (xdec_at tL_law_15 15 rfl) (by decide) ?_
    refine v_iadd X (xdec_at tL_law_15 16 rfl) ?_
    refine v_sld X hX hbl (nI_add (7 * k) 6) (by omega) hLn (xdec_at tL_law_15 17 rfl) ?_
    refine v_if_eq (tgt := 1055) X (xdec_at tL_law_15 18 rfl) (by decide) (fun h9 => absurd h9 c_996) (fun _ => ?_)
    refine v_iconst (v := 1) X (xdec_at tL_law_15 19 rfl) (by decide) ?_
    refine v_goto (tgt := 1056) X (xdec_at tL_law_15 20 rfl) (by decide) ?_
    refine v_callV X myX5_mail [.int (xs (7 * k + 1)), .int (xs (7 * k + 2)), .int (xs (7 * k + 3)), .int (xs (7 * k + 4)), .int (xs (7 * k + 5)), .int 1] [] (c_mail l Z s.heap.size lay' μ (cX Z lay' (M_mail μ (xs (7 * k + 1)) (xs (7 * k + 2)) (xs (7 * k + 3)) (xs (7 * k + 4)) (xs (7 * k + 5)) 1).2 tb9 (oW Z o9)) (xs (7 * k + 1)) (xs (7 * k + 2)) (xs (7 * k + 3)) (xs (7 * k + 4)) (xs (7 * k + 5)) 1 hL.1.1 (Or.inr rfl)) (xw_at tW_19 22 rfl) (100, 0) cM_0 rfl rfl rfl rfl (by rfl) (Nat.le_of_ble_eq_true rfl) (xdec_at tL_law_15 22 rfl) ⟨(Nat.le_of_ble_eq_true rfl), (Nat.le_of_ble_eq_true rfl)⟩ (RMf hRM' (by omega) hL'.1 (by decide) (by decide)) ?_
    rintro v9 lay9 C9 ⟨rfl, rfl, rfl⟩
    refine v_istore (lv' := [some (.ref b), some (.ref (lay' (0, 0))), some (.ref (lay' (100, 0))), some (.ref (lay' (300, 0))), some (.int (nI (7 * k))), some (.int ((M_mail μ (xs (7 * k + 1)) (xs (7 * k + 2)) (xs (7 * k + 3)) (xs (7 * k + 4)) (xs (7 * k + 5)) 1).2.1 38 0)), some (.int (M_mail μ (xs (7 * k + 1)) (xs (7 * k + 2)) (xs (7 * k + 3)) (xs (7 * k + 4)) (xs (7 * k + 5)) 1).1), v7]) X (xdec_at tL_law_15 23 rfl) (by decide) rfl ?_
    refine v_aload_n X (xdec_at tL_law_15 24 rfl) rfl rfl ?_
    refine v_callV X myX5_thrown [] [] (c_thrown l Z s.heap.size lay' (M_mail μ (xs (7 * k + 1)) (xs (7 * k + 2)) (xs (7 * k + 3)) (xs (7 * k + 4)) (xs (7 * k + 5)) 1).2 (cX Z lay' (M_mail μ (xs (7 * k + 1)) (xs (7 * k + 2)) (xs (7 * k + 3)) (xs (7 * k + 4)) (xs (7 * k + 5)) 1).2 tb9 (oW Z o9))) (xw_at tW_17 23 rfl) (100, 0) cM_0 rfl rfl rfl rfl (by rfl) (Nat.le_of_ble_eq_true rfl) (xdec_at tL_law_15 25 rfl) ⟨(Nat.le_of_ble_eq_true rfl), (Nat.le_of_ble_eq_true rfl)⟩ (RMf hRM' (by omega) hL'.1 (by decide) (by decide)) ?_
    rintro v9 lay9 C9 ⟨rfl, rfl, rfl⟩
    refine v_iload X (xdec_at tL_law_15 26 rfl) rfl ?_
    refine v_icmp_eq (tgt := 1072) X (xdec_at tL_law_15 27 rfl) (by decide) (fun _ => ?_) (fun h9 => absurd rfl h9)
    refine v_iload X (xdec_at tL_law_15 30 rfl) rfl ?_
    refine v_if_ne (tgt := 1089) X (xdec_at tL_law_15 31 rfl) (by decide) (fun c_1074 => ?_) (fun c_1074 => ?_)
    · refine v_goto (tgt := 1991) X (xdec_at tL_law_16 1 rfl) (by decide) ?_
      exact kk lay' (M_mail μ (xs (7 * k + 1)) (xs (7 * k + 2)) (xs (7 * k + 3)) (xs (7 * k + 4)) (xs (7 * k + 5)) 1).2 tb9 o9 _ _ _ _ _ hL' hRM'
    · refine v_aload_n X (xdec_at tL_law_15 32 rfl) rfl rfl ?_
      refine v_iconst (v := 0) X (xdec_at tL_law_15 33 rfl) (by decide) ?_
      refine x_lald (v := o9 0) X (300, 0) cW_o (vp_in_nI (n := 0) (N := 1) (by decide) (by decide)) rfl rfl (xdec_at tL_law_15 34 rfl) ?_
      refine v_iload X (xdec_at tL_law_15 35 rfl) rfl ?_
      refine v_i2l X (xdec_at tL_law_15 36 rfl) rfl ?_
      refine v_lcmp X (xdec_at tL_law_15 37 rfl) ?_
      refine v_if_eq (tgt := 1089) X (xdec_at tL_law_15 38 rfl) (by decide) (fun _ => ?_) (fun h9 => absurd (lcz ((congrFun (ho c_1074) 0).trans (if_pos rfl))) h9)
      refine v_goto (tgt := 1991) X (xdec_at tL_law_16 1 rfl) (by decide) ?_
      exact kk lay' (M_mail μ (xs (7 * k + 1)) (xs (7 * k + 2)) (xs (7 * k + 3)) (xs (7 * k + 4)) (xs (7 * k + 5)) 1).2 tb9 o9 _ _ _ _ _ hL' hRM'
set_option maxRecDepth 100000 in
set_option maxHeartbeats 4000000 in
theorem lc_redirect {p : Program} {l : Launch} {e : Env} {s : State} {m : MethodId} {below : List Frame} {meth : Method} {c : Code} {Z : xZ} {b L k : Nat} {xs : Nat → Int32} {lay : xK → Nat} {μ : Mu} {tb : Tb} {o : Nat → Int64} {cells slots : Nat} {v5 v6 v7 : Option Value} (hl0 : l.stackTraces = false) (X : Cx p m meth c cL_law 8 s #[Value.ref b] RL Z s.heap.size) (hE : xEx s.heap.size s ∧ xNc s) (hX : va_X b L xs s s.heap) (hbl : b < s.heap.size) (hLn : L ≤ 3584) (hk : 7 * k + 7 ≤ L) (hL : LI μ tb k) (hRM : RM cells slots k tb) (kk : LK p l e s m below meth c Z b k) : V p l e room_1 s m #[Value.ref b] below meth c (lw_Z below #[Value.ref b] s) Z s.heap.size 8 lay (cM Z lay μ (cX Z lay μ tb (oW Z o))) cells slots 1092 [some (.ref b), some (.ref (lay (0, 0))), some (.ref (lay (100, 0))), some (.ref (lay (300, 0))), some (.int (nI (7 * k))), v5, v6, v7] [] := by
  have hk5 : k < 512 := by omega
  refine v_aload_n X (xdec_at tL_law_16 2 rfl) rfl rfl ?_
  refine v_aload_n X (xdec_at tL_law_16 3 rfl) rfl rfl ?_
  refine v_iload X (xdec_at tL_law_16 4 rfl) rfl ?_
  refine v_iconst (v := 1) X (xdec_at tL_law_16 5 rfl) (by decide) ?_
  refine v_iadd X (xdec_at tL_law_16 6 rfl) ?_
  refine v_sld X hX hbl (nI_add (7 * k) 1) (by omega) hLn (xdec_at tL_law_16 7 rfl) ?_
  refine v_aload_n X (xdec_at tL_law_16 8 rfl) rfl rfl ?_
  refine v_iload X (xdec_at tL_law_16 9 rfl) rfl ?_
  refine v_iconst (v := 2) X (xdec_at tL_law_16 10 rfl) (by decide) ?_
  refine v_iadd X (xdec_at tL_law_16 11 rfl) ?_
  refine v_sld X hX hbl (nI_add (7 * k) 2) (by omega) hLn (xdec_at tL_law_16 12 rfl) ?_
  refine v_aload_n X (xdec_at tL_law_16 13 rfl) rfl rfl ?_
  refine v_law X hE hL mw_redirect [.ref (lay (0, 0)), .int (xs (7 * k + 1)), .int (xs (7 * k + 2)), .ref (lay (300, 0))] [] (w_redirect l hl0 Z s.heap.size lay μ tb (cM Z lay μ (oW Z o)) hL.1.1 (xs (7 * k + 1)) (xs (7 * k + 2)) hL.1.2.1 o rfl) oW_up (cs_LI (cs_redirect _ _) (by simp [up2_at]) (fun hc => ni_redirect hL.1 hc)) (RMu hRM (by decide) (by decide) (Nat.le_refl (Pp tb))) (xw_at tW_11 23 rfl) rfl (by rfl) (Nat.le_of_ble_eq_true rfl) (xdec_at tL_law_16 14 rfl) ⟨(Nat.le_of_ble_eq_true rfl), (Nat.le_of_ble_eq_true rfl)⟩ (RMf hRM (by omega) hL.1 (by decide) (by decide)) fun lay' tb9 o9 e0 e1 e3 hL' ho hRM' => ?_
  rw [← e0, ← e1, ← e3]
  refine v_istore (lv' := [some (.ref b), some (.ref (lay' (0, 0))), some (.ref (lay' (100, 0))), some (.ref (lay' (300, 0))), some (.int (nI (7 * k))), some (.int ((M_redirect μ (xs (7 * k + 1)) (xs (7 * k + 2))).2.1 38 0)), v6, v7]) X (xdec_at tL_law_16 15 rfl) (by decide) rfl ?_
  refine v_aload_n X (xdec_at tL_law_16 16 rfl) rfl rfl ?_
  refine v_aload_n X (xdec_at tL_law_16 17 rfl) rfl rfl ?_
  refine v_iload X (xdec_at tL_law_16 18 rfl) rfl ?_
  refine v_iconst (v := 1) X (xdec_at tL_law_16 19 rfl) (by decide) ?_
  refine v_iadd X (xdec_at tL_law_16 20 rfl) ?_
  refine v_sld X hX hbl (nI_add (7 * k) 1) (by omega) hLn (xdec_at tL_law_16 21 rfl) ?_
  refine v_aload_n X (xdec_at tL_law_16 22 rfl) rfl rfl ?_
  refine v_iload X (xdec_at tL_law_16 23 rfl) rfl ?_
  refine v_iconst (v := 2) X (xdec_at tL_law_16 24 rfl) (by decide) ?_
  refine v_iadd X (xdec_at tL_law_16 25 rfl) ?_
  refine v_sld X hX hbl (nI_add (7 * k) 2) (by omega) hLn (xdec_at tL_law_16 26 rfl) ?_
  refine v_callV X myX5_redirect [.int (xs (7 * k + 1)), .int (xs (7 * k + 2))] [] (c_redirect l Z s.heap.size lay' μ (cX Z lay' (M_redirect μ (xs (7 * k + 1)) (xs (7 * k + 2))).2 tb9 (oW Z o9)) (xs (7 * k + 1)) (xs (7 * k + 2)) hL.1.1) (xw_at tW_19 36 rfl) (100, 0) cM_0 rfl rfl rfl rfl (by rfl) (Nat.le_of_ble_eq_true rfl) (xdec_at tL_law_16 27 rfl) ⟨(Nat.le_of_ble_eq_true rfl), (Nat.le_of_ble_eq_true rfl)⟩ (RMf hRM' (by omega) hL'.1 (by decide) (by decide)) ?_
  rintro v9 lay9 C9 ⟨rfl, rfl, rfl⟩
  refine v_istore (lv' := [some (.ref b), some (.ref (lay' (0, 0))), some (.ref (lay' (100, 0))), some (.ref (lay' (300, 0))), some (.int (nI (7 * k))), some (.int ((M_redirect μ (xs (7 * k + 1)) (xs (7 * k + 2))).2.1 38 0)), some (.int (M_redirect μ (xs (7 * k + 1)) (xs (7 * k + 2))).1), v7]) X (xdec_at tL_law_16 28 rfl) (by decide) rfl ?_
  refine v_aload_n X (xdec_at tL_law_16 29 rfl) rfl rfl ?_
  refine v_callV X myX5_thrown [] [] (c_thrown l Z s.heap.size lay' (M_redirect μ (xs (7 * k + 1)) (xs (7 * k + 2))).2 (cX Z lay' (M_redirect μ (xs (7 * k + 1)) (xs (7 * k + 2))).2 tb9 (oW Z o9))) (xw_at tW_17 23 rfl) (100, 0) cM_0 rfl rfl rfl rfl (by rfl) (Nat.le_of_ble_eq_true rfl) (xdec_at tL_law_16 30 rfl) ⟨(Nat.le_of_ble_eq_true rfl), (Nat.le_of_ble_eq_true rfl)⟩ (RMf hRM' (by omega) hL'.1 (by decide) (by decide)) ?_
  rintro v9 lay9 C9 ⟨rfl, rfl, rfl⟩
  refine v_iload X (xdec_at tL_law_16 31 rfl) rfl ?_
  refine v_icmp_eq (tgt := 1140) X (xdec_at tL_law_16 32 rfl) (by decide) (fun _ => ?_) (fun h9 => absurd rfl h9)
  refine v_iload X (xdec_at tL_law_16 35 rfl) rfl ?_
  refine v_if_ne (tgt := 1157) X (xdec_at tL_law_16 36 rfl) (by decide) (fun c_1142 => ?_) (fun c_1142 => ?_)
  · refine v_goto (tgt := 1991) X (xdec_at tL_law_17 6 rfl) (by decide) ?_
    exact kk lay' (M_redirect μ (xs (7 * k + 1)) (xs (7 * k + 2))).2 tb9 o9 _ _ _ _ _ hL' hRM'
  · refine v_aload_n X (xdec_at tL_law_16 37 rfl) rfl rfl ?_
    refine v_iconst (v := 0) X (xdec_at tL_law_16 38 rfl) (by decide) ?_
    refine x_lald (v := o9 0) X (300, 0) cW_o (vp_in_nI (n := 0) (N := 1) (by decide) (by decide)) rfl rfl (xdec_at tL_law_16 39 rfl) ?_
    refine v_iload X (xdec_at tL_law_17 0 rfl) rfl ?_
    refine v_i2l X (xdec_at tL_law_17 1 rfl) rfl ?_
    refine v_lcmp X (xdec_at tL_law_17 2 rfl) ?_
    refine v_if_eq (tgt := 1157) X (xdec_at tL_law_17 3 rfl) (by decide) (fun _ => ?_) (fun h9 => absurd (lcz ((congrFun (ho c_1142) 0).trans (if_pos rfl))) h9)
    refine v_goto (tgt := 1991) X (xdec_at tL_law_17 6 rfl) (by decide) ?_
    exact kk lay' (M_redirect μ (xs (7 * k + 1)) (xs (7 * k + 2))).2 tb9 o9 _ _ _ _ _ hL' hRM'
set_option maxRecDepth 100000 in
set_option maxHeartbeats 4000000 in
theorem lc_refuse {p : Program} {l : Launch} {e : Env} {s : State} {m : MethodId} {below : List Frame} {meth : Method} {c : Code} {Z : xZ} {b L k : Nat} {xs : Nat → Int32} {lay : xK → Nat} {μ : Mu} {tb : Tb} {o : Nat → Int64} {cells slots : Nat} {v5 v6 v7 : Option Value} (hl0 : l.stackTraces = false) (X : Cx p m meth c cL_law 8 s #[Value.ref b] RL Z s.heap.size) (hE : xEx s.heap.size s ∧ xNc s) (hX : va_X b L xs s s.heap) (hbl : b < s.heap.size) (hLn : L ≤ 3584) (hk : 7 * k + 7 ≤ L) (hL : LI μ tb k) (hRM : RM cells slots k tb) (kk : LK p l e s m below meth c Z b k) : V p l e room_1 s m #[Value.ref b] below meth c (lw_Z below #[Value.ref b] s) Z s.heap.size 8 lay (cM Z lay μ (cX Z lay μ tb (oW Z o))) cells slots 1160 [some (.ref b), some (.ref (lay (0, 0))), some (.ref (lay (100, 0))), some (.ref (lay (300, 0))), some (.int (nI (7 * k))), v5, v6, v7] [] := by
  have hk5 : k < 512 := by omega
  refine v_aload_n X (xdec_at tL_law_17 7 rfl) rfl rfl ?_
  refine v_aload_n X (xdec_at tL_law_17 8 rfl) rfl rfl ?_
  refine v_iload X (xdec_at tL_law_17 9 rfl) rfl ?_
  refine v_iconst (v := 1) X (xdec_at tL_law_17 10 rfl) (by decide) ?_
  refine v_iadd X (xdec_at tL_law_17 11 rfl) ?_
  refine v_sld X hX hbl (nI_add (7 * k) 1) (by omega) hLn (xdec_at tL_law_17 12 rfl) ?_
  refine v_aload_n X (xdec_at tL_law_17 13 rfl) rfl rfl ?_
  refine v_iload X (xdec_at tL_law_17 14 rfl) rfl ?_
  refine v_iconst (v := 2) X (xdec_at tL_law_17 15 rfl) (by decide) ?_
  refine v_iadd X (xdec_at tL_law_17 16 rfl) ?_
  refine v_sld X hX hbl (nI_add (7 * k) 2) (by omega) hLn (xdec_at tL_law_17 17 rfl) ?_
  refine v_if_eq (tgt := 1180) X (xdec_at tL_law_17 18 rfl) (by decide) (fun c_1173 => ?_) (fun c_1173 => ?_)
  · refine v_iconst (v := 0) X (xdec_at tL_law_17 21 rfl) (by decide) ?_
    refine v_aload_n X (xdec_at tL_law_17 22 rfl) rfl rfl ?_
    refine v_law X hE hL mw_refuse [.ref (lay (0, 0)), .int (xs (7 * k + 1)), .int 0, .ref (lay (300, 0))] [] (w_refuse l hl0 Z s.heap.size lay μ tb (cM Z lay μ (oW Z o)) hL.1.1 (xs (7 * k + 1)) 0 (Or.inl rfl) o rfl) oW_up (cs_LI (cs_refuse _ _) (by simp [up2_at]) (fun hc => ni_refuse hL.1 hc (Or.inl rfl))) (RMu hRM (by decide) (by decide) (Nat.le_refl (Pp tb))) (xw_at tW_12 0 rfl) rfl (by rfl) (Nat.le_of_ble_eq_true rfl) (xdec_at tL_law_17 23 rfl) ⟨(Nat.le_of_ble_eq_true rfl), (Nat.le_of_ble_eq_true rfl)⟩ (RMf hRM (by omega) hL.1 (by decide) (by decide)) fun lay' tb9 o9 e0 e1 e3 hL' ho hRM' => ?_
    rw [← e0, ← e1, ← e3]
    refine v_istore (lv' := [some (.ref b), some (.ref (lay' (0, 0))), some (.ref (lay' (100, 0))), some (.ref (lay' (300, 0))), some (.int (nI (7 * k))), some (.int ((M_refuse μ (xs (7 * k + 1)) 0).2.1 38 0)), v6, v7]) X (xdec_at tL_law_17 24 rfl) (by decide) rfl ?_
    refine v_aload_n X (xdec_at tL_law_17 25 rfl) rfl rfl ?_
    refine v_aload_n X (xdec_at tL_law_17 26 rfl) rfl rfl ?_
    refine v_iload X (xdec_at tL_law_17 27 rfl) rfl ?_
    refine v_iconst (v := 1) X (xdec_at tL_law_17 28 rfl) (by decide) ?_
    refine v_iadd X (xdec_at tL_law_17 29 rfl) ?_
    refine v_sld X hX hbl (nI_add (7 * k) 1) (by omega) hLn (xdec_at tL_law_17 30 rfl) ?_
    refine v_aload_n X (xdec_at tL_law_17 31 rfl) rfl rfl ?_
    refine v_iload X (xdec_at tL_law_17 32 rfl) rfl ?_
    refine v_iconst (v := 2) X (xdec_at tL_law_17 33 rfl) (by decide) ?_
    refine v_iadd X (xdec_at tL_law_17 34 rfl) ?_
    refine v_sld X hX hbl (nI_add (7 * k) 2) (by omega) hLn (xdec_at tL_law_17 35 rfl) ?_
    refine v_if_eq (tgt := 1207) X (xdec_at tL_law_17 36 rfl) (by decide) (fun _ => ?_) (fun h9 => absurd c_1173 h9)
    refine v_iconst (v := 0) X (xdec_at tL_law_17 39 rfl) (by decide) ?_
    refine v_callV X myX5_refuse [.int (xs (7 * k + 1)), .int 0] [] (c_refuse l Z s.heap.size lay' μ (cX Z lay' (M_refuse μ (xs (7 * k + 1)) 0).2 tb9 (oW Z o9)) (xs (7 * k + 1)) 0 hL.1.1 (Or.inl rfl)) (xw_at tW_20 6 rfl) (100, 0) cM_0 rfl rfl rfl rfl (by rfl) (Nat.le_of_ble_eq_true rfl) (xdec_at tL_law_18 0 rfl) ⟨(Nat.le_of_ble_eq_true rfl), (Nat.le_of_ble_eq_true rfl)⟩ (RMf hRM' (by omega) hL'.1 (by decide) (by decide)) ?_
    rintro v9 lay9 C9 ⟨rfl, rfl, rfl⟩
    refine v_istore (lv' := [some (.ref b), some (.ref (lay' (0, 0))), some (.ref (lay' (100, 0))), some (.ref (lay' (300, 0))), some (.int (nI (7 * k))), some (.int ((M_refuse μ (xs (7 * k + 1)) 0).2.1 38 0)), some (.int (M_refuse μ (xs (7 * k + 1)) 0).1), v7]) X (xdec_at tL_law_18 1 rfl) (by decide) rfl ?_
    refine v_aload_n X (xdec_at tL_law_18 2 rfl) rfl rfl ?_
    refine v_callV X myX5_thrown [] [] (c_thrown l Z s.heap.size lay' (M_refuse μ (xs (7 * k + 1)) 0).2 (cX Z lay' (M_refuse μ (xs (7 * k + 1)) 0).2 tb9 (oW Z o9))) (xw_at tW_17 23 rfl) (100, 0) cM_0 rfl rfl rfl rfl (by rfl) (Nat.le_of_ble_eq_true rfl) (xdec_at tL_law_18 3 rfl) ⟨(Nat.le_of_ble_eq_true rfl), (Nat.le_of_ble_eq_true rfl)⟩ (RMf hRM' (by omega) hL'.1 (by decide) (by decide)) ?_
    rintro v9 lay9 C9 ⟨rfl, rfl, rfl⟩
    refine v_iload X (xdec_at tL_law_18 4 rfl) rfl ?_
    refine v_icmp_eq (tgt := 1224) X (xdec_at tL_law_18 5 rfl) (by decide) (fun _ => ?_) (fun h9 => absurd rfl h9)
    refine v_iload X (xdec_at tL_law_18 8 rfl) rfl ?_
    refine v_if_ne (tgt := 1248) X (xdec_at tL_law_18 9 rfl) (by decide) (fun c_1226 => ?_) (fun c_1226 => ?_)
    · refine v_goto (tgt := 1991) X (xdec_at tL_law_18 22 rfl) (by decide) ?_
      exact kk lay' (M_refuse μ (xs (7 * k + 1)) 0).2 tb9 o9 _ _ _ _ _ hL' hRM'
    · refine v_aload_n X (xdec_at tL_law_18 10 rfl) rfl rfl ?_
      refine v_iconst (v := 0) X (xdec_at tL_law_18 11 rfl) (by decide) ?_
      refine x_lald (v := o9 0) X (300, 0) cW_o (vp_in_nI (n := 0) (N := 1) (by decide) (by decide)) rfl rfl (xdec_at tL_law_18 12 rfl) ?_
      refine v_iload X (xdec_at tL_law_18 13 rfl) rfl ?_
      refine v_if_eq (tgt := 1241) X (xdec_at tL_law_18 14 rfl) (by decide) (fun c_1234 => ?_) (fun c_1234 => ?_)
      · refine v_lconst (v := 0) X (xdec_at tL_law_18 17 rfl) (by decide) ?_
        refine v_lcmp X (xdec_at tL_law_18 18 rfl) ?_
        refine v_if_eq (tgt := 1248) X (xdec_at tL_law_18 19 rfl) (by decide) (fun _ => ?_) (fun h9 => absurd (lcz (((congrFun (ho c_1226) 0).trans (if_pos rfl)).trans (if_pos c_1234))) h9)
        refine v_goto (tgt := 1991) X (xdec_at tL_law_18 22 rfl) (by decide) ?_
        exact kk lay' (M_refuse μ (xs (7 * k + 1)) 0).2 tb9 o9 _ _ _ _ _ hL' hRM'
      · refine v_lconst (v := 1) X (xdec_at tL_law_18 15 rfl) (by decide) ?_
        refine v_goto (tgt := 1242) X (xdec_at tL_law_18 16 rfl) (by decide) ?_
        refine v_lcmp X (xdec_at tL_law_18 18 rfl) ?_
        refine v_if_eq (tgt := 1248) X (xdec_at tL_law_18 19 rfl) (by decide) (fun _ => ?_) (fun h9 => absurd (lcz (((congrFun (ho c_1226) 0).trans (if_pos rfl)).trans (if_neg c_1234))) h9)
        refine v_goto (tgt := 1991) X (xdec_at tL_law_18 22 rfl) (by decide) ?_
        exact kk lay' (M_refuse μ (xs (7 * k + 1)) 0).2 tb9 o9 _ _ _ _ _ hL' hRM'
  · refine v_iconst (v := 1) X (xdec_at tL_law_17 19 rfl) (by decide) ?_
    refine v_goto (tgt := 1181) X (xdec_at tL_law_17 20 rfl) (by decide) ?_
    refine v_aload_n X (xdec_at tL_law_17 22 rfl) rfl rfl ?_
    refine v_law X hE hL mw_refuse [.ref (lay (0, 0)), .int (xs (7 * k + 1)), .int 1, .ref (lay (300, 0))] [] (w_refuse l hl0 Z s.heap.size lay μ tb (cM Z lay μ (oW Z o)) hL.1.1 (xs (7 * k + 1)) 1 (Or.inr rfl) o rfl) oW_up (cs_LI (cs_refuse _ _) (by simp [up2_at]) (fun hc => ni_refuse hL.1 hc (Or.inr rfl))) (RMu hRM (by decide) (by decide) (Nat.le_refl (Pp tb))) (xw_at tW_12 0 rfl) rfl (by rfl) (Nat.le_of_ble_eq_true rfl) (xdec_at tL_law_17 23 rfl) ⟨(Nat.le_of_ble_eq_true rfl), (Nat.le_of_ble_eq_true rfl)⟩ (RMf hRM (by omega) hL.1 (by decide) (by decide)) fun lay' tb9 o9 e0 e1 e3 hL' ho hRM' => ?_
    rw [← e0, ← e1, ← e3]
    refine v_istore (lv' := [some (.ref b), some (.ref (lay' (0, 0))), some (.ref (lay' (100, 0))), some (.ref (lay' (300, 0))), some (.int (nI (7 * k))), some (.int ((M_refuse μ (xs (7 * k + 1)) 1).2.1 38 0)), v6, v7]) X (xdec_at tL_law_17 24 rfl) (by decide) rfl ?_
    refine v_aload_n X (xdec_at tL_law_17 25 rfl) rfl rfl ?_
    refine v_aload_n X (xdec_at tL_law_17 26 rfl) rfl rfl ?_
    refine v_iload X (xdec_at tL_law_17 27 rfl) rfl ?_
    refine v_iconst (v := 1) X (xdec_at tL_law_17 28 rfl) (by decide) ?_
    refine v_iadd X (xdec_at tL_law_17 29 rfl) ?_
    refine v_sld X hX hbl (nI_add (7 * k) 1) (by omega) hLn (xdec_at tL_law_17 30 rfl) ?_
    refine v_aload_n X (xdec_at tL_law_17 31 rfl) rfl rfl ?_
    refine v_iload X (xdec_at tL_law_17 32 rfl) rfl ?_
    refine v_iconst (v := 2) X (xdec_at tL_law_17 33 rfl) (by decide) ?_
    refine v_iadd X (xdec_at tL_law_17 34 rfl) ?_
    refine v_sld X hX hbl (nI_add (7 * k) 2) (by omega) hLn (xdec_at tL_law_17 35 rfl) ?_
    refine v_if_eq (tgt := 1207) X (xdec_at tL_law_17 36 rfl) (by decide) (fun h9 => absurd h9 c_1173) (fun _ => ?_)
    refine v_iconst (v := 1) X (xdec_at tL_law_17 37 rfl) (by decide) ?_
    refine v_goto (tgt := 1208) X (xdec_at tL_law_17 38 rfl) (by decide) ?_
    refine v_callV X myX5_refuse [.int (xs (7 * k + 1)), .int 1] [] (c_refuse l Z s.heap.size lay' μ (cX Z lay' (M_refuse μ (xs (7 * k + 1)) 1).2 tb9 (oW Z o9)) (xs (7 * k + 1)) 1 hL.1.1 (Or.inr rfl)) (xw_at tW_20 6 rfl) (100, 0) cM_0 rfl rfl rfl rfl (by rfl) (Nat.le_of_ble_eq_true rfl) (xdec_at tL_law_18 0 rfl) ⟨(Nat.le_of_ble_eq_true rfl), (Nat.le_of_ble_eq_true rfl)⟩ (RMf hRM' (by omega) hL'.1 (by decide) (by decide)) ?_
    rintro v9 lay9 C9 ⟨rfl, rfl, rfl⟩
    refine v_istore (lv' := [some (.ref b), some (.ref (lay' (0, 0))), some (.ref (lay' (100, 0))), some (.ref (lay' (300, 0))), some (.int (nI (7 * k))), some (.int ((M_refuse μ (xs (7 * k + 1)) 1).2.1 38 0)), some (.int (M_refuse μ (xs (7 * k + 1)) 1).1), v7]) X (xdec_at tL_law_18 1 rfl) (by decide) rfl ?_
    refine v_aload_n X (xdec_at tL_law_18 2 rfl) rfl rfl ?_
    refine v_callV X myX5_thrown [] [] (c_thrown l Z s.heap.size lay' (M_refuse μ (xs (7 * k + 1)) 1).2 (cX Z lay' (M_refuse μ (xs (7 * k + 1)) 1).2 tb9 (oW Z o9))) (xw_at tW_17 23 rfl) (100, 0) cM_0 rfl rfl rfl rfl (by rfl) (Nat.le_of_ble_eq_true rfl) (xdec_at tL_law_18 3 rfl) ⟨(Nat.le_of_ble_eq_true rfl), (Nat.le_of_ble_eq_true rfl)⟩ (RMf hRM' (by omega) hL'.1 (by decide) (by decide)) ?_
    rintro v9 lay9 C9 ⟨rfl, rfl, rfl⟩
    refine v_iload X (xdec_at tL_law_18 4 rfl) rfl ?_
    refine v_icmp_eq (tgt := 1224) X (xdec_at tL_law_18 5 rfl) (by decide) (fun _ => ?_) (fun h9 => absurd rfl h9)
    refine v_iload X (xdec_at tL_law_18 8 rfl) rfl ?_
    refine v_if_ne (tgt := 1248) X (xdec_at tL_law_18 9 rfl) (by decide) (fun c_1226 => ?_) (fun c_1226 => ?_)
    · refine v_goto (tgt := 1991) X (xdec_at tL_law_18 22 rfl) (by decide) ?_
      exact kk lay' (M_refuse μ (xs (7 * k + 1)) 1).2 tb9 o9 _ _ _ _ _ hL' hRM'
    · refine v_aload_n X (xdec_at tL_law_18 10 rfl) rfl rfl ?_
      refine v_iconst (v := 0) X (xdec_at tL_law_18 11 rfl) (by decide) ?_
      refine x_lald (v := o9 0) X (300, 0) cW_o (vp_in_nI (n := 0) (N := 1) (by decide) (by decide)) rfl rfl (xdec_at tL_law_18 12 rfl) ?_
      refine v_iload X (xdec_at tL_law_18 13 rfl) rfl ?_
      refine v_if_eq (tgt := 1241) X (xdec_at tL_law_18 14 rfl) (by decide) (fun c_1234 => ?_) (fun c_1234 => ?_)
      · refine v_lconst (v := 0) X (xdec_at tL_law_18 17 rfl) (by decide) ?_
        refine v_lcmp X (xdec_at tL_law_18 18 rfl) ?_
        refine v_if_eq (tgt := 1248) X (xdec_at tL_law_18 19 rfl) (by decide) (fun _ => ?_) (fun h9 => absurd (lcz (((congrFun (ho c_1226) 0).trans (if_pos rfl)).trans (if_pos c_1234))) h9)
        refine v_goto (tgt := 1991) X (xdec_at tL_law_18 22 rfl) (by decide) ?_
        exact kk lay' (M_refuse μ (xs (7 * k + 1)) 1).2 tb9 o9 _ _ _ _ _ hL' hRM'
      · refine v_lconst (v := 1) X (xdec_at tL_law_18 15 rfl) (by decide) ?_
        refine v_goto (tgt := 1242) X (xdec_at tL_law_18 16 rfl) (by decide) ?_
        refine v_lcmp X (xdec_at tL_law_18 18 rfl) ?_
        refine v_if_eq (tgt := 1248) X (xdec_at tL_law_18 19 rfl) (by decide) (fun _ => ?_) (fun h9 => absurd (lcz (((congrFun (ho c_1226) 0).trans (if_pos rfl)).trans (if_neg c_1234))) h9)
        refine v_goto (tgt := 1991) X (xdec_at tL_law_18 22 rfl) (by decide) ?_
        exact kk lay' (M_refuse μ (xs (7 * k + 1)) 1).2 tb9 o9 _ _ _ _ _ hL' hRM'
set_option maxRecDepth 100000 in
set_option maxHeartbeats 4000000 in
theorem lc_go {p : Program} {l : Launch} {e : Env} {s : State} {m : MethodId} {below : List Frame} {meth : Method} {c : Code} {Z : xZ} {b L k : Nat} {xs : Nat → Int32} {lay : xK → Nat} {μ : Mu} {tb : Tb} {o : Nat → Int64} {cells slots : Nat} {v5 v6 v7 : Option Value} (hl0 : l.stackTraces = false) (X : Cx p m meth c cL_law 8 s #[Value.ref b] RL Z s.heap.size) (hE : xEx s.heap.size s ∧ xNc s) (hX : va_X b L xs s s.heap) (hbl : b < s.heap.size) (hLn : L ≤ 3584) (hk : 7 * k + 7 ≤ L) (hL : LI μ tb k) (hRM : RM cells slots k tb) (kk : LK p l e s m below meth c Z b k) : V p l e room_1 s m #[Value.ref b] below meth c (lw_Z below #[Value.ref b] s) Z s.heap.size 8 lay (cM Z lay μ (cX Z lay μ tb (oW Z o))) cells slots 1251 [some (.ref b), some (.ref (lay (0, 0))), some (.ref (lay (100, 0))), some (.ref (lay (300, 0))), some (.int (nI (7 * k))), v5, v6, v7] [] := by
  have hk5 : k < 512 := by omega
  obtain ⟨ce, sl, hg1, hg2, hg3, hg4⟩ := go_RM hL hk5 hRM (xs (7 * k + 1))
  refine v_aload_n X (xdec_at tL_law_18 23 rfl) rfl rfl ?_
  refine v_aload_n X (xdec_at tL_law_18 24 rfl) rfl rfl ?_
  refine v_iload X (xdec_at tL_law_18 25 rfl) rfl ?_
  refine v_iconst (v := 1) X (xdec_at tL_law_18 26 rfl) (by decide) ?_
  refine v_iadd X (xdec_at tL_law_18 27 rfl) ?_
  refine v_sld X hX hbl (nI_add (7 * k) 1) (by omega) hLn (xdec_at tL_law_18 28 rfl) ?_
  refine v_aload_n X (xdec_at tL_law_18 29 rfl) rfl rfl ?_
  refine v_law X hE hL mw_go [.ref (lay (0, 0)), .int (xs (7 * k + 1)), .ref (lay (300, 0))] [] (w_go l hl0 Z s.heap.size lay μ tb (cM Z lay μ (oW Z o)) (xs (7 * k + 1)) (23 + 7 * k) hL.gi (LI_th hL 0).gi (by omega) rfl ce sl hg1 hg2 o rfl) oW_up (go_LI hL hk5 _) hg4 (xw_at tW_12 7 rfl) rfl (by rfl) (Nat.le_of_ble_eq_true rfl) (xdec_at tL_law_18 30 rfl) ⟨(Nat.le_of_ble_eq_true rfl), (Nat.le_of_ble_eq_true rfl)⟩ hg3 fun lay' tb9 o9 e0 e1 e3 hL' ho hRM' => ?_
  rw [← e0, ← e1, ← e3]
  refine v_istore (lv' := [some (.ref b), some (.ref (lay' (0, 0))), some (.ref (lay' (100, 0))), some (.ref (lay' (300, 0))), some (.int (nI (7 * k))), some (.int ((M_go μ (xs (7 * k + 1))).2.1 38 0)), v6, v7]) X (xdec_at tL_law_18 31 rfl) (by decide) rfl ?_
  refine v_aload_n X (xdec_at tL_law_18 32 rfl) rfl rfl ?_
  refine v_aload_n X (xdec_at tL_law_18 33 rfl) rfl rfl ?_
  refine v_iload X (xdec_at tL_law_18 34 rfl) rfl ?_
  refine v_iconst (v := 1) X (xdec_at tL_law_18 35 rfl) (by decide) ?_
  refine v_iadd X (xdec_at tL_law_18 36 rfl) ?_
  refine v_sld X hX hbl (nI_add (7 * k) 1) (by omega) hLn (xdec_at tL_law_18 37 rfl) ?_
  refine v_callV X myX5_go [.int (xs (7 * k + 1))] [] (c_go l Z s.heap.size lay' μ (cX Z lay' (M_go μ (xs (7 * k + 1))).2 tb9 (oW Z o9)) (xs (7 * k + 1)) hL.1.1) (xw_at tW_20 10 rfl) (100, 0) cM_0 rfl rfl rfl rfl (by rfl) (Nat.le_of_ble_eq_true rfl) (xdec_at tL_law_18 38 rfl) ⟨(Nat.le_of_ble_eq_true rfl), (Nat.le_of_ble_eq_true rfl)⟩ (RMf hRM' (by omega) hL'.1 (by decide) (by decide)) ?_
  rintro v9 lay9 C9 ⟨rfl, rfl, rfl⟩
  refine v_istore (lv' := [some (.ref b), some (.ref (lay' (0, 0))), some (.ref (lay' (100, 0))), some (.ref (lay' (300, 0))), some (.int (nI (7 * k))), some (.int ((M_go μ (xs (7 * k + 1))).2.1 38 0)), some (.int (M_go μ (xs (7 * k + 1))).1), v7]) X (xdec_at tL_law_18 39 rfl) (by decide) rfl ?_
  refine v_aload_n X (xdec_at tL_law_19 0 rfl) rfl rfl ?_
  refine v_callV X myX5_thrown [] [] (c_thrown l Z s.heap.size lay' (M_go μ (xs (7 * k + 1))).2 (cX Z lay' (M_go μ (xs (7 * k + 1))).2 tb9 (oW Z o9))) (xw_at tW_17 23 rfl) (100, 0) cM_0 rfl rfl rfl rfl (by rfl) (Nat.le_of_ble_eq_true rfl) (xdec_at tL_law_19 1 rfl) ⟨(Nat.le_of_ble_eq_true rfl), (Nat.le_of_ble_eq_true rfl)⟩ (RMf hRM' (by omega) hL'.1 (by decide) (by decide)) ?_
  rintro v9 lay9 C9 ⟨rfl, rfl, rfl⟩
  refine v_iload X (xdec_at tL_law_19 2 rfl) rfl ?_
  refine v_icmp_eq (tgt := 1287) X (xdec_at tL_law_19 3 rfl) (by decide) (fun _ => ?_) (fun h9 => absurd rfl h9)
  refine v_iload X (xdec_at tL_law_19 6 rfl) rfl ?_
  refine v_if_ne (tgt := 1304) X (xdec_at tL_law_19 7 rfl) (by decide) (fun c_1289 => ?_) (fun c_1289 => ?_)
  · refine v_goto (tgt := 1991) X (xdec_at tL_law_19 17 rfl) (by decide) ?_
    exact kk lay' (M_go μ (xs (7 * k + 1))).2 tb9 o9 _ _ _ _ _ hL' hRM'
  · refine v_aload_n X (xdec_at tL_law_19 8 rfl) rfl rfl ?_
    refine v_iconst (v := 0) X (xdec_at tL_law_19 9 rfl) (by decide) ?_
    refine x_lald (v := o9 0) X (300, 0) cW_o (vp_in_nI (n := 0) (N := 1) (by decide) (by decide)) rfl rfl (xdec_at tL_law_19 10 rfl) ?_
    refine v_iload X (xdec_at tL_law_19 11 rfl) rfl ?_
    refine v_i2l X (xdec_at tL_law_19 12 rfl) rfl ?_
    refine v_lcmp X (xdec_at tL_law_19 13 rfl) ?_
    refine v_if_eq (tgt := 1304) X (xdec_at tL_law_19 14 rfl) (by decide) (fun _ => ?_) (fun h9 => absurd (lcz ((congrFun (ho c_1289) 0).trans (if_pos rfl))) h9)
    refine v_goto (tgt := 1991) X (xdec_at tL_law_19 17 rfl) (by decide) ?_
    exact kk lay' (M_go μ (xs (7 * k + 1))).2 tb9 o9 _ _ _ _ _ hL' hRM'
set_option maxRecDepth 100000 in
set_option maxHeartbeats 4000000 in
theorem lc_lose {p : Program} {l : Launch} {e : Env} {s : State} {m : MethodId} {below : List Frame} {meth : Method} {c : Code} {Z : xZ} {b L k : Nat} {xs : Nat → Int32} {lay : xK → Nat} {μ : Mu} {tb : Tb} {o : Nat → Int64} {cells slots : Nat} {v5 v6 v7 : Option Value} (hl0 : l.stackTraces = false) (X : Cx p m meth c cL_law 8 s #[Value.ref b] RL Z s.heap.size) (hE : xEx s.heap.size s ∧ xNc s) (hX : va_X b L xs s s.heap) (hbl : b < s.heap.size) (hLn : L ≤ 3584) (hk : 7 * k + 7 ≤ L) (hL : LI μ tb k) (hRM : RM cells slots k tb) (kk : LK p l e s m below meth c Z b k) : V p l e room_1 s m #[Value.ref b] below meth c (lw_Z below #[Value.ref b] s) Z s.heap.size 8 lay (cM Z lay μ (cX Z lay μ tb (oW Z o))) cells slots 1307 [some (.ref b), some (.ref (lay (0, 0))), some (.ref (lay (100, 0))), some (.ref (lay (300, 0))), some (.int (nI (7 * k))), v5, v6, v7] [] := by
  have hk5 : k < 512 := by omega
  obtain ⟨cl, hH⟩ := hL.1.2.2.1
  refine v_aload_n X (xdec_at tL_law_19 18 rfl) rfl rfl ?_
  refine v_aload_n X (xdec_at tL_law_19 19 rfl) rfl rfl ?_
  refine v_iload X (xdec_at tL_law_19 20 rfl) rfl ?_
  refine v_iconst (v := 1) X (xdec_at tL_law_19 21 rfl) (by decide) ?_
  refine v_iadd X (xdec_at tL_law_19 22 rfl) ?_
  refine v_sld X hX hbl (nI_add (7 * k) 1) (by omega) hLn (xdec_at tL_law_19 23 rfl) ?_
  refine v_aload_n X (xdec_at tL_law_19 24 rfl) rfl rfl ?_
  refine v_law X hE hL mw_lose [.ref (lay (0, 0)), .int (xs (7 * k + 1)), .ref (lay (300, 0))] [] (w_lose l hl0 Z s.heap.size lay μ tb (cM Z lay μ (oW Z o)) hL.1.1 (xs (7 * k + 1)) cl hH o rfl) oW_up (cs_LI (cs_lose _) (by simp [up2_at]) (fun hc => ni_lose hL.1 hc)) (RMu hRM (by decide) (by decide) (Nat.le_refl (Pp tb))) (xw_at tW_13 13 rfl) rfl (by rfl) (Nat.le_of_ble_eq_true rfl) (xdec_at tL_law_19 25 rfl) ⟨(Nat.le_of_ble_eq_true rfl), (Nat.le_of_ble_eq_true rfl)⟩ (RMf hRM (by omega) hL.1 (by decide) (by decide)) fun lay' tb9 o9 e0 e1 e3 hL' ho hRM' => ?_
  rw [← e0, ← e1, ← e3]
  refine v_istore (lv' := [some (.ref b), some (.ref (lay' (0, 0))), some (.ref (lay' (100, 0))), some (.ref (lay' (300, 0))), some (.int (nI (7 * k))), some (.int ((M_lose μ (xs (7 * k + 1))).2.1 38 0)), v6, v7]) X (xdec_at tL_law_19 26 rfl) (by decide) rfl ?_
  refine v_aload_n X (xdec_at tL_law_19 27 rfl) rfl rfl ?_
  refine v_aload_n X (xdec_at tL_law_19 28 rfl) rfl rfl ?_
  refine v_iload X (xdec_at tL_law_19 29 rfl) rfl ?_
  refine v_iconst (v := 1) X (xdec_at tL_law_19 30 rfl) (by decide) ?_
  refine v_iadd X (xdec_at tL_law_19 31 rfl) ?_
  refine v_sld X hX hbl (nI_add (7 * k) 1) (by omega) hLn (xdec_at tL_law_19 32 rfl) ?_
  refine v_callV X myX5_lose [.int (xs (7 * k + 1))] [] (c_lose l Z s.heap.size lay' μ (cX Z lay' (M_lose μ (xs (7 * k + 1))).2 tb9 (oW Z o9)) (xs (7 * k + 1)) hL.1.1) (xw_at tW_20 30 rfl) (100, 0) cM_0 rfl rfl rfl rfl (by rfl) (Nat.le_of_ble_eq_true rfl) (xdec_at tL_law_19 33 rfl) ⟨(Nat.le_of_ble_eq_true rfl), (Nat.le_of_ble_eq_true rfl)⟩ (RMf hRM' (by omega) hL'.1 (by decide) (by decide)) ?_
  rintro v9 lay9 C9 ⟨rfl, rfl, rfl⟩
  refine v_istore (lv' := [some (.ref b), some (.ref (lay' (0, 0))), some (.ref (lay' (100, 0))), some (.ref (lay' (300, 0))), some (.int (nI (7 * k))), some (.int ((M_lose μ (xs (7 * k + 1))).2.1 38 0)), some (.int (M_lose μ (xs (7 * k + 1))).1), v7]) X (xdec_at tL_law_19 34 rfl) (by decide) rfl ?_
  refine v_aload_n X (xdec_at tL_law_19 35 rfl) rfl rfl ?_
  refine v_callV X myX5_thrown [] [] (c_thrown l Z s.heap.size lay' (M_lose μ (xs (7 * k + 1))).2 (cX Z lay' (M_lose μ (xs (7 * k + 1))).2 tb9 (oW Z o9))) (xw_at tW_17 23 rfl) (100, 0) cM_0 rfl rfl rfl rfl (by rfl) (Nat.le_of_ble_eq_true rfl) (xdec_at tL_law_19 36 rfl) ⟨(Nat.le_of_ble_eq_true rfl), (Nat.le_of_ble_eq_true rfl)⟩ (RMf hRM' (by omega) hL'.1 (by decide) (by decide)) ?_
  rintro v9 lay9 C9 ⟨rfl, rfl, rfl⟩
  refine v_iload X (xdec_at tL_law_19 37 rfl) rfl ?_
  refine v_icmp_eq (tgt := 1343) X (xdec_at tL_law_19 38 rfl) (by decide) (fun _ => ?_) (fun h9 => absurd rfl h9)
  refine v_iload X (xdec_at tL_law_20 1 rfl) rfl ?_
  refine v_if_ne (tgt := 1360) X (xdec_at tL_law_20 2 rfl) (by decide) (fun c_1345 => ?_) (fun c_1345 => ?_)
  · refine v_goto (tgt := 1991) X (xdec_at tL_law_20 12 rfl) (by decide) ?_
    exact kk lay' (M_lose μ (xs (7 * k + 1))).2 tb9 o9 _ _ _ _ _ hL' hRM'
  · refine v_aload_n X (xdec_at tL_law_20 3 rfl) rfl rfl ?_
    refine v_iconst (v := 0) X (xdec_at tL_law_20 4 rfl) (by decide) ?_
    refine x_lald (v := o9 0) X (300, 0) cW_o (vp_in_nI (n := 0) (N := 1) (by decide) (by decide)) rfl rfl (xdec_at tL_law_20 5 rfl) ?_
    refine v_iload X (xdec_at tL_law_20 6 rfl) rfl ?_
    refine v_i2l X (xdec_at tL_law_20 7 rfl) rfl ?_
    refine v_lcmp X (xdec_at tL_law_20 8 rfl) ?_
    refine v_if_eq (tgt := 1360) X (xdec_at tL_law_20 9 rfl) (by decide) (fun _ => ?_) (fun h9 => absurd (lcz ((congrFun (ho c_1345) 0).trans (if_pos rfl))) h9)
    refine v_goto (tgt := 1991) X (xdec_at tL_law_20 12 rfl) (by decide) ?_
    exact kk lay' (M_lose μ (xs (7 * k + 1))).2 tb9 o9 _ _ _ _ _ hL' hRM'
set_option maxRecDepth 100000 in
set_option maxHeartbeats 4000000 in
theorem lc_claim {p : Program} {l : Launch} {e : Env} {s : State} {m : MethodId} {below : List Frame} {meth : Method} {c : Code} {Z : xZ} {b L k : Nat} {xs : Nat → Int32} {lay : xK → Nat} {μ : Mu} {tb : Tb} {o : Nat → Int64} {cells slots : Nat} {v5 v6 v7 : Option Value} (hl0 : l.stackTraces = false) (X : Cx p m meth c cL_law 8 s #[Value.ref b] RL Z s.heap.size) (hE : xEx s.heap.size s ∧ xNc s) (hX : va_X b L xs s s.heap) (hbl : b < s.heap.size) (hLn : L ≤ 3584) (hk : 7 * k + 7 ≤ L) (hL : LI μ tb k) (hRM : RM cells slots k tb) (kk : LK p l e s m below meth c Z b k) : V p l e room_1 s m #[Value.ref b] below meth c (lw_Z below #[Value.ref b] s) Z s.heap.size 8 lay (cM Z lay μ (cX Z lay μ tb (oW Z o))) cells slots 1363 [some (.ref b), some (.ref (lay (0, 0))), some (.ref (lay (100, 0))), some (.ref (lay (300, 0))), some (.int (nI (7 * k))), v5, v6, v7] [] := by
  have hk5 : k < 512 := by omega
  refine v_aload_n X (xdec_at tL_law_20 13 rfl) rfl rfl ?_
  refine v_aload_n X (xdec_at tL_law_20 14 rfl) rfl rfl ?_
  refine v_iload X (xdec_at tL_law_20 15 rfl) rfl ?_
  refine v_iconst (v := 1) X (xdec_at tL_law_20 16 rfl) (by decide) ?_
  refine v_iadd X (xdec_at tL_law_20 17 rfl) ?_
  refine v_sld X hX hbl (nI_add (7 * k) 1) (by omega) hLn (xdec_at tL_law_20 18 rfl) ?_
  refine v_aload_n X (xdec_at tL_law_20 19 rfl) rfl rfl ?_
  refine v_law X hE hL mw_claim [.ref (lay (0, 0)), .int (xs (7 * k + 1)), .ref (lay (300, 0))] [] (w_claim l hl0 Z s.heap.size lay μ tb (cM Z lay μ (oW Z o)) hL.1.1 (xs (7 * k + 1)) hL.1.2.1 o rfl) oW_up (cs_LI (cs_claim _) ((claimS_38 _ _).trans (th_38 μ 0)) (fun hc => ni_claim hL.1 hc)) (RMu hRM (by decide) (by decide) (Nat.le_refl (Pp tb))) (xw_at tW_13 24 rfl) rfl (by rfl) (Nat.le_of_ble_eq_true rfl) (xdec_at tL_law_20 20 rfl) ⟨(Nat.le_of_ble_eq_true rfl), (Nat.le_of_ble_eq_true rfl)⟩ (RMf hRM (by omega) hL.1 (by decide) (by decide)) fun lay' tb9 o9 e0 e1 e3 hL' ho hRM' => ?_
  rw [← e0, ← e1, ← e3]
  refine v_istore (lv' := [some (.ref b), some (.ref (lay' (0, 0))), some (.ref (lay' (100, 0))), some (.ref (lay' (300, 0))), some (.int (nI (7 * k))), some (.int ((M_claim μ (xs (7 * k + 1))).2.1 38 0)), v6, v7]) X (xdec_at tL_law_20 21 rfl) (by decide) rfl ?_
  refine v_aload_n X (xdec_at tL_law_20 22 rfl) rfl rfl ?_
  refine v_aload_n X (xdec_at tL_law_20 23 rfl) rfl rfl ?_
  refine v_iload X (xdec_at tL_law_20 24 rfl) rfl ?_
  refine v_iconst (v := 1) X (xdec_at tL_law_20 25 rfl) (by decide) ?_
  refine v_iadd X (xdec_at tL_law_20 26 rfl) ?_
  refine v_sld X hX hbl (nI_add (7 * k) 1) (by omega) hLn (xdec_at tL_law_20 27 rfl) ?_
  refine v_callV X myX5_claim [.int (xs (7 * k + 1))] [] (c_claim l Z s.heap.size lay' μ (cX Z lay' (M_claim μ (xs (7 * k + 1))).2 tb9 (oW Z o9)) (xs (7 * k + 1)) hL.1.1) (xw_at tW_20 34 rfl) (100, 0) cM_0 rfl rfl rfl rfl (by rfl) (Nat.le_of_ble_eq_true rfl) (xdec_at tL_law_20 28 rfl) ⟨(Nat.le_of_ble_eq_true rfl), (Nat.le_of_ble_eq_true rfl)⟩ (RMf hRM' (by omega) hL'.1 (by decide) (by decide)) ?_
  rintro v9 lay9 C9 ⟨rfl, rfl, rfl⟩
  refine v_istore (lv' := [some (.ref b), some (.ref (lay' (0, 0))), some (.ref (lay' (100, 0))), some (.ref (lay' (300, 0))), some (.int (nI (7 * k))), some (.int ((M_claim μ (xs (7 * k + 1))).2.1 38 0)), some (.int (M_claim μ (xs (7 * k + 1))).1), v7]) X (xdec_at tL_law_20 29 rfl) (by decide) rfl ?_
  refine v_aload_n X (xdec_at tL_law_20 30 rfl) rfl rfl ?_
  refine v_callV X myX5_thrown [] [] (c_thrown l Z s.heap.size lay' (M_claim μ (xs (7 * k + 1))).2 (cX Z lay' (M_claim μ (xs (7 * k + 1))).2 tb9 (oW Z o9))) (xw_at tW_17 23 rfl) (100, 0) cM_0 rfl rfl rfl rfl (by rfl) (Nat.le_of_ble_eq_true rfl) (xdec_at tL_law_20 31 rfl) ⟨(Nat.le_of_ble_eq_true rfl), (Nat.le_of_ble_eq_true rfl)⟩ (RMf hRM' (by omega) hL'.1 (by decide) (by decide)) ?_
  rintro v9 lay9 C9 ⟨rfl, rfl, rfl⟩
  refine v_iload X (xdec_at tL_law_20 32 rfl) rfl ?_
  refine v_icmp_eq (tgt := 1399) X (xdec_at tL_law_20 33 rfl) (by decide) (fun _ => ?_) (fun h9 => absurd rfl h9)
  refine v_iload X (xdec_at tL_law_20 36 rfl) rfl ?_
  refine v_if_ne (tgt := 1416) X (xdec_at tL_law_20 37 rfl) (by decide) (fun c_1401 => ?_) (fun c_1401 => ?_)
  · refine v_goto (tgt := 1991) X (xdec_at tL_law_21 7 rfl) (by decide) ?_
    exact kk lay' (M_claim μ (xs (7 * k + 1))).2 tb9 o9 _ _ _ _ _ hL' hRM'
  · refine v_aload_n X (xdec_at tL_law_20 38 rfl) rfl rfl ?_
    refine v_iconst (v := 0) X (xdec_at tL_law_20 39 rfl) (by decide) ?_
    refine x_lald (v := o9 0) X (300, 0) cW_o (vp_in_nI (n := 0) (N := 1) (by decide) (by decide)) rfl rfl (xdec_at tL_law_21 0 rfl) ?_
    refine v_iload X (xdec_at tL_law_21 1 rfl) rfl ?_
    refine v_i2l X (xdec_at tL_law_21 2 rfl) rfl ?_
    refine v_lcmp X (xdec_at tL_law_21 3 rfl) ?_
    refine v_if_eq (tgt := 1416) X (xdec_at tL_law_21 4 rfl) (by decide) (fun _ => ?_) (fun h9 => absurd (lcz ((congrFun (ho c_1401) 0).trans (if_pos rfl))) h9)
    refine v_goto (tgt := 1991) X (xdec_at tL_law_21 7 rfl) (by decide) ?_
    exact kk lay' (M_claim μ (xs (7 * k + 1))).2 tb9 o9 _ _ _ _ _ hL' hRM'
set_option maxRecDepth 100000 in
set_option maxHeartbeats 4000000 in
theorem lc_sample {p : Program} {l : Launch} {e : Env} {s : State} {m : MethodId} {below : List Frame} {meth : Method} {c : Code} {Z : xZ} {b L k : Nat} {xs : Nat → Int32} {lay : xK → Nat} {μ : Mu} {tb : Tb} {o : Nat → Int64} {cells slots : Nat} {v5 v6 v7 : Option Value} (hl0 : l.stackTraces = false) (X : Cx p m meth c cL_law 8 s #[Value.ref b] RL Z s.heap.size) (hE : xEx s.heap.size s ∧ xNc s) (hX : va_X b L xs s s.heap) (hbl : b < s.heap.size) (hLn : L ≤ 3584) (hk : 7 * k + 7 ≤ L) (hL : LI μ tb k) (hRM : RM cells slots k tb) (kk : LK p l e s m below meth c Z b k) : V p l e room_1 s m #[Value.ref b] below meth c (lw_Z below #[Value.ref b] s) Z s.heap.size 8 lay (cM Z lay μ (cX Z lay μ tb (oW Z o))) cells slots 1419 [some (.ref b), some (.ref (lay (0, 0))), some (.ref (lay (100, 0))), some (.ref (lay (300, 0))), some (.int (nI (7 * k))), v5, v6, v7] [] := by
  have hk5 : k < 512 := by omega
  refine v_aload_n X (xdec_at tL_law_21 8 rfl) rfl rfl ?_
  refine v_aload_n X (xdec_at tL_law_21 9 rfl) rfl rfl ?_
  refine v_iload X (xdec_at tL_law_21 10 rfl) rfl ?_
  refine v_iconst (v := 1) X (xdec_at tL_law_21 11 rfl) (by decide) ?_
  refine v_iadd X (xdec_at tL_law_21 12 rfl) ?_
  refine v_sld X hX hbl (nI_add (7 * k) 1) (by omega) hLn (xdec_at tL_law_21 13 rfl) ?_
  refine v_if_eq (tgt := 1433) X (xdec_at tL_law_21 14 rfl) (by decide) (fun c_1426 => ?_) (fun c_1426 => ?_)
  · refine v_iconst (v := 0) X (xdec_at tL_law_21 17 rfl) (by decide) ?_
    rw [← cXM]
    refine v_callV X myX4_sample [.int 0] [] (kyX4_sample l Z s.heap.size lay μ tb (cM Z lay μ (oW Z o)) 0 (Or.inl rfl) (hL.1.1.b (Or.inr rfl))) (xw_at tW_3 4 rfl) (0, 0) cX_X rfl rfl rfl rfl (by rfl) (Nat.le_of_ble_eq_true rfl) (xdec_at tL_law_21 18 rfl) ⟨(Nat.le_of_ble_eq_true rfl), (Nat.le_of_ble_eq_true rfl)⟩ (RMf hRM (by omega) hL.1 (by decide) (by decide)) ?_
    rintro v9 lay9 C9 ⟨rfl, rfl, rfl⟩
    rw [cXM, cX_smp]
    refine v_aload_n X (xdec_at tL_law_21 19 rfl) rfl rfl ?_
    refine v_aload_n X (xdec_at tL_law_21 20 rfl) rfl rfl ?_
    refine v_iload X (xdec_at tL_law_21 21 rfl) rfl ?_
    refine v_iconst (v := 1) X (xdec_at tL_law_21 22 rfl) (by decide) ?_
    refine v_iadd X (xdec_at tL_law_21 23 rfl) ?_
    refine v_sld X hX hbl (nI_add (7 * k) 1) (by omega) hLn (xdec_at tL_law_21 24 rfl) ?_
    refine v_if_eq (tgt := 1451) X (xdec_at tL_law_21 25 rfl) (by decide) (fun _ => ?_) (fun h9 => absurd c_1426 h9)
    refine v_iconst (v := 0) X (xdec_at tL_law_21 28 rfl) (by decide) ?_
    refine v_callV X myX5_sample [.int 0] [.int (μ.1 36 0)] (c_sample l Z s.heap.size lay μ (cX Z lay (M_sample μ 0).2 tb (oW Z o)) 0 hL.1.1 (Or.inl rfl)) (xw_at tW_21 2 rfl) (100, 0) cM_0 rfl rfl rfl rfl (by rfl) (Nat.le_of_ble_eq_true rfl) (xdec_at tL_law_21 29 rfl) ⟨(Nat.le_of_ble_eq_true rfl), (Nat.le_of_ble_eq_true rfl)⟩ (RMf hRM (by omega) hL.1 (by decide) (by decide)) ?_
    rintro v9 lay9 C9 ⟨rfl, rfl, rfl⟩
    refine v_icmp_eq (tgt := 1991) X (xdec_at tL_law_21 30 rfl) (by decide) (fun _ => ?_) (fun h9 => absurd rfl h9)
    exact kk lay (M_sample μ 0).2 tb o _ _ _ _ _ (LI_of (ni_sample hL.1 (Or.inl rfl))) (RMu (ce := 0) (sl := 0) (T := True) hRM (by decide) (by decide) (Nat.le_refl _) tb (Or.inr ⟨rfl, trivial⟩))
  · refine v_iconst (v := 1) X (xdec_at tL_law_21 15 rfl) (by decide) ?_
    refine v_goto (tgt := 1434) X (xdec_at tL_law_21 16 rfl) (by decide) ?_
    rw [← cXM]
    refine v_callV X myX4_sample [.int 1] [] (kyX4_sample l Z s.heap.size lay μ tb (cM Z lay μ (oW Z o)) 1 (Or.inr rfl) (hL.1.1.b (Or.inr rfl))) (xw_at tW_3 4 rfl) (0, 0) cX_X rfl rfl rfl rfl (by rfl) (Nat.le_of_ble_eq_true rfl) (xdec_at tL_law_21 18 rfl) ⟨(Nat.le_of_ble_eq_true rfl), (Nat.le_of_ble_eq_true rfl)⟩ (RMf hRM (by omega) hL.1 (by decide) (by decide)) ?_
    rintro v9 lay9 C9 ⟨rfl, rfl, rfl⟩
    rw [cXM, cX_smp]
    refine v_aload_n X (xdec_at tL_law_21 19 rfl) rfl rfl ?_
    refine v_aload_n X (xdec_at tL_law_21 20 rfl) rfl rfl ?_
    refine v_iload X (xdec_at tL_law_21 21 rfl) rfl ?_
    refine v_iconst (v := 1) X (xdec_at tL_law_21 22 rfl) (by decide) ?_
    refine v_iadd X (xdec_at tL_law_21 23 rfl) ?_
    refine v_sld X hX hbl (nI_add (7 * k) 1) (by omega) hLn (xdec_at tL_law_21 24 rfl) ?_
    refine v_if_eq (tgt := 1451) X (xdec_at tL_law_21 25 rfl) (by decide) (fun h9 => absurd h9 c_1426) (fun _ => ?_)
    refine v_iconst (v := 1) X (xdec_at tL_law_21 26 rfl) (by decide) ?_
    refine v_goto (tgt := 1452) X (xdec_at tL_law_21 27 rfl) (by decide) ?_
    refine v_callV X myX5_sample [.int 1] [.int (μ.1 36 0)] (c_sample l Z s.heap.size lay μ (cX Z lay (M_sample μ 1).2 tb (oW Z o)) 1 hL.1.1 (Or.inr rfl)) (xw_at tW_21 2 rfl) (100, 0) cM_0 rfl rfl rfl rfl (by rfl) (Nat.le_of_ble_eq_true rfl) (xdec_at tL_law_21 29 rfl) ⟨(Nat.le_of_ble_eq_true rfl), (Nat.le_of_ble_eq_true rfl)⟩ (RMf hRM (by omega) hL.1 (by decide) (by decide)) ?_
    rintro v9 lay9 C9 ⟨rfl, rfl, rfl⟩
    refine v_icmp_eq (tgt := 1991) X (xdec_at tL_law_21 30 rfl) (by decide) (fun _ => ?_) (fun h9 => absurd rfl h9)
    exact kk lay (M_sample μ 1).2 tb o _ _ _ _ _ (LI_of (ni_sample hL.1 (Or.inr rfl))) (RMu (ce := 0) (sl := 0) (T := True) hRM (by decide) (by decide) (Nat.le_refl _) tb (Or.inr ⟨rfl, trivial⟩))
set_option maxRecDepth 100000 in
set_option maxHeartbeats 4000000 in
theorem lc_settle {p : Program} {l : Launch} {e : Env} {s : State} {m : MethodId} {below : List Frame} {meth : Method} {c : Code} {Z : xZ} {b L k : Nat} {xs : Nat → Int32} {lay : xK → Nat} {μ : Mu} {tb : Tb} {o : Nat → Int64} {cells slots : Nat} {v5 v6 v7 : Option Value} (hl0 : l.stackTraces = false) (X : Cx p m meth c cL_law 8 s #[Value.ref b] RL Z s.heap.size) (hE : xEx s.heap.size s ∧ xNc s) (hX : va_X b L xs s s.heap) (hbl : b < s.heap.size) (hLn : L ≤ 3584) (hk : 7 * k + 7 ≤ L) (hL : LI μ tb k) (hRM : RM cells slots k tb) (kk : LK p l e s m below meth c Z b k) : V p l e room_1 s m #[Value.ref b] below meth c (lw_Z below #[Value.ref b] s) Z s.heap.size 8 lay (cM Z lay μ (cX Z lay μ tb (oW Z o))) cells slots 1460 [some (.ref b), some (.ref (lay (0, 0))), some (.ref (lay (100, 0))), some (.ref (lay (300, 0))), some (.int (nI (7 * k))), v5, v6, v7] [] := by
  have hk5 : k < 512 := by omega
  refine v_aload_n X (xdec_at tL_law_21 33 rfl) rfl rfl ?_
  refine v_aload_n X (xdec_at tL_law_21 34 rfl) rfl rfl ?_
  refine v_iload X (xdec_at tL_law_21 35 rfl) rfl ?_
  refine v_iconst (v := 1) X (xdec_at tL_law_21 36 rfl) (by decide) ?_
  refine v_iadd X (xdec_at tL_law_21 37 rfl) ?_
  refine v_sld X hX hbl (nI_add (7 * k) 1) (by omega) hLn (xdec_at tL_law_21 38 rfl) ?_
  refine v_aload_n X (xdec_at tL_law_21 39 rfl) rfl rfl ?_
  refine v_law X hE hL mw_settle [.ref (lay (0, 0)), .int (xs (7 * k + 1)), .ref (lay (300, 0))] [] (w_settle l hl0 Z s.heap.size lay μ tb (cM Z lay μ (oW Z o)) hL.1.1 (xs (7 * k + 1)) hL.1.2.1 o rfl) oW_up (cs_LI (cs_settle _) (settle_38 _ _) (fun hc => ni_settle hL.1 _)) (RMu hRM (by decide) (by decide) (Nat.le_refl (Pp tb))) (xw_at tW_13 35 rfl) rfl (by rfl) (Nat.le_of_ble_eq_true rfl) (xdec_at tL_law_22 0 rfl) ⟨(Nat.le_of_ble_eq_true rfl), (Nat.le_of_ble_eq_true rfl)⟩ (RMf hRM (by omega) hL.1 (by decide) (by decide)) fun lay' tb9 o9 e0 e1 e3 hL' ho hRM' => ?_
  rw [← e0, ← e1, ← e3]
  refine v_istore (lv' := [some (.ref b), some (.ref (lay' (0, 0))), some (.ref (lay' (100, 0))), some (.ref (lay' (300, 0))), some (.int (nI (7 * k))), some (.int ((M_settle μ (xs (7 * k + 1))).2.1 38 0)), v6, v7]) X (xdec_at tL_law_22 1 rfl) (by decide) rfl ?_
  refine v_aload_n X (xdec_at tL_law_22 2 rfl) rfl rfl ?_
  refine v_aload_n X (xdec_at tL_law_22 3 rfl) rfl rfl ?_
  refine v_iload X (xdec_at tL_law_22 4 rfl) rfl ?_
  refine v_iconst (v := 1) X (xdec_at tL_law_22 5 rfl) (by decide) ?_
  refine v_iadd X (xdec_at tL_law_22 6 rfl) ?_
  refine v_sld X hX hbl (nI_add (7 * k) 1) (by omega) hLn (xdec_at tL_law_22 7 rfl) ?_
  refine v_callV X myX5_settle [.int (xs (7 * k + 1))] [] (c_settle l Z s.heap.size lay' μ (cX Z lay' (M_settle μ (xs (7 * k + 1))).2 tb9 (oW Z o9)) (xs (7 * k + 1))) (xw_at tW_21 6 rfl) (100, 0) cM_0 rfl rfl rfl rfl (by rfl) (Nat.le_of_ble_eq_true rfl) (xdec_at tL_law_22 8 rfl) ⟨(Nat.le_of_ble_eq_true rfl), (Nat.le_of_ble_eq_true rfl)⟩ (RMf hRM' (by omega) hL'.1 (by decide) (by decide)) ?_
  rintro v9 lay9 C9 ⟨rfl, rfl, rfl⟩
  refine v_lstore (lv' := [some (.ref b), some (.ref (lay' (0, 0))), some (.ref (lay' (100, 0))), some (.ref (lay' (300, 0))), some (.int (nI (7 * k))), some (.int ((M_settle μ (xs (7 * k + 1))).2.1 38 0)), some (.long (M_settle μ (xs (7 * k + 1))).1), none]) X (xdec_at tL_law_22 9 rfl) (by decide) rfl ?_
  refine v_aload_n X (xdec_at tL_law_22 10 rfl) rfl rfl ?_
  refine v_callV X myX5_thrown [] [] (c_thrown l Z s.heap.size lay' (M_settle μ (xs (7 * k + 1))).2 (cX Z lay' (M_settle μ (xs (7 * k + 1))).2 tb9 (oW Z o9))) (xw_at tW_17 23 rfl) (100, 0) cM_0 rfl rfl rfl rfl (by rfl) (Nat.le_of_ble_eq_true rfl) (xdec_at tL_law_22 11 rfl) ⟨(Nat.le_of_ble_eq_true rfl), (Nat.le_of_ble_eq_true rfl)⟩ (RMf hRM' (by omega) hL'.1 (by decide) (by decide)) ?_
  rintro v9 lay9 C9 ⟨rfl, rfl, rfl⟩
  refine v_iload X (xdec_at tL_law_22 12 rfl) rfl ?_
  refine v_icmp_eq (tgt := 1496) X (xdec_at tL_law_22 13 rfl) (by decide) (fun _ => ?_) (fun h9 => absurd rfl h9)
  refine v_iload X (xdec_at tL_law_22 16 rfl) rfl ?_
  refine v_if_ne (tgt := 1512) X (xdec_at tL_law_22 17 rfl) (by decide) (fun c_1498 => ?_) (fun c_1498 => ?_)
  · refine v_goto (tgt := 1991) X (xdec_at tL_law_22 26 rfl) (by decide) ?_
    exact kk lay' (M_settle μ (xs (7 * k + 1))).2 tb9 o9 _ _ _ _ _ hL' hRM'
  · refine v_aload_n X (xdec_at tL_law_22 18 rfl) rfl rfl ?_
    refine v_iconst (v := 0) X (xdec_at tL_law_22 19 rfl) (by decide) ?_
    refine x_lald (v := o9 0) X (300, 0) cW_o (vp_in_nI (n := 0) (N := 1) (by decide) (by decide)) rfl rfl (xdec_at tL_law_22 20 rfl) ?_
    refine v_lload X (xdec_at tL_law_22 21 rfl) rfl ?_
    refine v_lcmp X (xdec_at tL_law_22 22 rfl) ?_
    refine v_if_eq (tgt := 1512) X (xdec_at tL_law_22 23 rfl) (by decide) (fun _ => ?_) (fun h9 => absurd (lcz ((congrFun (ho c_1498) 0).trans (if_pos rfl))) h9)
    refine v_goto (tgt := 1991) X (xdec_at tL_law_22 26 rfl) (by decide) ?_
    exact kk lay' (M_settle μ (xs (7 * k + 1))).2 tb9 o9 _ _ _ _ _ hL' hRM'
set_option maxRecDepth 100000 in
set_option maxHeartbeats 4000000 in
theorem lc_rate {p : Program} {l : Launch} {e : Env} {s : State} {m : MethodId} {below : List Frame} {meth : Method} {c : Code} {Z : xZ} {b L k : Nat} {xs : Nat → Int32} {lay : xK → Nat} {μ : Mu} {tb : Tb} {o : Nat → Int64} {cells slots : Nat} {v5 v6 v7 : Option Value} (hl0 : l.stackTraces = false) (X : Cx p m meth c cL_law 8 s #[Value.ref b] RL Z s.heap.size) (hE : xEx s.heap.size s ∧ xNc s) (hX : va_X b L xs s s.heap) (hbl : b < s.heap.size) (hLn : L ≤ 3584) (hk : 7 * k + 7 ≤ L) (hL : LI μ tb k) (hRM : RM cells slots k tb) (kk : LK p l e s m below meth c Z b k) : V p l e room_1 s m #[Value.ref b] below meth c (lw_Z below #[Value.ref b] s) Z s.heap.size 8 lay (cM Z lay μ (cX Z lay μ tb (oW Z o))) cells slots 1515 [some (.ref b), some (.ref (lay (0, 0))), some (.ref (lay (100, 0))), some (.ref (lay (300, 0))), some (.int (nI (7 * k))), v5, v6, v7] [] := by
  have hk5 : k < 512 := by omega
  refine v_aload_n X (xdec_at tL_law_22 27 rfl) rfl rfl ?_
  refine v_aload_n X (xdec_at tL_law_22 28 rfl) rfl rfl ?_
  refine v_iload X (xdec_at tL_law_22 29 rfl) rfl ?_
  refine v_iconst (v := 1) X (xdec_at tL_law_22 30 rfl) (by decide) ?_
  refine v_iadd X (xdec_at tL_law_22 31 rfl) ?_
  refine v_sld X hX hbl (nI_add (7 * k) 1) (by omega) hLn (xdec_at tL_law_22 32 rfl) ?_
  refine v_aload_n X (xdec_at tL_law_22 33 rfl) rfl rfl ?_
  refine v_iload X (xdec_at tL_law_22 34 rfl) rfl ?_
  refine v_iconst (v := 2) X (xdec_at tL_law_22 35 rfl) (by decide) ?_
  refine v_iadd X (xdec_at tL_law_22 36 rfl) ?_
  refine v_sld X hX hbl (nI_add (7 * k) 2) (by omega) hLn (xdec_at tL_law_22 37 rfl) ?_
  refine v_aload_n X (xdec_at tL_law_22 38 rfl) rfl rfl ?_
  refine v_iload X (xdec_at tL_law_22 39 rfl) rfl ?_
  refine v_iconst (v := 3) X (xdec_at tL_law_23 0 rfl) (by decide) ?_
  refine v_iadd X (xdec_at tL_law_23 1 rfl) ?_
  refine v_sld X hX hbl (nI_add (7 * k) 3) (by omega) hLn (xdec_at tL_law_23 2 rfl) ?_
  refine v_aload_n X (xdec_at tL_law_23 3 rfl) rfl rfl ?_
  refine v_iload X (xdec_at tL_law_23 4 rfl) rfl ?_
  refine v_iconst (v := 4) X (xdec_at tL_law_23 5 rfl) (by decide) ?_
  refine v_iadd X (xdec_at tL_law_23 6 rfl) ?_
  refine v_sld X hX hbl (nI_add (7 * k) 4) (by omega) hLn (xdec_at tL_law_23 7 rfl) ?_
  refine v_if_eq (tgt := 1547) X (xdec_at tL_law_23 8 rfl) (by decide) (fun c_1540 => ?_) (fun c_1540 => ?_)
  · refine v_iconst (v := 0) X (xdec_at tL_law_23 11 rfl) (by decide) ?_
    refine v_aload_n X (xdec_at tL_law_23 12 rfl) rfl rfl ?_
    refine v_law X hE hL mw_rate [.ref (lay (0, 0)), .int (xs (7 * k + 1)), .int (xs (7 * k + 2)), .int (xs (7 * k + 3)), .int 0, .ref (lay (300, 0))] [] (w_rate l hl0 Z s.heap.size lay μ tb (cM Z lay μ (oW Z o)) hL.1.1 (xs (7 * k + 1)) (xs (7 * k + 2)) (xs (7 * k + 3)) 0 o rfl) oW_up (ask_LI hL (cs_rate _ _ _ _)) (RMu hRM (by decide) (by decide) (Nat.le_refl (Pp tb))) (xw_at tW_14 5 rfl) rfl (by rfl) (Nat.le_of_ble_eq_true rfl) (xdec_at tL_law_23 13 rfl) ⟨(Nat.le_of_ble_eq_true rfl), (Nat.le_of_ble_eq_true rfl)⟩ (RMf hRM (by omega) hL.1 (by decide) (by decide)) fun lay' tb9 o9 e0 e1 e3 hL' ho hRM' => ?_
    rw [← e0, ← e1, ← e3]
    refine v_istore (lv' := [some (.ref b), some (.ref (lay' (0, 0))), some (.ref (lay' (100, 0))), some (.ref (lay' (300, 0))), some (.int (nI (7 * k))), some (.int ((M_rate μ (xs (7 * k + 1)) (xs (7 * k + 2)) (xs (7 * k + 3)) 0).2.1 38 0)), v6, v7]) X (xdec_at tL_law_23 14 rfl) (by decide) rfl ?_
    refine v_aload_n X (xdec_at tL_law_23 15 rfl) rfl rfl ?_
    refine v_aload_n X (xdec_at tL_law_23 16 rfl) rfl rfl ?_
    refine v_iload X (xdec_at tL_law_23 17 rfl) rfl ?_
    refine v_iconst (v := 1) X (xdec_at tL_law_23 18 rfl) (by decide) ?_
    refine v_iadd X (xdec_at tL_law_23 19 rfl) ?_
    refine v_sld X hX hbl (nI_add (7 * k) 1) (by omega) hLn (xdec_at tL_law_23 20 rfl) ?_
    refine v_aload_n X (xdec_at tL_law_23 21 rfl) rfl rfl ?_
    refine v_iload X (xdec_at tL_law_23 22 rfl) rfl ?_
    refine v_iconst (v := 2) X (xdec_at tL_law_23 23 rfl) (by decide) ?_
    refine v_iadd X (xdec_at tL_law_23 24 rfl) ?_
    refine v_sld X hX hbl (nI_add (7 * k) 2) (by omega) hLn (xdec_at tL_law_23 25 rfl) ?_
    refine v_aload_n X (xdec_at tL_law_23 26 rfl) rfl rfl ?_
    refine v_iload X (xdec_at tL_law_23 27 rfl) rfl ?_
    refine v_iconst (v := 3) X (xdec_at tL_law_23 28 rfl) (by decide) ?_
    refine v_iadd X (xdec_at tL_law_23 29 rfl) ?_
    refine v_sld X hX hbl (nI_add (7 * k) 3) (by omega) hLn (xdec_at tL_law_23 30 rfl) ?_
    refine v_aload_n X (xdec_at tL_law_23 31 rfl) rfl rfl ?_
    refine v_iload X (xdec_at tL_law_23 32 rfl) rfl ?_
    refine v_iconst (v := 4) X (xdec_at tL_law_23 33 rfl) (by decide) ?_
    refine v_iadd X (xdec_at tL_law_23 34 rfl) ?_
    refine v_sld X hX hbl (nI_add (7 * k) 4) (by omega) hLn (xdec_at tL_law_23 35 rfl) ?_
    refine v_if_eq (tgt := 1586) X (xdec_at tL_law_23 36 rfl) (by decide) (fun _ => ?_) (fun h9 => absurd c_1540 h9)
    refine v_iconst (v := 0) X (xdec_at tL_law_23 39 rfl) (by decide) ?_
    refine v_callV X myX5_rate [.int (xs (7 * k + 1)), .int (xs (7 * k + 2)), .int (xs (7 * k + 3)), .int 0] [] (c_rate l Z s.heap.size lay' μ (cX Z lay' (M_rate μ (xs (7 * k + 1)) (xs (7 * k + 2)) (xs (7 * k + 3)) 0).2 tb9 (oW Z o9)) (xs (7 * k + 1)) (xs (7 * k + 2)) (xs (7 * k + 3)) 0 hL.1.1) (xw_at tW_21 10 rfl) (100, 0) cM_0 rfl rfl rfl rfl (by rfl) (Nat.le_of_ble_eq_true rfl) (xdec_at tL_law_24 0 rfl) ⟨(Nat.le_of_ble_eq_true rfl), (Nat.le_of_ble_eq_true rfl)⟩ (RMf hRM' (by omega) hL'.1 (by decide) (by decide)) ?_
    rintro v9 lay9 C9 ⟨rfl, rfl, rfl⟩
    refine v_istore (lv' := [some (.ref b), some (.ref (lay' (0, 0))), some (.ref (lay' (100, 0))), some (.ref (lay' (300, 0))), some (.int (nI (7 * k))), some (.int ((M_rate μ (xs (7 * k + 1)) (xs (7 * k + 2)) (xs (7 * k + 3)) 0).2.1 38 0)), some (.int (M_rate μ (xs (7 * k + 1)) (xs (7 * k + 2)) (xs (7 * k + 3)) 0).1), v7]) X (xdec_at tL_law_24 1 rfl) (by decide) rfl ?_
    refine v_aload_n X (xdec_at tL_law_24 2 rfl) rfl rfl ?_
    refine v_callV X myX5_thrown [] [] (c_thrown l Z s.heap.size lay' (M_rate μ (xs (7 * k + 1)) (xs (7 * k + 2)) (xs (7 * k + 3)) 0).2 (cX Z lay' (M_rate μ (xs (7 * k + 1)) (xs (7 * k + 2)) (xs (7 * k + 3)) 0).2 tb9 (oW Z o9))) (xw_at tW_17 23 rfl) (100, 0) cM_0 rfl rfl rfl rfl (by rfl) (Nat.le_of_ble_eq_true rfl) (xdec_at tL_law_24 3 rfl) ⟨(Nat.le_of_ble_eq_true rfl), (Nat.le_of_ble_eq_true rfl)⟩ (RMf hRM' (by omega) hL'.1 (by decide) (by decide)) ?_
    rintro v9 lay9 C9 ⟨rfl, rfl, rfl⟩
    refine v_iload X (xdec_at tL_law_24 4 rfl) rfl ?_
    refine v_icmp_eq (tgt := 1603) X (xdec_at tL_law_24 5 rfl) (by decide) (fun _ => ?_) (fun h9 => absurd rfl h9)
    refine v_iload X (xdec_at tL_law_24 8 rfl) rfl ?_
    refine v_if_ne (tgt := 1620) X (xdec_at tL_law_24 9 rfl) (by decide) (fun c_1605 => ?_) (fun c_1605 => ?_)
    · refine v_goto (tgt := 1991) X (xdec_at tL_law_24 19 rfl) (by decide) ?_
      exact kk lay' (M_rate μ (xs (7 * k + 1)) (xs (7 * k + 2)) (xs (7 * k + 3)) 0).2 tb9 o9 _ _ _ _ _ hL' hRM'
    · refine v_aload_n X (xdec_at tL_law_24 10 rfl) rfl rfl ?_
      refine v_iconst (v := 0) X (xdec_at tL_law_24 11 rfl) (by decide) ?_
      refine x_lald (v := o9 0) X (300, 0) cW_o (vp_in_nI (n := 0) (N := 1) (by decide) (by decide)) rfl rfl (xdec_at tL_law_24 12 rfl) ?_
      refine v_iload X (xdec_at tL_law_24 13 rfl) rfl ?_
      refine v_i2l X (xdec_at tL_law_24 14 rfl) rfl ?_
      refine v_lcmp X (xdec_at tL_law_24 15 rfl) ?_
      refine v_if_eq (tgt := 1620) X (xdec_at tL_law_24 16 rfl) (by decide) (fun _ => ?_) (fun h9 => absurd (lcz ((congrFun (ho c_1605) 0).trans (if_pos rfl))) h9)
      refine v_goto (tgt := 1991) X (xdec_at tL_law_24 19 rfl) (by decide) ?_
      exact kk lay' (M_rate μ (xs (7 * k + 1)) (xs (7 * k + 2)) (xs (7 * k + 3)) 0).2 tb9 o9 _ _ _ _ _ hL' hRM'
  · refine v_iconst (v := 1) X (xdec_at tL_law_23 9 rfl) (by decide) ?_
    refine v_goto (tgt := 1548) X (xdec_at tL_law_23 10 rfl) (by decide) ?_
    refine v_aload_n X (xdec_at tL_law_23 12 rfl) rfl rfl ?_
    refine v_law X hE hL mw_rate [.ref (lay (0, 0)), .int (xs (7 * k + 1)), .int (xs (7 * k + 2)), .int (xs (7 * k + 3)), .int 1, .ref (lay (300, 0))] [] (w_rate l hl0 Z s.heap.size lay μ tb (cM Z lay μ (oW Z o)) hL.1.1 (xs (7 * k + 1)) (xs (7 * k + 2)) (xs (7 * k + 3)) 1 o rfl) oW_up (ask_LI hL (cs_rate _ _ _ _)) (RMu hRM (by decide) (by decide) (Nat.le_refl (Pp tb))) (xw_at tW_14 5 rfl) rfl (by rfl) (Nat.le_of_ble_eq_true rfl) (xdec_at tL_law_23 13 rfl) ⟨(Nat.le_of_ble_eq_true rfl), (Nat.le_of_ble_eq_true rfl)⟩ (RMf hRM (by omega) hL.1 (by decide) (by decide)) fun lay' tb9 o9 e0 e1 e3 hL' ho hRM' => ?_
    rw [← e0, ← e1, ← e3]
    refine v_istore (lv' := [some (.ref b), some (.ref (lay' (0, 0))), some (.ref (lay' (100, 0))), some (.ref (lay' (300, 0))), some (.int (nI (7 * k))), some (.int ((M_rate μ (xs (7 * k + 1)) (xs (7 * k + 2)) (xs (7 * k + 3)) 1).2.1 38 0)), v6, v7]) X (xdec_at tL_law_23 14 rfl) (by decide) rfl ?_
    refine v_aload_n X (xdec_at tL_law_23 15 rfl) rfl rfl ?_
    refine v_aload_n X (xdec_at tL_law_23 16 rfl) rfl rfl ?_
    refine v_iload X (xdec_at tL_law_23 17 rfl) rfl ?_
    refine v_iconst (v := 1) X (xdec_at tL_law_23 18 rfl) (by decide) ?_
    refine v_iadd X (xdec_at tL_law_23 19 rfl) ?_
    refine v_sld X hX hbl (nI_add (7 * k) 1) (by omega) hLn (xdec_at tL_law_23 20 rfl) ?_
    refine v_aload_n X (xdec_at tL_law_23 21 rfl) rfl rfl ?_
    refine v_iload X (xdec_at tL_law_23 22 rfl) rfl ?_
    refine v_iconst (v := 2) X (xdec_at tL_law_23 23 rfl) (by decide) ?_
    refine v_iadd X (xdec_at tL_law_23 24 rfl) ?_
    refine v_sld X hX hbl (nI_add (7 * k) 2) (by omega) hLn (xdec_at tL_law_23 25 rfl) ?_
    refine v_aload_n X (xdec_at tL_law_23 26 rfl) rfl rfl ?_
    refine v_iload X (xdec_at tL_law_23 27 rfl) rfl ?_
    refine v_iconst (v := 3) X (xdec_at tL_law_23 28 rfl) (by decide) ?_
    refine v_iadd X (xdec_at tL_law_23 29 rfl) ?_
    refine v_sld X hX hbl (nI_add (7 * k) 3) (by omega) hLn (xdec_at tL_law_23 30 rfl) ?_
    refine v_aload_n X (xdec_at tL_law_23 31 rfl) rfl rfl ?_
    refine v_iload X (xdec_at tL_law_23 32 rfl) rfl ?_
    refine v_iconst (v := 4) X (xdec_at tL_law_23 33 rfl) (by decide) ?_
    refine v_iadd X (xdec_at tL_law_23 34 rfl) ?_
    refine v_sld X hX hbl (nI_add (7 * k) 4) (by omega) hLn (xdec_at tL_law_23 35 rfl) ?_
    refine v_if_eq (tgt := 1586) X (xdec_at tL_law_23 36 rfl) (by decide) (fun h9 => absurd h9 c_1540) (fun _ => ?_)
    refine v_iconst (v := 1) X (xdec_at tL_law_23 37 rfl) (by decide) ?_
    refine v_goto (tgt := 1587) X (xdec_at tL_law_23 38 rfl) (by decide) ?_
    refine v_callV X myX5_rate [.int (xs (7 * k + 1)), .int (xs (7 * k + 2)), .int (xs (7 * k + 3)), .int 1] [] (c_rate l Z s.heap.size lay' μ (cX Z lay' (M_rate μ (xs (7 * k + 1)) (xs (7 * k + 2)) (xs (7 * k + 3)) 1).2 tb9 (oW Z o9)) (xs (7 * k + 1)) (xs (7 * k + 2)) (xs (7 * k + 3)) 1 hL.1.1) (xw_at tW_21 10 rfl) (100, 0) cM_0 rfl rfl rfl rfl (by rfl) (Nat.le_of_ble_eq_true rfl) (xdec_at tL_law_24 0 rfl) ⟨(Nat.le_of_ble_eq_true rfl), (Nat.le_of_ble_eq_true rfl)⟩ (RMf hRM' (by omega) hL'.1 (by decide) (by decide)) ?_
    rintro v9 lay9 C9 ⟨rfl, rfl, rfl⟩
    refine v_istore (lv' := [some (.ref b), some (.ref (lay' (0, 0))), some (.ref (lay' (100, 0))), some (.ref (lay' (300, 0))), some (.int (nI (7 * k))), some (.int ((M_rate μ (xs (7 * k + 1)) (xs (7 * k + 2)) (xs (7 * k + 3)) 1).2.1 38 0)), some (.int (M_rate μ (xs (7 * k + 1)) (xs (7 * k + 2)) (xs (7 * k + 3)) 1).1), v7]) X (xdec_at tL_law_24 1 rfl) (by decide) rfl ?_
    refine v_aload_n X (xdec_at tL_law_24 2 rfl) rfl rfl ?_
    refine v_callV X myX5_thrown [] [] (c_thrown l Z s.heap.size lay' (M_rate μ (xs (7 * k + 1)) (xs (7 * k + 2)) (xs (7 * k + 3)) 1).2 (cX Z lay' (M_rate μ (xs (7 * k + 1)) (xs (7 * k + 2)) (xs (7 * k + 3)) 1).2 tb9 (oW Z o9))) (xw_at tW_17 23 rfl) (100, 0) cM_0 rfl rfl rfl rfl (by rfl) (Nat.le_of_ble_eq_true rfl) (xdec_at tL_law_24 3 rfl) ⟨(Nat.le_of_ble_eq_true rfl), (Nat.le_of_ble_eq_true rfl)⟩ (RMf hRM' (by omega) hL'.1 (by decide) (by decide)) ?_
    rintro v9 lay9 C9 ⟨rfl, rfl, rfl⟩
    refine v_iload X (xdec_at tL_law_24 4 rfl) rfl ?_
    refine v_icmp_eq (tgt := 1603) X (xdec_at tL_law_24 5 rfl) (by decide) (fun _ => ?_) (fun h9 => absurd rfl h9)
    refine v_iload X (xdec_at tL_law_24 8 rfl) rfl ?_
    refine v_if_ne (tgt := 1620) X (xdec_at tL_law_24 9 rfl) (by decide) (fun c_1605 => ?_) (fun c_1605 => ?_)
    · refine v_goto (tgt := 1991) X (xdec_at tL_law_24 19 rfl) (by decide) ?_
      exact kk lay' (M_rate μ (xs (7 * k + 1)) (xs (7 * k + 2)) (xs (7 * k + 3)) 1).2 tb9 o9 _ _ _ _ _ hL' hRM'
    · refine v_aload_n X (xdec_at tL_law_24 10 rfl) rfl rfl ?_
      refine v_iconst (v := 0) X (xdec_at tL_law_24 11 rfl) (by decide) ?_
      refine x_lald (v := o9 0) X (300, 0) cW_o (vp_in_nI (n := 0) (N := 1) (by decide) (by decide)) rfl rfl (xdec_at tL_law_24 12 rfl) ?_
      refine v_iload X (xdec_at tL_law_24 13 rfl) rfl ?_
      refine v_i2l X (xdec_at tL_law_24 14 rfl) rfl ?_
      refine v_lcmp X (xdec_at tL_law_24 15 rfl) ?_
      refine v_if_eq (tgt := 1620) X (xdec_at tL_law_24 16 rfl) (by decide) (fun _ => ?_) (fun h9 => absurd (lcz ((congrFun (ho c_1605) 0).trans (if_pos rfl))) h9)
      refine v_goto (tgt := 1991) X (xdec_at tL_law_24 19 rfl) (by decide) ?_
      exact kk lay' (M_rate μ (xs (7 * k + 1)) (xs (7 * k + 2)) (xs (7 * k + 3)) 1).2 tb9 o9 _ _ _ _ _ hL' hRM'
set_option maxRecDepth 100000 in
set_option maxHeartbeats 4000000 in
theorem lc_ofThing {p : Program} {l : Launch} {e : Env} {s : State} {m : MethodId} {below : List Frame} {meth : Method} {c : Code} {Z : xZ} {b L k : Nat} {xs : Nat → Int32} {lay : xK → Nat} {μ : Mu} {tb : Tb} {o : Nat → Int64} {cells slots : Nat} {v5 v6 v7 : Option Value} (hl0 : l.stackTraces = false) (X : Cx p m meth c cL_law 8 s #[Value.ref b] RL Z s.heap.size) (hE : xEx s.heap.size s ∧ xNc s) (hX : va_X b L xs s s.heap) (hbl : b < s.heap.size) (hLn : L ≤ 3584) (hk : 7 * k + 7 ≤ L) (hL : LI μ tb k) (hRM : RM cells slots k tb) (kk : LK p l e s m below meth c Z b k) : V p l e room_1 s m #[Value.ref b] below meth c (lw_Z below #[Value.ref b] s) Z s.heap.size 8 lay (cM Z lay μ (cX Z lay μ tb (oW Z o))) cells slots 1623 [some (.ref b), some (.ref (lay (0, 0))), some (.ref (lay (100, 0))), some (.ref (lay (300, 0))), some (.int (nI (7 * k))), v5, v6, v7] [] := by
  have hk5 : k < 512 := by omega
  refine v_aload_n X (xdec_at tL_law_24 20 rfl) rfl rfl ?_
  refine v_aload_n X (xdec_at tL_law_24 21 rfl) rfl rfl ?_
  refine v_iload X (xdec_at tL_law_24 22 rfl) rfl ?_
  refine v_iconst (v := 1) X (xdec_at tL_law_24 23 rfl) (by decide) ?_
  refine v_iadd X (xdec_at tL_law_24 24 rfl) ?_
  refine v_sld X hX hbl (nI_add (7 * k) 1) (by omega) hLn (xdec_at tL_law_24 25 rfl) ?_
  refine v_aload_n X (xdec_at tL_law_24 26 rfl) rfl rfl ?_
  refine v_iload X (xdec_at tL_law_24 27 rfl) rfl ?_
  refine v_iconst (v := 2) X (xdec_at tL_law_24 28 rfl) (by decide) ?_
  refine v_iadd X (xdec_at tL_law_24 29 rfl) ?_
  refine v_sld X hX hbl (nI_add (7 * k) 2) (by omega) hLn (xdec_at tL_law_24 30 rfl) ?_
  refine v_aload_n X (xdec_at tL_law_24 31 rfl) rfl rfl ?_
  refine v_law X hE hL mw_ofThing [.ref (lay (0, 0)), .int (xs (7 * k + 1)), .int (xs (7 * k + 2)), .ref (lay (300, 0))] [] (w_ofThing l hl0 Z s.heap.size lay μ tb (cM Z lay μ (oW Z o)) hL.1.1 (xs (7 * k + 1)) (xs (7 * k + 2)) hL.1.2.1 o rfl) oW_up (ask_LI hL (cs_ofThing _ _)) (RMu hRM (by decide) (by decide) (Nat.le_refl (Pp tb))) (xw_at tW_14 12 rfl) rfl (by rfl) (Nat.le_of_ble_eq_true rfl) (xdec_at tL_law_24 32 rfl) ⟨(Nat.le_of_ble_eq_true rfl), (Nat.le_of_ble_eq_true rfl)⟩ (RMf hRM (by omega) hL.1 (by decide) (by decide)) fun lay' tb9 o9 e0 e1 e3 hL' ho hRM' => ?_
  rw [← e0, ← e1, ← e3]
  refine v_istore (lv' := [some (.ref b), some (.ref (lay' (0, 0))), some (.ref (lay' (100, 0))), some (.ref (lay' (300, 0))), some (.int (nI (7 * k))), some (.int ((M_ofThing μ (xs (7 * k + 1)) (xs (7 * k + 2))).2.1 38 0)), v6, v7]) X (xdec_at tL_law_24 33 rfl) (by decide) rfl ?_
  refine v_aload_n X (xdec_at tL_law_24 34 rfl) rfl rfl ?_
  refine v_aload_n X (xdec_at tL_law_24 35 rfl) rfl rfl ?_
  refine v_iload X (xdec_at tL_law_24 36 rfl) rfl ?_
  refine v_iconst (v := 1) X (xdec_at tL_law_24 37 rfl) (by decide) ?_
  refine v_iadd X (xdec_at tL_law_24 38 rfl) ?_
  refine v_sld X hX hbl (nI_add (7 * k) 1) (by omega) hLn (xdec_at tL_law_24 39 rfl) ?_
  refine v_aload_n X (xdec_at tL_law_25 0 rfl) rfl rfl ?_
  refine v_iload X (xdec_at tL_law_25 1 rfl) rfl ?_
  refine v_iconst (v := 2) X (xdec_at tL_law_25 2 rfl) (by decide) ?_
  refine v_iadd X (xdec_at tL_law_25 3 rfl) ?_
  refine v_sld X hX hbl (nI_add (7 * k) 2) (by omega) hLn (xdec_at tL_law_25 4 rfl) ?_
  refine v_callV X myX5_ofThing [.int (xs (7 * k + 1)), .int (xs (7 * k + 2))] [] (c_ofThing l Z s.heap.size lay' μ (cX Z lay' (M_ofThing μ (xs (7 * k + 1)) (xs (7 * k + 2))).2 tb9 (oW Z o9)) (xs (7 * k + 1)) (xs (7 * k + 2)) hL.1.1) (xw_at tW_21 14 rfl) (100, 0) cM_0 rfl rfl rfl rfl (by rfl) (Nat.le_of_ble_eq_true rfl) (xdec_at tL_law_25 5 rfl) ⟨(Nat.le_of_ble_eq_true rfl), (Nat.le_of_ble_eq_true rfl)⟩ (RMf hRM' (by omega) hL'.1 (by decide) (by decide)) ?_
  rintro v9 lay9 C9 ⟨rfl, rfl, rfl⟩
  refine v_lstore (lv' := [some (.ref b), some (.ref (lay' (0, 0))), some (.ref (lay' (100, 0))), some (.ref (lay' (300, 0))), some (.int (nI (7 * k))), some (.int ((M_ofThing μ (xs (7 * k + 1)) (xs (7 * k + 2))).2.1 38 0)), some (.long (M_ofThing μ (xs (7 * k + 1)) (xs (7 * k + 2))).1), none]) X (xdec_at tL_law_25 6 rfl) (by decide) rfl ?_
  refine v_aload_n X (xdec_at tL_law_25 7 rfl) rfl rfl ?_
  refine v_callV X myX5_thrown [] [] (c_thrown l Z s.heap.size lay' (M_ofThing μ (xs (7 * k + 1)) (xs (7 * k + 2))).2 (cX Z lay' (M_ofThing μ (xs (7 * k + 1)) (xs (7 * k + 2))).2 tb9 (oW Z o9))) (xw_at tW_17 23 rfl) (100, 0) cM_0 rfl rfl rfl rfl (by rfl) (Nat.le_of_ble_eq_true rfl) (xdec_at tL_law_25 8 rfl) ⟨(Nat.le_of_ble_eq_true rfl), (Nat.le_of_ble_eq_true rfl)⟩ (RMf hRM' (by omega) hL'.1 (by decide) (by decide)) ?_
  rintro v9 lay9 C9 ⟨rfl, rfl, rfl⟩
  refine v_iload X (xdec_at tL_law_25 9 rfl) rfl ?_
  refine v_icmp_eq (tgt := 1671) X (xdec_at tL_law_25 10 rfl) (by decide) (fun _ => ?_) (fun h9 => absurd rfl h9)
  refine v_iload X (xdec_at tL_law_25 13 rfl) rfl ?_
  refine v_if_ne (tgt := 1687) X (xdec_at tL_law_25 14 rfl) (by decide) (fun c_1673 => ?_) (fun c_1673 => ?_)
  · refine v_goto (tgt := 1991) X (xdec_at tL_law_25 23 rfl) (by decide) ?_
    exact kk lay' (M_ofThing μ (xs (7 * k + 1)) (xs (7 * k + 2))).2 tb9 o9 _ _ _ _ _ hL' hRM'
  · refine v_aload_n X (xdec_at tL_law_25 15 rfl) rfl rfl ?_
    refine v_iconst (v := 0) X (xdec_at tL_law_25 16 rfl) (by decide) ?_
    refine x_lald (v := o9 0) X (300, 0) cW_o (vp_in_nI (n := 0) (N := 1) (by decide) (by decide)) rfl rfl (xdec_at tL_law_25 17 rfl) ?_
    refine v_lload X (xdec_at tL_law_25 18 rfl) rfl ?_
    refine v_lcmp X (xdec_at tL_law_25 19 rfl) ?_
    refine v_if_eq (tgt := 1687) X (xdec_at tL_law_25 20 rfl) (by decide) (fun _ => ?_) (fun h9 => absurd (lcz ((congrFun (ho c_1673) 0).trans (if_pos rfl))) h9)
    refine v_goto (tgt := 1991) X (xdec_at tL_law_25 23 rfl) (by decide) ?_
    exact kk lay' (M_ofThing μ (xs (7 * k + 1)) (xs (7 * k + 2))).2 tb9 o9 _ _ _ _ _ hL' hRM'
set_option maxRecDepth 100000 in
set_option maxHeartbeats 4000000 in
theorem lc_hand {p : Program} {l : Launch} {e : Env} {s : State} {m : MethodId} {below : List Frame} {meth : Method} {c : Code} {Z : xZ} {b L k : Nat} {xs : Nat → Int32} {lay : xK → Nat} {μ : Mu} {tb : Tb} {o : Nat → Int64} {cells slots : Nat} {v5 v6 v7 : Option Value} (hl0 : l.stackTraces = false) (X : Cx p m meth c cL_law 8 s #[Value.ref b] RL Z s.heap.size) (hE : xEx s.heap.size s ∧ xNc s) (hX : va_X b L xs s s.heap) (hbl : b < s.heap.size) (hLn : L ≤ 3584) (hk : 7 * k + 7 ≤ L) (hL : LI μ tb k) (hRM : RM cells slots k tb) (kk : LK p l e s m below meth c Z b k) : V p l e room_1 s m #[Value.ref b] below meth c (lw_Z below #[Value.ref b] s) Z s.heap.size 8 lay (cM Z lay μ (cX Z lay μ tb (oW Z o))) cells slots 1690 [some (.ref b), some (.ref (lay (0, 0))), some (.ref (lay (100, 0))), some (.ref (lay (300, 0))), some (.int (nI (7 * k))), v5, v6, v7] [] := by
  have hk5 : k < 512 := by omega
  obtain ⟨cl, hH⟩ := hL.1.2.2.1
  refine v_aload_n X (xdec_at tL_law_25 24 rfl) rfl rfl ?_
  refine v_aload_n X (xdec_at tL_law_25 25 rfl) rfl rfl ?_
  refine v_iload X (xdec_at tL_law_25 26 rfl) rfl ?_
  refine v_iconst (v := 1) X (xdec_at tL_law_25 27 rfl) (by decide) ?_
  refine v_iadd X (xdec_at tL_law_25 28 rfl) ?_
  refine v_sld X hX hbl (nI_add (7 * k) 1) (by omega) hLn (xdec_at tL_law_25 29 rfl) ?_
  refine v_aload_n X (xdec_at tL_law_25 30 rfl) rfl rfl ?_
  refine v_iload X (xdec_at tL_law_25 31 rfl) rfl ?_
  refine v_iconst (v := 2) X (xdec_at tL_law_25 32 rfl) (by decide) ?_
  refine v_iadd X (xdec_at tL_law_25 33 rfl) ?_
  refine v_sld X hX hbl (nI_add (7 * k) 2) (by omega) hLn (xdec_at tL_law_25 34 rfl) ?_
  refine v_aload_n X (xdec_at tL_law_25 35 rfl) rfl rfl ?_
  refine v_law X hE hL mw_hand [.ref (lay (0, 0)), .int (xs (7 * k + 1)), .int (xs (7 * k + 2)), .ref (lay (300, 0))] [] (w_hand l hl0 Z s.heap.size lay μ tb (cM Z lay μ (oW Z o)) hL.1.1 (xs (7 * k + 1)) (xs (7 * k + 2)) cl hH o rfl) oW_up (ask_LI hL (cs_hand _ _)) (RMu hRM (by decide) (by decide) (Nat.le_refl (Pp tb))) (xw_at tW_14 19 rfl) rfl (by rfl) (Nat.le_of_ble_eq_true rfl) (xdec_at tL_law_25 36 rfl) ⟨(Nat.le_of_ble_eq_true rfl), (Nat.le_of_ble_eq_true rfl)⟩ (RMf hRM (by omega) hL.1 (by decide) (by decide)) fun lay' tb9 o9 e0 e1 e3 hL' ho hRM' => ?_
  rw [← e0, ← e1, ← e3]
  refine v_istore (lv' := [some (.ref b), some (.ref (lay' (0, 0))), some (.ref (lay' (100, 0))), some (.ref (lay' (300, 0))), some (.int (nI (7 * k))), some (.int ((M_hand μ (xs (7 * k + 1)) (xs (7 * k + 2))).2.1 38 0)), v6, v7]) X (xdec_at tL_law_25 37 rfl) (by decide) rfl ?_
  refine v_aload_n X (xdec_at tL_law_25 38 rfl) rfl rfl ?_
  refine v_aload_n X (xdec_at tL_law_25 39 rfl) rfl rfl ?_
  refine v_iload X (xdec_at tL_law_26 0 rfl) rfl ?_
  refine v_iconst (v := 1) X (xdec_at tL_law_26 1 rfl) (by decide) ?_
  refine v_iadd X (xdec_at tL_law_26 2 rfl) ?_
  refine v_sld X hX hbl (nI_add (7 * k) 1) (by omega) hLn (xdec_at tL_law_26 3 rfl) ?_
  refine v_aload_n X (xdec_at tL_law_26 4 rfl) rfl rfl ?_
  refine v_iload X (xdec_at tL_law_26 5 rfl) rfl ?_
  refine v_iconst (v := 2) X (xdec_at tL_law_26 6 rfl) (by decide) ?_
  refine v_iadd X (xdec_at tL_law_26 7 rfl) ?_
  refine v_sld X hX hbl (nI_add (7 * k) 2) (by omega) hLn (xdec_at tL_law_26 8 rfl) ?_
  refine v_callV X myX5_hand [.int (xs (7 * k + 1)), .int (xs (7 * k + 2))] [] (c_hand l Z s.heap.size lay' μ (cX Z lay' (M_hand μ (xs (7 * k + 1)) (xs (7 * k + 2))).2 tb9 (oW Z o9)) (xs (7 * k + 1)) (xs (7 * k + 2)) hL.1.1 (hand_ch hL _)) (xw_at tW_21 18 rfl) (100, 0) cM_0 rfl rfl rfl rfl (by rfl) (Nat.le_of_ble_eq_true rfl) (xdec_at tL_law_26 9 rfl) ⟨(Nat.le_of_ble_eq_true rfl), (Nat.le_of_ble_eq_true rfl)⟩ (RMf hRM' (by omega) hL'.1 (by decide) (by decide)) ?_
  rintro v9 lay9 C9 ⟨rfl, rfl, rfl⟩
  refine v_istore (lv' := [some (.ref b), some (.ref (lay' (0, 0))), some (.ref (lay' (100, 0))), some (.ref (lay' (300, 0))), some (.int (nI (7 * k))), some (.int ((M_hand μ (xs (7 * k + 1)) (xs (7 * k + 2))).2.1 38 0)), some (.int (M_hand μ (xs (7 * k + 1)) (xs (7 * k + 2))).1), v7]) X (xdec_at tL_law_26 10 rfl) (by decide) rfl ?_
  refine v_aload_n X (xdec_at tL_law_26 11 rfl) rfl rfl ?_
  refine v_callV X myX5_thrown [] [] (c_thrown l Z s.heap.size lay' (M_hand μ (xs (7 * k + 1)) (xs (7 * k + 2))).2 (cX Z lay' (M_hand μ (xs (7 * k + 1)) (xs (7 * k + 2))).2 tb9 (oW Z o9))) (xw_at tW_17 23 rfl) (100, 0) cM_0 rfl rfl rfl rfl (by rfl) (Nat.le_of_ble_eq_true rfl) (xdec_at tL_law_26 12 rfl) ⟨(Nat.le_of_ble_eq_true rfl), (Nat.le_of_ble_eq_true rfl)⟩ (RMf hRM' (by omega) hL'.1 (by decide) (by decide)) ?_
  rintro v9 lay9 C9 ⟨rfl, rfl, rfl⟩
  refine v_iload X (xdec_at tL_law_26 13 rfl) rfl ?_
  refine v_icmp_eq (tgt := 1738) X (xdec_at tL_law_26 14 rfl) (by decide) (fun _ => ?_) (fun h9 => absurd rfl h9)
  refine v_iload X (xdec_at tL_law_26 17 rfl) rfl ?_
  refine v_if_ne (tgt := 1755) X (xdec_at tL_law_26 18 rfl) (by decide) (fun c_1740 => ?_) (fun c_1740 => ?_)
  · refine v_goto (tgt := 1991) X (xdec_at tL_law_26 28 rfl) (by decide) ?_
    exact kk lay' (M_hand μ (xs (7 * k + 1)) (xs (7 * k + 2))).2 tb9 o9 _ _ _ _ _ hL' hRM'
  · refine v_aload_n X (xdec_at tL_law_26 19 rfl) rfl rfl ?_
    refine v_iconst (v := 0) X (xdec_at tL_law_26 20 rfl) (by decide) ?_
    refine x_lald (v := o9 0) X (300, 0) cW_o (vp_in_nI (n := 0) (N := 1) (by decide) (by decide)) rfl rfl (xdec_at tL_law_26 21 rfl) ?_
    refine v_iload X (xdec_at tL_law_26 22 rfl) rfl ?_
    refine v_i2l X (xdec_at tL_law_26 23 rfl) rfl ?_
    refine v_lcmp X (xdec_at tL_law_26 24 rfl) ?_
    refine v_if_eq (tgt := 1755) X (xdec_at tL_law_26 25 rfl) (by decide) (fun _ => ?_) (fun h9 => absurd (lcz ((congrFun (ho c_1740) 0).trans (if_pos rfl))) h9)
    refine v_goto (tgt := 1991) X (xdec_at tL_law_26 28 rfl) (by decide) ?_
    exact kk lay' (M_hand μ (xs (7 * k + 1)) (xs (7 * k + 2))).2 tb9 o9 _ _ _ _ _ hL' hRM'
set_option maxRecDepth 100000 in
set_option maxHeartbeats 4000000 in
theorem lc_account {p : Program} {l : Launch} {e : Env} {s : State} {m : MethodId} {below : List Frame} {meth : Method} {c : Code} {Z : xZ} {b L k : Nat} {xs : Nat → Int32} {lay : xK → Nat} {μ : Mu} {tb : Tb} {o : Nat → Int64} {cells slots : Nat} {v5 v6 v7 : Option Value} (hl0 : l.stackTraces = false) (X : Cx p m meth c cL_law 8 s #[Value.ref b] RL Z s.heap.size) (hE : xEx s.heap.size s ∧ xNc s) (hX : va_X b L xs s s.heap) (hbl : b < s.heap.size) (hLn : L ≤ 3584) (hk : 7 * k + 7 ≤ L) (hL : LI μ tb k) (hRM : RM cells slots k tb) (kk : LK p l e s m below meth c Z b k) : V p l e room_1 s m #[Value.ref b] below meth c (lw_Z below #[Value.ref b] s) Z s.heap.size 8 lay (cM Z lay μ (cX Z lay μ tb (oW Z o))) cells slots 1758 [some (.ref b), some (.ref (lay (0, 0))), some (.ref (lay (100, 0))), some (.ref (lay (300, 0))), some (.int (nI (7 * k))), v5, v6, v7] [] := by
  have hk5 : k < 512 := by omega
  refine v_aload_n X (xdec_at tL_law_26 29 rfl) rfl rfl ?_
  refine v_aload_n X (xdec_at tL_law_26 30 rfl) rfl rfl ?_
  refine v_iload X (xdec_at tL_law_26 31 rfl) rfl ?_
  refine v_iconst (v := 1) X (xdec_at tL_law_26 32 rfl) (by decide) ?_
  refine v_iadd X (xdec_at tL_law_26 33 rfl) ?_
  refine v_sld X hX hbl (nI_add (7 * k) 1) (by omega) hLn (xdec_at tL_law_26 34 rfl) ?_
  refine v_aload_n X (xdec_at tL_law_26 35 rfl) rfl rfl ?_
  refine v_law X hE hL mw_account [.ref (lay (0, 0)), .int (xs (7 * k + 1)), .ref (lay (300, 0))] [] (w_account l hl0 Z s.heap.size lay μ tb (cM Z lay μ (oW Z o)) hL.1.1 (xs (7 * k + 1)) o rfl) oW_up (ask_LI hL (cs_account _)) (RMu hRM (by decide) (by decide) (Nat.le_refl (Pp tb))) (xw_at tW_14 26 rfl) rfl (by rfl) (Nat.le_of_ble_eq_true rfl) (xdec_at tL_law_26 36 rfl) ⟨(Nat.le_of_ble_eq_true rfl), (Nat.le_of_ble_eq_true rfl)⟩ (RMf hRM (by omega) hL.1 (by decide) (by decide)) fun lay' tb9 o9 e0 e1 e3 hL' ho hRM' => ?_
  rw [← e0, ← e1, ← e3]
  refine v_istore (lv' := [some (.ref b), some (.ref (lay' (0, 0))), some (.ref (lay' (100, 0))), some (.ref (lay' (300, 0))), some (.int (nI (7 * k))), some (.int ((M_account μ (xs (7 * k + 1))).2.1 38 0)), v6, v7]) X (xdec_at tL_law_26 37 rfl) (by decide) rfl ?_
  refine v_aload_n X (xdec_at tL_law_26 38 rfl) rfl rfl ?_
  refine v_aload_n X (xdec_at tL_law_26 39 rfl) rfl rfl ?_
  refine v_iload X (xdec_at tL_law_27 0 rfl) rfl ?_
  refine v_iconst (v := 1) X (xdec_at tL_law_27 1 rfl) (by decide) ?_
  refine v_iadd X (xdec_at tL_law_27 2 rfl) ?_
  refine v_sld X hX hbl (nI_add (7 * k) 1) (by omega) hLn (xdec_at tL_law_27 3 rfl) ?_
  refine v_callV X myX5_account [.int (xs (7 * k + 1))] [] (c_account l Z s.heap.size lay' μ (cX Z lay' (M_account μ (xs (7 * k + 1))).2 tb9 (oW Z o9)) (xs (7 * k + 1)) hL.1.1) (xw_at tW_21 22 rfl) (100, 0) cM_0 rfl rfl rfl rfl (by rfl) (Nat.le_of_ble_eq_true rfl) (xdec_at tL_law_27 4 rfl) ⟨(Nat.le_of_ble_eq_true rfl), (Nat.le_of_ble_eq_true rfl)⟩ (RMf hRM' (by omega) hL'.1 (by decide) (by decide)) ?_
  rintro v9 lay9 C9 ⟨rfl, rfl, rfl⟩
  refine v_lstore (lv' := [some (.ref b), some (.ref (lay' (0, 0))), some (.ref (lay' (100, 0))), some (.ref (lay' (300, 0))), some (.int (nI (7 * k))), some (.int ((M_account μ (xs (7 * k + 1))).2.1 38 0)), some (.long (M_account μ (xs (7 * k + 1))).1), none]) X (xdec_at tL_law_27 5 rfl) (by decide) rfl ?_
  refine v_aload_n X (xdec_at tL_law_27 6 rfl) rfl rfl ?_
  refine v_callV X myX5_thrown [] [] (c_thrown l Z s.heap.size lay' (M_account μ (xs (7 * k + 1))).2 (cX Z lay' (M_account μ (xs (7 * k + 1))).2 tb9 (oW Z o9))) (xw_at tW_17 23 rfl) (100, 0) cM_0 rfl rfl rfl rfl (by rfl) (Nat.le_of_ble_eq_true rfl) (xdec_at tL_law_27 7 rfl) ⟨(Nat.le_of_ble_eq_true rfl), (Nat.le_of_ble_eq_true rfl)⟩ (RMf hRM' (by omega) hL'.1 (by decide) (by decide)) ?_
  rintro v9 lay9 C9 ⟨rfl, rfl, rfl⟩
  refine v_iload X (xdec_at tL_law_27 8 rfl) rfl ?_
  refine v_icmp_eq (tgt := 1794) X (xdec_at tL_law_27 9 rfl) (by decide) (fun _ => ?_) (fun h9 => absurd rfl h9)
  refine v_iload X (xdec_at tL_law_27 12 rfl) rfl ?_
  refine v_if_ne (tgt := 1810) X (xdec_at tL_law_27 13 rfl) (by decide) (fun c_1796 => ?_) (fun c_1796 => ?_)
  · refine v_goto (tgt := 1991) X (xdec_at tL_law_27 22 rfl) (by decide) ?_
    exact kk lay' (M_account μ (xs (7 * k + 1))).2 tb9 o9 _ _ _ _ _ hL' hRM'
  · refine v_aload_n X (xdec_at tL_law_27 14 rfl) rfl rfl ?_
    refine v_iconst (v := 0) X (xdec_at tL_law_27 15 rfl) (by decide) ?_
    refine x_lald (v := o9 0) X (300, 0) cW_o (vp_in_nI (n := 0) (N := 1) (by decide) (by decide)) rfl rfl (xdec_at tL_law_27 16 rfl) ?_
    refine v_lload X (xdec_at tL_law_27 17 rfl) rfl ?_
    refine v_lcmp X (xdec_at tL_law_27 18 rfl) ?_
    refine v_if_eq (tgt := 1810) X (xdec_at tL_law_27 19 rfl) (by decide) (fun _ => ?_) (fun h9 => absurd (lcz ((congrFun (ho c_1796) 0).trans (if_pos rfl))) h9)
    refine v_goto (tgt := 1991) X (xdec_at tL_law_27 22 rfl) (by decide) ?_
    exact kk lay' (M_account μ (xs (7 * k + 1))).2 tb9 o9 _ _ _ _ _ hL' hRM'
set_option maxRecDepth 100000 in
set_option maxHeartbeats 4000000 in
theorem lc_till {p : Program} {l : Launch} {e : Env} {s : State} {m : MethodId} {below : List Frame} {meth : Method} {c : Code} {Z : xZ} {b L k : Nat} {xs : Nat → Int32} {lay : xK → Nat} {μ : Mu} {tb : Tb} {o : Nat → Int64} {cells slots : Nat} {v5 v6 v7 : Option Value} (hl0 : l.stackTraces = false) (X : Cx p m meth c cL_law 8 s #[Value.ref b] RL Z s.heap.size) (hE : xEx s.heap.size s ∧ xNc s) (hX : va_X b L xs s s.heap) (hbl : b < s.heap.size) (hLn : L ≤ 3584) (hk : 7 * k + 7 ≤ L) (hL : LI μ tb k) (hRM : RM cells slots k tb) (kk : LK p l e s m below meth c Z b k) : V p l e room_1 s m #[Value.ref b] below meth c (lw_Z below #[Value.ref b] s) Z s.heap.size 8 lay (cM Z lay μ (cX Z lay μ tb (oW Z o))) cells slots 1813 [some (.ref b), some (.ref (lay (0, 0))), some (.ref (lay (100, 0))), some (.ref (lay (300, 0))), some (.int (nI (7 * k))), v5, v6, v7] [] := by
  have hk5 : k < 512 := by omega
  refine v_aload_n X (xdec_at tL_law_27 23 rfl) rfl rfl ?_
  refine v_aload_n X (xdec_at tL_law_27 24 rfl) rfl rfl ?_
  refine v_iload X (xdec_at tL_law_27 25 rfl) rfl ?_
  refine v_iconst (v := 1) X (xdec_at tL_law_27 26 rfl) (by decide) ?_
  refine v_iadd X (xdec_at tL_law_27 27 rfl) ?_
  refine v_sld X hX hbl (nI_add (7 * k) 1) (by omega) hLn (xdec_at tL_law_27 28 rfl) ?_
  refine v_aload_n X (xdec_at tL_law_27 29 rfl) rfl rfl ?_
  refine v_law X hE hL mw_till [.ref (lay (0, 0)), .int (xs (7 * k + 1)), .ref (lay (300, 0))] [] (w_till l hl0 Z s.heap.size lay μ tb (cM Z lay μ (oW Z o)) hL.1.1 (xs (7 * k + 1)) o rfl) oW_up (ask_LI hL (cs_till _)) (RMu hRM (by decide) (by decide) (Nat.le_refl (Pp tb))) (xw_at tW_14 33 rfl) rfl (by rfl) (Nat.le_of_ble_eq_true rfl) (xdec_at tL_law_27 30 rfl) ⟨(Nat.le_of_ble_eq_true rfl), (Nat.le_of_ble_eq_true rfl)⟩ (RMf hRM (by omega) hL.1 (by decide) (by decide)) fun lay' tb9 o9 e0 e1 e3 hL' ho hRM' => ?_
  rw [← e0, ← e1, ← e3]
  refine v_istore (lv' := [some (.ref b), some (.ref (lay' (0, 0))), some (.ref (lay' (100, 0))), some (.ref (lay' (300, 0))), some (.int (nI (7 * k))), some (.int ((M_till μ (xs (7 * k + 1))).2.1 38 0)), v6, v7]) X (xdec_at tL_law_27 31 rfl) (by decide) rfl ?_
  refine v_aload_n X (xdec_at tL_law_27 32 rfl) rfl rfl ?_
  refine v_aload_n X (xdec_at tL_law_27 33 rfl) rfl rfl ?_
  refine v_iload X (xdec_at tL_law_27 34 rfl) rfl ?_
  refine v_iconst (v := 1) X (xdec_at tL_law_27 35 rfl) (by decide) ?_
  refine v_iadd X (xdec_at tL_law_27 36 rfl) ?_
  refine v_sld X hX hbl (nI_add (7 * k) 1) (by omega) hLn (xdec_at tL_law_27 37 rfl) ?_
  refine v_callV X myX5_till [.int (xs (7 * k + 1))] [] (c_till l Z s.heap.size lay' μ (cX Z lay' (M_till μ (xs (7 * k + 1))).2 tb9 (oW Z o9)) (xs (7 * k + 1)) hL.1.1) (xw_at tW_21 26 rfl) (100, 0) cM_0 rfl rfl rfl rfl (by rfl) (Nat.le_of_ble_eq_true rfl) (xdec_at tL_law_27 38 rfl) ⟨(Nat.le_of_ble_eq_true rfl), (Nat.le_of_ble_eq_true rfl)⟩ (RMf hRM' (by omega) hL'.1 (by decide) (by decide)) ?_
  rintro v9 lay9 C9 ⟨rfl, rfl, rfl⟩
  refine v_lstore (lv' := [some (.ref b), some (.ref (lay' (0, 0))), some (.ref (lay' (100, 0))), some (.ref (lay' (300, 0))), some (.int (nI (7 * k))), some (.int ((M_till μ (xs (7 * k + 1))).2.1 38 0)), some (.long (M_till μ (xs (7 * k + 1))).1), none]) X (xdec_at tL_law_27 39 rfl) (by decide) rfl ?_
  refine v_aload_n X (xdec_at tL_law_28 0 rfl) rfl rfl ?_
  refine v_callV X myX5_thrown [] [] (c_thrown l Z s.heap.size lay' (M_till μ (xs (7 * k + 1))).2 (cX Z lay' (M_till μ (xs (7 * k + 1))).2 tb9 (oW Z o9))) (xw_at tW_17 23 rfl) (100, 0) cM_0 rfl rfl rfl rfl (by rfl) (Nat.le_of_ble_eq_true rfl) (xdec_at tL_law_28 1 rfl) ⟨(Nat.le_of_ble_eq_true rfl), (Nat.le_of_ble_eq_true rfl)⟩ (RMf hRM' (by omega) hL'.1 (by decide) (by decide)) ?_
  rintro v9 lay9 C9 ⟨rfl, rfl, rfl⟩
  refine v_iload X (xdec_at tL_law_28 2 rfl) rfl ?_
  refine v_icmp_eq (tgt := 1849) X (xdec_at tL_law_28 3 rfl) (by decide) (fun _ => ?_) (fun h9 => absurd rfl h9)
  refine v_iload X (xdec_at tL_law_28 6 rfl) rfl ?_
  refine v_if_ne (tgt := 1865) X (xdec_at tL_law_28 7 rfl) (by decide) (fun c_1851 => ?_) (fun c_1851 => ?_)
  · refine v_goto (tgt := 1991) X (xdec_at tL_law_28 16 rfl) (by decide) ?_
    exact kk lay' (M_till μ (xs (7 * k + 1))).2 tb9 o9 _ _ _ _ _ hL' hRM'
  · refine v_aload_n X (xdec_at tL_law_28 8 rfl) rfl rfl ?_
    refine v_iconst (v := 0) X (xdec_at tL_law_28 9 rfl) (by decide) ?_
    refine x_lald (v := o9 0) X (300, 0) cW_o (vp_in_nI (n := 0) (N := 1) (by decide) (by decide)) rfl rfl (xdec_at tL_law_28 10 rfl) ?_
    refine v_lload X (xdec_at tL_law_28 11 rfl) rfl ?_
    refine v_lcmp X (xdec_at tL_law_28 12 rfl) ?_
    refine v_if_eq (tgt := 1865) X (xdec_at tL_law_28 13 rfl) (by decide) (fun _ => ?_) (fun h9 => absurd (lcz ((congrFun (ho c_1851) 0).trans (if_pos rfl))) h9)
    refine v_goto (tgt := 1991) X (xdec_at tL_law_28 16 rfl) (by decide) ?_
    exact kk lay' (M_till μ (xs (7 * k + 1))).2 tb9 o9 _ _ _ _ _ hL' hRM'
set_option maxRecDepth 100000 in
set_option maxHeartbeats 4000000 in
theorem lc_counted {p : Program} {l : Launch} {e : Env} {s : State} {m : MethodId} {below : List Frame} {meth : Method} {c : Code} {Z : xZ} {b L k : Nat} {xs : Nat → Int32} {lay : xK → Nat} {μ : Mu} {tb : Tb} {o : Nat → Int64} {cells slots : Nat} {v5 v6 v7 : Option Value} (hl0 : l.stackTraces = false) (X : Cx p m meth c cL_law 8 s #[Value.ref b] RL Z s.heap.size) (hE : xEx s.heap.size s ∧ xNc s) (hX : va_X b L xs s s.heap) (hbl : b < s.heap.size) (hLn : L ≤ 3584) (hk : 7 * k + 7 ≤ L) (hL : LI μ tb k) (hRM : RM cells slots k tb) (kk : LK p l e s m below meth c Z b k) : V p l e room_1 s m #[Value.ref b] below meth c (lw_Z below #[Value.ref b] s) Z s.heap.size 8 lay (cM Z lay μ (cX Z lay μ tb (oW Z o))) cells slots 1868 [some (.ref b), some (.ref (lay (0, 0))), some (.ref (lay (100, 0))), some (.ref (lay (300, 0))), some (.int (nI (7 * k))), v5, v6, v7] [] := by
  have hk5 : k < 512 := by omega
  refine v_aload_n X (xdec_at tL_law_28 17 rfl) rfl rfl ?_
  refine v_aload_n X (xdec_at tL_law_28 18 rfl) rfl rfl ?_
  refine v_iload X (xdec_at tL_law_28 19 rfl) rfl ?_
  refine v_iconst (v := 1) X (xdec_at tL_law_28 20 rfl) (by decide) ?_
  refine v_iadd X (xdec_at tL_law_28 21 rfl) ?_
  refine v_sld X hX hbl (nI_add (7 * k) 1) (by omega) hLn (xdec_at tL_law_28 22 rfl) ?_
  refine v_aload_n X (xdec_at tL_law_28 23 rfl) rfl rfl ?_
  refine v_iload X (xdec_at tL_law_28 24 rfl) rfl ?_
  refine v_iconst (v := 2) X (xdec_at tL_law_28 25 rfl) (by decide) ?_
  refine v_iadd X (xdec_at tL_law_28 26 rfl) ?_
  refine v_sld X hX hbl (nI_add (7 * k) 2) (by omega) hLn (xdec_at tL_law_28 27 rfl) ?_
  refine v_aload_n X (xdec_at tL_law_28 28 rfl) rfl rfl ?_
  refine v_law X hE hL mw_counted [.ref (lay (0, 0)), .int (xs (7 * k + 1)), .int (xs (7 * k + 2)), .ref (lay (300, 0))] [] (w_counted l hl0 Z s.heap.size lay μ tb (cM Z lay μ (oW Z o)) hL.1.1 (xs (7 * k + 1)) (xs (7 * k + 2)) o rfl) oW_up (ask_LI hL (cs_counted _ _)) (RMu hRM (by decide) (by decide) (Nat.le_refl (Pp tb))) (xw_at tW_15 0 rfl) rfl (by rfl) (Nat.le_of_ble_eq_true rfl) (xdec_at tL_law_28 29 rfl) ⟨(Nat.le_of_ble_eq_true rfl), (Nat.le_of_ble_eq_true rfl)⟩ (RMf hRM (by omega) hL.1 (by decide) (by decide)) fun lay' tb9 o9 e0 e1 e3 hL' ho hRM' => ?_
  rw [← e0, ← e1, ← e3]
  refine v_istore (lv' := [some (.ref b), some (.ref (lay' (0, 0))), some (.ref (lay' (100, 0))), some (.ref (lay' (300, 0))), some (.int (nI (7 * k))), some (.int ((M_counted μ (xs (7 * k + 1)) (xs (7 * k + 2))).2.1 38 0)), v6, v7]) X (xdec_at tL_law_28 30 rfl) (by decide) rfl ?_
  refine v_aload_n X (xdec_at tL_law_28 31 rfl) rfl rfl ?_
  refine v_aload_n X (xdec_at tL_law_28 32 rfl) rfl rfl ?_
  refine v_iload X (xdec_at tL_law_28 33 rfl) rfl ?_
  refine v_iconst (v := 1) X (xdec_at tL_law_28 34 rfl) (by decide) ?_
  refine v_iadd X (xdec_at tL_law_28 35 rfl) ?_
  refine v_sld X hX hbl (nI_add (7 * k) 1) (by omega) hLn (xdec_at tL_law_28 36 rfl) ?_
  refine v_aload_n X (xdec_at tL_law_28 37 rfl) rfl rfl ?_
  refine v_iload X (xdec_at tL_law_28 38 rfl) rfl ?_
  refine v_iconst (v := 2) X (xdec_at tL_law_28 39 rfl) (by decide) ?_
  refine v_iadd X (xdec_at tL_law_29 0 rfl) ?_
  refine v_sld X hX hbl (nI_add (7 * k) 2) (by omega) hLn (xdec_at tL_law_29 1 rfl) ?_
  refine v_callV X myX5_counted [.int (xs (7 * k + 1)), .int (xs (7 * k + 2))] [] (c_counted l Z s.heap.size lay' μ (cX Z lay' (M_counted μ (xs (7 * k + 1)) (xs (7 * k + 2))).2 tb9 (oW Z o9)) (xs (7 * k + 1)) (xs (7 * k + 2)) hL.1.1) (xw_at tW_21 30 rfl) (100, 0) cM_0 rfl rfl rfl rfl (by rfl) (Nat.le_of_ble_eq_true rfl) (xdec_at tL_law_29 2 rfl) ⟨(Nat.le_of_ble_eq_true rfl), (Nat.le_of_ble_eq_true rfl)⟩ (RMf hRM' (by omega) hL'.1 (by decide) (by decide)) ?_
  rintro v9 lay9 C9 ⟨rfl, rfl, rfl⟩
  refine v_lstore (lv' := [some (.ref b), some (.ref (lay' (0, 0))), some (.ref (lay' (100, 0))), some (.ref (lay' (300, 0))), some (.int (nI (7 * k))), some (.int ((M_counted μ (xs (7 * k + 1)) (xs (7 * k + 2))).2.1 38 0)), some (.long (M_counted μ (xs (7 * k + 1)) (xs (7 * k + 2))).1), none]) X (xdec_at tL_law_29 3 rfl) (by decide) rfl ?_
  refine v_aload_n X (xdec_at tL_law_29 4 rfl) rfl rfl ?_
  refine v_callV X myX5_thrown [] [] (c_thrown l Z s.heap.size lay' (M_counted μ (xs (7 * k + 1)) (xs (7 * k + 2))).2 (cX Z lay' (M_counted μ (xs (7 * k + 1)) (xs (7 * k + 2))).2 tb9 (oW Z o9))) (xw_at tW_17 23 rfl) (100, 0) cM_0 rfl rfl rfl rfl (by rfl) (Nat.le_of_ble_eq_true rfl) (xdec_at tL_law_29 5 rfl) ⟨(Nat.le_of_ble_eq_true rfl), (Nat.le_of_ble_eq_true rfl)⟩ (RMf hRM' (by omega) hL'.1 (by decide) (by decide)) ?_
  rintro v9 lay9 C9 ⟨rfl, rfl, rfl⟩
  refine v_iload X (xdec_at tL_law_29 6 rfl) rfl ?_
  refine v_icmp_eq (tgt := 1916) X (xdec_at tL_law_29 7 rfl) (by decide) (fun _ => ?_) (fun h9 => absurd rfl h9)
  refine v_iload X (xdec_at tL_law_29 10 rfl) rfl ?_
  refine v_if_ne (tgt := 1932) X (xdec_at tL_law_29 11 rfl) (by decide) (fun c_1918 => ?_) (fun c_1918 => ?_)
  · refine v_goto (tgt := 1991) X (xdec_at tL_law_29 20 rfl) (by decide) ?_
    exact kk lay' (M_counted μ (xs (7 * k + 1)) (xs (7 * k + 2))).2 tb9 o9 _ _ _ _ _ hL' hRM'
  · refine v_aload_n X (xdec_at tL_law_29 12 rfl) rfl rfl ?_
    refine v_iconst (v := 0) X (xdec_at tL_law_29 13 rfl) (by decide) ?_
    refine x_lald (v := o9 0) X (300, 0) cW_o (vp_in_nI (n := 0) (N := 1) (by decide) (by decide)) rfl rfl (xdec_at tL_law_29 14 rfl) ?_
    refine v_lload X (xdec_at tL_law_29 15 rfl) rfl ?_
    refine v_lcmp X (xdec_at tL_law_29 16 rfl) ?_
    refine v_if_eq (tgt := 1932) X (xdec_at tL_law_29 17 rfl) (by decide) (fun _ => ?_) (fun h9 => absurd (lcz ((congrFun (ho c_1918) 0).trans (if_pos rfl))) h9)
    refine v_goto (tgt := 1991) X (xdec_at tL_law_29 20 rfl) (by decide) ?_
    exact kk lay' (M_counted μ (xs (7 * k + 1)) (xs (7 * k + 2))).2 tb9 o9 _ _ _ _ _ hL' hRM'
set_option maxRecDepth 100000 in
set_option maxHeartbeats 4000000 in
theorem lc_gain {p : Program} {l : Launch} {e : Env} {s : State} {m : MethodId} {below : List Frame} {meth : Method} {c : Code} {Z : xZ} {b L k : Nat} {xs : Nat → Int32} {lay : xK → Nat} {μ : Mu} {tb : Tb} {o : Nat → Int64} {cells slots : Nat} {v5 v6 v7 : Option Value} (hl0 : l.stackTraces = false) (X : Cx p m meth c cL_law 8 s #[Value.ref b] RL Z s.heap.size) (hE : xEx s.heap.size s ∧ xNc s) (hX : va_X b L xs s s.heap) (hbl : b < s.heap.size) (hLn : L ≤ 3584) (hk : 7 * k + 7 ≤ L) (hL : LI μ tb k) (hRM : RM cells slots k tb) (kk : LK p l e s m below meth c Z b k) : V p l e room_1 s m #[Value.ref b] below meth c (lw_Z below #[Value.ref b] s) Z s.heap.size 8 lay (cM Z lay μ (cX Z lay μ tb (oW Z o))) cells slots 1935 [some (.ref b), some (.ref (lay (0, 0))), some (.ref (lay (100, 0))), some (.ref (lay (300, 0))), some (.int (nI (7 * k))), v5, v6, v7] [] := by
  have hk5 : k < 512 := by omega
  refine v_aload_n X (xdec_at tL_law_29 21 rfl) rfl rfl ?_
  refine v_aload_n X (xdec_at tL_law_29 22 rfl) rfl rfl ?_
  refine v_iload X (xdec_at tL_law_29 23 rfl) rfl ?_
  refine v_iconst (v := 1) X (xdec_at tL_law_29 24 rfl) (by decide) ?_
  refine v_iadd X (xdec_at tL_law_29 25 rfl) ?_
  refine v_sld X hX hbl (nI_add (7 * k) 1) (by omega) hLn (xdec_at tL_law_29 26 rfl) ?_
  refine v_aload_n X (xdec_at tL_law_29 27 rfl) rfl rfl ?_
  refine v_law X hE hL mw_gain [.ref (lay (0, 0)), .int (xs (7 * k + 1)), .ref (lay (300, 0))] [] (w_gain l hl0 Z s.heap.size lay μ tb (cM Z lay μ (oW Z o)) hL.1.1 (xs (7 * k + 1)) hL.1.2.1 o rfl) oW_up (cs_LI (cs_gain _) (gain_38 _ _ _) (fun hc => ni_gain hL.1)) (RMu hRM (by decide) (by decide) (Nat.le_refl (Pp tb))) (xw_at tW_15 7 rfl) rfl (by rfl) (Nat.le_of_ble_eq_true rfl) (xdec_at tL_law_29 28 rfl) ⟨(Nat.le_of_ble_eq_true rfl), (Nat.le_of_ble_eq_true rfl)⟩ (RMf hRM (by omega) hL.1 (by decide) (by decide)) fun lay' tb9 o9 e0 e1 e3 hL' ho hRM' => ?_
  rw [← e0, ← e1, ← e3]
  refine v_istore (lv' := [some (.ref b), some (.ref (lay' (0, 0))), some (.ref (lay' (100, 0))), some (.ref (lay' (300, 0))), some (.int (nI (7 * k))), some (.int ((M_gain μ (xs (7 * k + 1))).2.1 38 0)), v6, v7]) X (xdec_at tL_law_29 29 rfl) (by decide) rfl ?_
  refine v_aload_n X (xdec_at tL_law_29 30 rfl) rfl rfl ?_
  refine v_aload_n X (xdec_at tL_law_29 31 rfl) rfl rfl ?_
  refine v_iload X (xdec_at tL_law_29 32 rfl) rfl ?_
  refine v_iconst (v := 1) X (xdec_at tL_law_29 33 rfl) (by decide) ?_
  refine v_iadd X (xdec_at tL_law_29 34 rfl) ?_
  refine v_sld X hX hbl (nI_add (7 * k) 1) (by omega) hLn (xdec_at tL_law_29 35 rfl) ?_
  refine v_callV X myX5_gain [.int (xs (7 * k + 1))] [] (c_gain l Z s.heap.size lay' μ (cX Z lay' (M_gain μ (xs (7 * k + 1))).2 tb9 (oW Z o9)) (xs (7 * k + 1)) hL.1.1) (xw_at tW_21 34 rfl) (100, 0) cM_0 rfl rfl rfl rfl (by rfl) (Nat.le_of_ble_eq_true rfl) (xdec_at tL_law_29 36 rfl) ⟨(Nat.le_of_ble_eq_true rfl), (Nat.le_of_ble_eq_true rfl)⟩ (RMf hRM' (by omega) hL'.1 (by decide) (by decide)) ?_
  rintro v9 lay9 C9 ⟨rfl, rfl, rfl⟩
  refine v_istore (lv' := [some (.ref b), some (.ref (lay' (0, 0))), some (.ref (lay' (100, 0))), some (.ref (lay' (300, 0))), some (.int (nI (7 * k))), some (.int ((M_gain μ (xs (7 * k + 1))).2.1 38 0)), some (.int (M_gain μ (xs (7 * k + 1))).1), v7]) X (xdec_at tL_law_29 37 rfl) (by decide) rfl ?_
  refine v_aload_n X (xdec_at tL_law_29 38 rfl) rfl rfl ?_
  refine v_callV X myX5_thrown [] [] (c_thrown l Z s.heap.size lay' (M_gain μ (xs (7 * k + 1))).2 (cX Z lay' (M_gain μ (xs (7 * k + 1))).2 tb9 (oW Z o9))) (xw_at tW_17 23 rfl) (100, 0) cM_0 rfl rfl rfl rfl (by rfl) (Nat.le_of_ble_eq_true rfl) (xdec_at tL_law_29 39 rfl) ⟨(Nat.le_of_ble_eq_true rfl), (Nat.le_of_ble_eq_true rfl)⟩ (RMf hRM' (by omega) hL'.1 (by decide) (by decide)) ?_
  rintro v9 lay9 C9 ⟨rfl, rfl, rfl⟩
  refine v_iload X (xdec_at tL_law_30 0 rfl) rfl ?_
  refine v_icmp_eq (tgt := 1971) X (xdec_at tL_law_30 1 rfl) (by decide) (fun _ => ?_) (fun h9 => absurd rfl h9)
  refine v_iload X (xdec_at tL_law_30 4 rfl) rfl ?_
  refine v_if_ne (tgt := 1988) X (xdec_at tL_law_30 5 rfl) (by decide) (fun c_1973 => ?_) (fun c_1973 => ?_)
  · refine v_goto (tgt := 1991) X (xdec_at tL_law_30 15 rfl) (by decide) ?_
    exact kk lay' (M_gain μ (xs (7 * k + 1))).2 tb9 o9 _ _ _ _ _ hL' hRM'
  · refine v_aload_n X (xdec_at tL_law_30 6 rfl) rfl rfl ?_
    refine v_iconst (v := 0) X (xdec_at tL_law_30 7 rfl) (by decide) ?_
    refine x_lald (v := o9 0) X (300, 0) cW_o (vp_in_nI (n := 0) (N := 1) (by decide) (by decide)) rfl rfl (xdec_at tL_law_30 8 rfl) ?_
    refine v_iload X (xdec_at tL_law_30 9 rfl) rfl ?_
    refine v_i2l X (xdec_at tL_law_30 10 rfl) rfl ?_
    refine v_lcmp X (xdec_at tL_law_30 11 rfl) ?_
    refine v_if_eq (tgt := 1988) X (xdec_at tL_law_30 12 rfl) (by decide) (fun _ => ?_) (fun h9 => absurd (lcz ((congrFun (ho c_1973) 0).trans (if_pos rfl))) h9)
    refine v_goto (tgt := 1991) X (xdec_at tL_law_30 15 rfl) (by decide) ?_
    exact kk lay' (M_gain μ (xs (7 * k + 1))).2 tb9 o9 _ _ _ _ _ hL' hRM'
