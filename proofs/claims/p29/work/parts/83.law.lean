/-! the law's loop -/
set_option maxRecDepth 100000 in
set_option maxHeartbeats 8000000 in
theorem law_tail {p : Program} {l : Launch} {e : Env} {s : State} {m : MethodId} {below : List Frame} {meth : Method} {c : Code} {Z : xZ} {b : Nat} {i : Nat} (hl0 : l.stackTraces = false) (X : Cx p m meth c cL_law 9 s #[Value.ref b] RL Z s.heap.size) (hE : xEx s.heap.size s ∧ xNc s) (hx : p.tables.exec = Jvm.exec) (hb : c.code = code) (hr : meth.sig.returnType = ret) (hlocks : meth.locks = false) (hi : i < 120) (kk : LST p l e s m below meth c Z b (i + 1)) {lay : xK → Nat} {μ : Mu} {tb : Tb} {cells slots : Nat} {v6 v7 v8 : Option Value} (hL : LJ μ tb (2 * i + 2)) (hg : 0 < nG μ → 3 ≤ nP μ) (hc : cells ≤ 3000 + 1000 * i + 1000 + 4800 * ((i + 29) / 30) + 2 * Pp tb) (hs : slots ≤ 20000 + 7000 * i + 7000 + 28800 * ((i + 29) / 30) + 4 * Pp tb) : V p l e room_1 s m #[Value.ref b] below meth c (lw_Z below #[Value.ref b] s) Z s.heap.size 9 lay (W2 Z lay μ tb μ tb (dR Z (dv μ))) cells slots 190 [some (.ref b), some (.ref (lay (0, 0))), some (.ref (lay (500, 0))), some (.ref (lay (300, 0))), some (.int 1), some (.int (nI i)), v6, v7, v8] [.int 1] := by
  have hPp := Pp_b hL (by omega)
  have hf := dv_F hL.I
  refine v_istore (lv' := [some (.ref b), some (.ref (lay (0, 0))), some (.ref (lay (500, 0))), some (.ref (lay (300, 0))), some (.int 1), some (.int (nI i)), v6, v7, v8]) X (xdec_at tL_law_2 24 rfl) (by decide) rfl ?_
  refine v_iload X (xdec_at tL_law_2 25 rfl) rfl ?_
  refine v_if_eq (tgt := 239) X (xdec_at tL_law_2 26 rfl) (by decide) (fun h9 => absurd h9 (by decide)) (fun _ => ?_)
  refine v_iload X (xdec_at tL_law_2 27 rfl) rfl ?_
  refine v_bipush (v := 30) X (xdec_at tL_law_2 28 rfl) (by decide) ?_
  refine v_irem X (xdec_at tL_law_2 29 rfl) (by decide) ?_
  refine v_st (st' := [.int (nI (i % 30))]) (by rw [show (30 : Int32) = nI 30 from rfl, pk_rem (by omega) (by decide) (by decide)] <;> rfl) ?_
  refine v_if_gt (tgt := 219) X (xdec_at tL_law_2 30 rfl) (by decide) (fun c_202 => ?_) (fun c_202 => ?_)
  · refine v_iload X (xdec_at tL_law_2 39 rfl) rfl ?_
    refine v_bipush (v := 60) X (xdec_at tL_law_3 0 rfl) (by decide) ?_
    refine v_irem X (xdec_at tL_law_3 1 rfl) (by decide) ?_
    refine v_st (st' := [.int (nI (i % 60))]) (by rw [show (60 : Int32) = nI 60 from rfl, pk_rem (by omega) (by decide) (by decide)] <;> rfl) ?_
    refine v_if_gt (tgt := 235) X (xdec_at tL_law_3 2 rfl) (by decide) (fun c_224 => ?_) (fun c_224 => ?_)
    · refine v_iconst (v := 1) X (xdec_at tL_law_3 7 rfl) (by decide) ?_
      refine v_goto (tgt := 240) X (xdec_at tL_law_3 8 rfl) (by decide) ?_
      refine v_istore (lv' := [some (.ref b), some (.ref (lay (0, 0))), some (.ref (lay (500, 0))), some (.ref (lay (300, 0))), some (.int 1), some (.int (nI i)), v6, v7, v8]) X (xdec_at tL_law_3 10 rfl) (by decide) rfl ?_
      refine v_iinc (v := (nI (i + 1))) (lv' := [some (.ref b), some (.ref (lay (0, 0))), some (.ref (lay (500, 0))), some (.ref (lay (300, 0))), some (.int 1), some (.int (nI (i + 1))), v6, v7, v8]) X (xdec_at tL_law_3 11 rfl) rfl (nI_1 _) (by decide) rfl ?_
      refine v_goto (tgt := 30) X (xdec_at tL_law_3 12 rfl) (by decide) ?_
      exact kk lay μ tb _ _ v6 v7 v8 hL hg ⟨by omega, by omega⟩
    · have h60 := nI_gt0 (by omega) c_224
      refine v_aload_n X (xdec_at tL_law_3 3 rfl) rfl rfl ?_
      refine v_aload_n X (xdec_at tL_law_3 4 rfl) rfl rfl ?_
      refine v_wL X hE myL_refused [.ref (lay (0, 0)), .ref (lay (300, 0))] [] (c_refused hl0 hL (by omega)) (xw_at tW_14 7 rfl) rfl rfl (by rfl) (Nat.le_of_ble_eq_true rfl) (xdec_at tL_law_3 5 rfl) ⟨(Nat.le_of_ble_eq_true rfl), (Nat.le_of_ble_eq_true rfl)⟩ ⟨by show (_ : Nat) ≤ 600074; omega, by show (_ : Nat) ≤ 7301550; omega⟩ ?_
      rintro v9 l1 C9 ⟨rfl, y_l1, rfl⟩
      rw [← y_l1.1, ← y_l1.2.1, ← y_l1.2.2 (300, 0) (by decide) (by decide)]
      refine v_if_eq (tgt := 239) X (xdec_at tL_law_3 6 rfl) (by decide) (fun h9 => absurd h9 (by decide)) (fun _ => ?_)
      refine v_iconst (v := 1) X (xdec_at tL_law_3 7 rfl) (by decide) ?_
      refine v_goto (tgt := 240) X (xdec_at tL_law_3 8 rfl) (by decide) ?_
      refine v_istore (lv' := [some (.ref b), some (.ref (l1 (0, 0))), some (.ref (l1 (500, 0))), some (.ref (l1 (300, 0))), some (.int 1), some (.int (nI i)), v6, v7, v8]) X (xdec_at tL_law_3 10 rfl) (by decide) rfl ?_
      refine v_iinc (v := (nI (i + 1))) (lv' := [some (.ref b), some (.ref (l1 (0, 0))), some (.ref (l1 (500, 0))), some (.ref (l1 (300, 0))), some (.int 1), some (.int (nI (i + 1))), v6, v7, v8]) X (xdec_at tL_law_3 11 rfl) rfl (nI_1 _) (by decide) rfl ?_
      refine v_goto (tgt := 30) X (xdec_at tL_law_3 12 rfl) (by decide) ?_
      exact kk l1 μ tb _ _ v6 v7 v8 hL hg ⟨by omega, by omega⟩
  · have h30 := nI_gt0 (by omega) c_202
    refine v_aload_n X (xdec_at tL_law_2 31 rfl) rfl rfl ?_
    refine v_aload_n X (xdec_at tL_law_2 32 rfl) rfl rfl ?_
    refine v_wL X hE myL_all [.ref (lay (0, 0)), .ref (lay (300, 0))] [] (all_W hl0 hL.I hL.K hL.S hf) (xw_at tW_2 31 rfl) rfl rfl (by rfl) (Nat.le_of_ble_eq_true rfl) (xdec_at tL_law_2 33 rfl) ⟨(Nat.le_of_ble_eq_true rfl), (Nat.le_of_ble_eq_true rfl)⟩ ⟨by show (_ : Nat) ≤ 600074; omega, by show (_ : Nat) ≤ 7301550; omega⟩ ?_
    rintro v9 lay9 C9 ⟨rfl, rfl, rfl⟩
    refine v_aload_n X (xdec_at tL_law_2 34 rfl) rfl rfl ?_
    refine v_aload_n X (xdec_at tL_law_2 35 rfl) rfl rfl ?_
    refine v_wL X hE myL_all [.ref (lay (500, 0)), .ref (lay (300, 0))] [.long (hA μ)] (all_T hl0 hL.I hL.K hL.S hf) (xw_at tW_2 31 rfl) rfl rfl (by rfl) (Nat.le_of_ble_eq_true rfl) (xdec_at tL_law_2 36 rfl) ⟨(Nat.le_of_ble_eq_true rfl), (Nat.le_of_ble_eq_true rfl)⟩ ⟨by show (_ : Nat) ≤ 600074; omega, by show (_ : Nat) ≤ 7301550; omega⟩ ?_
    rintro v9 lay9 C9 ⟨rfl, rfl, rfl⟩
    refine v_lcmp X (xdec_at tL_law_2 37 rfl) ?_
    refine v_if_ne (tgt := 239) X (xdec_at tL_law_2 38 rfl) (by decide) (fun h9 => absurd (lcz rfl) h9) (fun _ => ?_)
    refine v_iload X (xdec_at tL_law_2 39 rfl) rfl ?_
    refine v_bipush (v := 60) X (xdec_at tL_law_3 0 rfl) (by decide) ?_
    refine v_irem X (xdec_at tL_law_3 1 rfl) (by decide) ?_
    refine v_st (st' := [.int (nI (i % 60))]) (by rw [show (60 : Int32) = nI 60 from rfl, pk_rem (by omega) (by decide) (by decide)] <;> rfl) ?_
    refine v_if_gt (tgt := 235) X (xdec_at tL_law_3 2 rfl) (by decide) (fun c_224 => ?_) (fun c_224 => ?_)
    · refine v_iconst (v := 1) X (xdec_at tL_law_3 7 rfl) (by decide) ?_
      refine v_goto (tgt := 240) X (xdec_at tL_law_3 8 rfl) (by decide) ?_
      refine v_istore (lv' := [some (.ref b), some (.ref (lay (0, 0))), some (.ref (lay (500, 0))), some (.ref (lay (300, 0))), some (.int 1), some (.int (nI i)), v6, v7, v8]) X (xdec_at tL_law_3 10 rfl) (by decide) rfl ?_
      refine v_iinc (v := (nI (i + 1))) (lv' := [some (.ref b), some (.ref (lay (0, 0))), some (.ref (lay (500, 0))), some (.ref (lay (300, 0))), some (.int 1), some (.int (nI (i + 1))), v6, v7, v8]) X (xdec_at tL_law_3 11 rfl) rfl (nI_1 _) (by decide) rfl ?_
      refine v_goto (tgt := 30) X (xdec_at tL_law_3 12 rfl) (by decide) ?_
      exact kk lay μ tb _ _ v6 v7 v8 hL hg ⟨by omega, by omega⟩
    · have h60 := nI_gt0 (by omega) c_224
      refine v_aload_n X (xdec_at tL_law_3 3 rfl) rfl rfl ?_
      refine v_aload_n X (xdec_at tL_law_3 4 rfl) rfl rfl ?_
      refine v_wL X hE myL_refused [.ref (lay (0, 0)), .ref (lay (300, 0))] [] (c_refused hl0 hL (by omega)) (xw_at tW_14 7 rfl) rfl rfl (by rfl) (Nat.le_of_ble_eq_true rfl) (xdec_at tL_law_3 5 rfl) ⟨(Nat.le_of_ble_eq_true rfl), (Nat.le_of_ble_eq_true rfl)⟩ ⟨by show (_ : Nat) ≤ 600074; omega, by show (_ : Nat) ≤ 7301550; omega⟩ ?_
      rintro v9 l2 C9 ⟨rfl, y_l2, rfl⟩
      rw [← y_l2.1, ← y_l2.2.1, ← y_l2.2.2 (300, 0) (by decide) (by decide)]
      refine v_if_eq (tgt := 239) X (xdec_at tL_law_3 6 rfl) (by decide) (fun h9 => absurd h9 (by decide)) (fun _ => ?_)
      refine v_iconst (v := 1) X (xdec_at tL_law_3 7 rfl) (by decide) ?_
      refine v_goto (tgt := 240) X (xdec_at tL_law_3 8 rfl) (by decide) ?_
      refine v_istore (lv' := [some (.ref b), some (.ref (l2 (0, 0))), some (.ref (l2 (500, 0))), some (.ref (l2 (300, 0))), some (.int 1), some (.int (nI i)), v6, v7, v8]) X (xdec_at tL_law_3 10 rfl) (by decide) rfl ?_
      refine v_iinc (v := (nI (i + 1))) (lv' := [some (.ref b), some (.ref (l2 (0, 0))), some (.ref (l2 (500, 0))), some (.ref (l2 (300, 0))), some (.int 1), some (.int (nI (i + 1))), v6, v7, v8]) X (xdec_at tL_law_3 11 rfl) rfl (nI_1 _) (by decide) rfl ?_
      refine v_goto (tgt := 30) X (xdec_at tL_law_3 12 rfl) (by decide) ?_
      exact kk l2 μ tb _ _ v6 v7 v8 hL hg ⟨by omega, by omega⟩
set_option maxRecDepth 100000 in
set_option maxHeartbeats 8000000 in
theorem law_turn {p : Program} {l : Launch} {e : Env} {s : State} {m : MethodId} {below : List Frame} {meth : Method} {c : Code} {Z : xZ} {b L : Nat} {xs : Nat → Int32} {i : Nat} (hl0 : l.stackTraces = false) (X : Cx p m meth c cL_law 9 s #[Value.ref b] RL Z s.heap.size) (hE : xEx s.heap.size s ∧ xNc s) (hx : p.tables.exec = Jvm.exec) (hb : c.code = code) (hr : meth.sig.returnType = ret) (hlocks : meth.locks = false) (hX : va_X b L xs s s.heap) (hbl : b < s.heap.size) (hLn : L ≤ 3584) (hi : i < 120) (kk : LST p l e s m below meth c Z b (i + 1)) {lay : xK → Nat} {μ : Mu} {tb : Tb} {cells slots : Nat} {v6 v7 v8 : Option Value} (hL : LJ μ tb (2 * i)) (hg : 0 < nG μ → 3 ≤ nP μ) (hRM : RM cells slots i tb) : V p l e room_1 s m #[Value.ref b] below meth c (lw_Z below #[Value.ref b] s) Z s.heap.size 9 lay (W2 Z lay μ tb μ tb (dR Z (dv μ))) cells slots 42 [some (.ref b), some (.ref (lay (0, 0))), some (.ref (lay (500, 0))), some (.ref (lay (300, 0))), some (.int 1), some (.int (nI i)), v6, v7, v8] [] := by
  obtain ⟨hc, hs⟩ := hRM
  have hPp := Pp_b hL (by omega)
  have hf := dv_F hL.I
  have hG20 := nG20 hL.I
  refine v_aload_n X (xdec_at tL_law_0 22 rfl) rfl rfl ?_
  refine v_iconst (v := 2) X (xdec_at tL_law_0 23 rfl) (by decide) ?_
  refine v_iload X (xdec_at tL_law_0 24 rfl) rfl ?_
  refine v_imul X (xdec_at tL_law_0 25 rfl) ?_
  refine v_st (st' := [.int (nI (2 * i)), .ref b]) (by rw [nI_two] <;> rfl) ?_
  refine v_wK X hE hX hbl hLn (k := 2 * i) (by omega) [] (xw_at tW_2 25 rfl) rfl (Nat.le_of_ble_eq_true rfl) (xdec_at tL_law_0 26 rfl) ⟨(Nat.le_of_ble_eq_true rfl), (Nat.le_of_ble_eq_true rfl)⟩ ⟨by show (_ : Nat) ≤ 600074; omega, by show (_ : Nat) ≤ 7301550; omega⟩ fun xw => ?_
  refine v_istore (lv' := [some (.ref b), some (.ref (lay (0, 0))), some (.ref (lay (500, 0))), some (.ref (lay (300, 0))), some (.int 1), some (.int (nI i)), some (.int xw), v7, v8]) X (xdec_at tL_law_0 27 rfl) (by decide) rfl ?_
  refine v_aload_n X (xdec_at tL_law_0 28 rfl) rfl rfl ?_
  refine v_iconst (v := 2) X (xdec_at tL_law_0 29 rfl) (by decide) ?_
  refine v_iload X (xdec_at tL_law_0 30 rfl) rfl ?_
  refine v_imul X (xdec_at tL_law_0 31 rfl) ?_
  refine v_st (st' := [.int (nI (2 * i)), .ref b]) (by rw [nI_two] <;> rfl) ?_
  refine v_iconst (v := 1) X (xdec_at tL_law_0 32 rfl) (by decide) ?_
  refine v_iadd X (xdec_at tL_law_0 33 rfl) ?_
  refine v_st (st' := [.int (nI (2 * i + 1)), .ref b]) (by rw [nI_1] <;> rfl) ?_
  refine v_wK X hE hX hbl hLn (k := 2 * i + 1) (by omega) [] (xw_at tW_2 25 rfl) rfl (Nat.le_of_ble_eq_true rfl) (xdec_at tL_law_0 34 rfl) ⟨(Nat.le_of_ble_eq_true rfl), (Nat.le_of_ble_eq_true rfl)⟩ ⟨by show (_ : Nat) ≤ 600074; omega, by show (_ : Nat) ≤ 7301550; omega⟩ fun zw => ?_
  refine v_istore (lv' := [some (.ref b), some (.ref (lay (0, 0))), some (.ref (lay (500, 0))), some (.ref (lay (300, 0))), some (.int 1), some (.int (nI i)), some (.int xw), some (.int zw), v8]) X (xdec_at tL_law_0 35 rfl) (by decide) rfl ?_
  refine v_iload X (xdec_at tL_law_0 36 rfl) rfl ?_
  refine v_bipush (v := 24) X (xdec_at tL_law_0 37 rfl) (by decide) ?_
  refine v_wL X hE myL_some [.int xw, .int (nI 24)] [] (c_some xw (n := 24) (by decide) (by decide)) (xw_at tW_2 29 rfl) rfl rfl (by rfl) (Nat.le_of_ble_eq_true rfl) (xdec_at tL_law_0 38 rfl) ⟨(Nat.le_of_ble_eq_true rfl), (Nat.le_of_ble_eq_true rfl)⟩ ⟨by show (_ : Nat) ≤ 600074; omega, by show (_ : Nat) ≤ 7301550; omega⟩ ?_
  rintro v9 lay9 C9 ⟨rfl, rfl, u0, hu0, rfl⟩
  refine v_istore (lv' := [some (.ref b), some (.ref (lay (0, 0))), some (.ref (lay (500, 0))), some (.ref (lay (300, 0))), some (.int 1), some (.int (nI i)), some (.int xw), some (.int zw), some (.int (nI u0))]) X (xdec_at tL_law_0 39 rfl) (by decide) rfl ?_
  refine v_iload X (xdec_at tL_law_1 0 rfl) rfl ?_
  refine v_bipush (v := 7) X (xdec_at tL_law_1 1 rfl) (by decide) ?_
  refine v_icmp_lt (tgt := 87) X (xdec_at tL_law_1 2 rfl) (by decide) (fun c_77 => ?_) (fun c_77 => ?_)
  · refine v_aload_n X (xdec_at tL_law_1 8 rfl) rfl rfl ?_
    refine v_aload_n X (xdec_at tL_law_1 9 rfl) rfl rfl ?_
    refine v_aload_n X (xdec_at tL_law_1 10 rfl) rfl rfl ?_
    refine v_iload X (xdec_at tL_law_1 11 rfl) rfl ?_
    refine v_iconst (v := 5) X (xdec_at tL_law_1 12 rfl) (by decide) ?_
    refine v_ishr X (xdec_at tL_law_1 13 rfl) fun u1 => ?_
    refine v_iload X (xdec_at tL_law_1 14 rfl) rfl ?_
    refine v_wL X hE myL_posts [.ref (lay (0, 0)), .ref (lay (500, 0)), .ref (lay (300, 0)), .int u1, .int zw] [] (c_posts hl0 u1 zw hL hg) (xw_at tW_6 9 rfl) rfl rfl (by rfl) (Nat.le_of_ble_eq_true rfl) (xdec_at tL_law_1 15 rfl) ⟨(Nat.le_of_ble_eq_true rfl), (Nat.le_of_ble_eq_true rfl)⟩ ⟨by show (_ : Nat) ≤ 600074; omega, by show (_ : Nat) ≤ 7301550; omega⟩ ?_
    rintro v9 l1 C9 ⟨rfl, y_l1, μ9, tb9, rfl, hL9, hg9, hP9⟩
    rw [← y_l1.1, ← y_l1.2.1, ← y_l1.2.2 (300, 0) (by decide) (by decide)]
    refine v_goto (tgt := 190) X (xdec_at tL_law_1 16 rfl) (by decide) ?_
    exact law_tail hl0 X hE hx hb hr hlocks hi kk hL9 hg9 (by omega) (by omega)
  · refine v_aload_n X (xdec_at tL_law_1 3 rfl) rfl rfl ?_
    refine v_iconst (v := 1) X (xdec_at tL_law_1 4 rfl) (by decide) ?_
    refine x_iald (v := nI (nG μ)) X (300, 0) W2_d (vp_in_nI (n := 1) (N := 3) (by decide) (by decide)) rfl hf.2.1 (xdec_at tL_law_1 5 rfl) ?_
    refine v_iconst (v := 2) X (xdec_at tL_law_1 6 rfl) (by decide) ?_
    refine v_icmp_ge (tgt := 102) X (xdec_at tL_law_1 7 rfl) (by decide) (fun c_84 => ?_) (fun c_84 => ?_)
    · have hP3 : 3 ≤ nP μ := hg (by have := (nI_leI (a := 2) (by decide) (by omega)).mp c_84; omega)
      refine v_iload X (xdec_at tL_law_1 17 rfl) rfl ?_
      refine v_bipush (v := 9) X (xdec_at tL_law_1 18 rfl) (by decide) ?_
      refine v_icmp_ge (tgt := 120) X (xdec_at tL_law_1 19 rfl) (by decide) (fun c_106 => ?_) (fun c_106 => ?_)
      · refine v_iload X (xdec_at tL_law_1 26 rfl) rfl ?_
        refine v_bipush (v := 14) X (xdec_at tL_law_1 27 rfl) (by decide) ?_
        refine v_icmp_ge (tgt := 138) X (xdec_at tL_law_1 28 rfl) (by decide) (fun c_124 => ?_) (fun c_124 => ?_)
        · refine v_iload X (xdec_at tL_law_1 35 rfl) rfl ?_
          refine v_bipush (v := 18) X (xdec_at tL_law_1 36 rfl) (by decide) ?_
          refine v_icmp_ge (tgt := 156) X (xdec_at tL_law_1 37 rfl) (by decide) (fun c_142 => ?_) (fun c_142 => ?_)
          · refine v_iload X (xdec_at tL_law_2 4 rfl) rfl ?_
            refine v_bipush (v := 22) X (xdec_at tL_law_2 5 rfl) (by decide) ?_
            refine v_icmp_ge (tgt := 178) X (xdec_at tL_law_2 6 rfl) (by decide) (fun c_160 => ?_) (fun c_160 => ?_)
            · refine v_aload_n X (xdec_at tL_law_2 16 rfl) rfl rfl ?_
              refine v_aload_n X (xdec_at tL_law_2 17 rfl) rfl rfl ?_
              refine v_aload_n X (xdec_at tL_law_2 18 rfl) rfl rfl ?_
              refine v_iload X (xdec_at tL_law_2 19 rfl) rfl ?_
              refine v_iconst (v := 5) X (xdec_at tL_law_2 20 rfl) (by decide) ?_
              refine v_ishr X (xdec_at tL_law_2 21 rfl) fun u2 => ?_
              refine v_iload X (xdec_at tL_law_2 22 rfl) rfl ?_
              refine v_wL X hE myL_settles [.ref (lay (0, 0)), .ref (lay (500, 0)), .ref (lay (300, 0)), .int u2, .int zw] [] (c_settles hl0 u2 zw hL hg) (xw_at tW_13 34 rfl) rfl rfl (by rfl) (Nat.le_of_ble_eq_true rfl) (xdec_at tL_law_2 23 rfl) ⟨(Nat.le_of_ble_eq_true rfl), (Nat.le_of_ble_eq_true rfl)⟩ ⟨by show (_ : Nat) ≤ 600074; omega, by show (_ : Nat) ≤ 7301550; omega⟩ ?_
              rintro v9 l2 C9 ⟨rfl, y_l2, μ9, tb9, rfl, hL9, hg9, hP9⟩
              rw [← y_l2.1, ← y_l2.2.1, ← y_l2.2.2 (300, 0) (by decide) (by decide)]
              exact law_tail hl0 X hE hx hb hr hlocks hi kk hL9 hg9 (by omega) (by omega)
            · refine v_aload_n X (xdec_at tL_law_2 7 rfl) rfl rfl ?_
              refine v_aload_n X (xdec_at tL_law_2 8 rfl) rfl rfl ?_
              refine v_aload_n X (xdec_at tL_law_2 9 rfl) rfl rfl ?_
              refine v_iload X (xdec_at tL_law_2 10 rfl) rfl ?_
              refine v_iconst (v := 5) X (xdec_at tL_law_2 11 rfl) (by decide) ?_
              refine v_ishr X (xdec_at tL_law_2 12 rfl) fun u3 => ?_
              refine v_iload X (xdec_at tL_law_2 13 rfl) rfl ?_
              refine v_wL X hE myL_things [.ref (lay (0, 0)), .ref (lay (500, 0)), .ref (lay (300, 0)), .int u3, .int zw] [] (c_things hl0 u3 zw hL (by omega) hg hP3) (xw_at tW_13 30 rfl) rfl rfl (by rfl) (Nat.le_of_ble_eq_true rfl) (xdec_at tL_law_2 14 rfl) ⟨(Nat.le_of_ble_eq_true rfl), (Nat.le_of_ble_eq_true rfl)⟩ ⟨by show (_ : Nat) ≤ 600074; omega, by show (_ : Nat) ≤ 7301550; omega⟩ ?_
              rintro v9 l3 C9 ⟨rfl, y_l3, μ9, tb9, rfl, hL9, hg9, hP9⟩
              rw [← y_l3.1, ← y_l3.2.1, ← y_l3.2.2 (300, 0) (by decide) (by decide)]
              refine v_goto (tgt := 190) X (xdec_at tL_law_2 15 rfl) (by decide) ?_
              exact law_tail hl0 X hE hx hb hr hlocks hi kk hL9 hg9 (by omega) (by omega)
          · refine v_aload_n X (xdec_at tL_law_1 38 rfl) rfl rfl ?_
            refine v_aload_n X (xdec_at tL_law_1 39 rfl) rfl rfl ?_
            refine v_aload_n X (xdec_at tL_law_2 0 rfl) rfl rfl ?_
            refine v_iload X (xdec_at tL_law_2 1 rfl) rfl ?_
            obtain ⟨D, hD⟩ : ∃ D, Pp (KT_days (gD zw) (0, μ) tb) = Pp tb + D := ⟨_, (Nat.add_sub_cancel' (tb_days0 hL.I (gD zw))).symm⟩
            have hPd : Pp tb + D ≤ 144320 := by rw [← hD]; exact Pp_b (cm_go hL (by omega) (gD_b zw).1 (by have := (gD_b zw).2; omega)).2.1 (by omega)
            refine v_wL X hE myL_goes [.ref (lay (0, 0)), .ref (lay (500, 0)), .ref (lay (300, 0)), .int zw] [] (c_goes hl0 zw D hL hD (by omega) hg) (xw_at tW_13 26 rfl) rfl rfl (by rfl) (Nat.le_of_ble_eq_true rfl) (xdec_at tL_law_2 2 rfl) ⟨(Nat.le_of_ble_eq_true rfl), (Nat.le_of_ble_eq_true rfl)⟩ ⟨by show (_ : Nat) ≤ 600074; omega, by show (_ : Nat) ≤ 7301550; omega⟩ ?_
            rintro v9 l4 C9 ⟨rfl, y_l4, μ9, tb9, rfl, hL9, hg9, hP9⟩
            rw [← y_l4.1, ← y_l4.2.1, ← y_l4.2.2 (300, 0) (by decide) (by decide)]
            refine v_goto (tgt := 190) X (xdec_at tL_law_2 3 rfl) (by decide) ?_
            exact law_tail hl0 X hE hx hb hr hlocks hi kk hL9 hg9 (by omega) (by omega)
        · refine v_aload_n X (xdec_at tL_law_1 29 rfl) rfl rfl ?_
          refine v_aload_n X (xdec_at tL_law_1 30 rfl) rfl rfl ?_
          refine v_aload_n X (xdec_at tL_law_1 31 rfl) rfl rfl ?_
          refine v_iload X (xdec_at tL_law_1 32 rfl) rfl ?_
          refine v_wL X hE myL_mails [.ref (lay (0, 0)), .ref (lay (500, 0)), .ref (lay (300, 0)), .int zw] [] (c_mails hl0 zw hL (by omega) hg hP3) (xw_at tW_12 6 rfl) rfl rfl (by rfl) (Nat.le_of_ble_eq_true rfl) (xdec_at tL_law_1 33 rfl) ⟨(Nat.le_of_ble_eq_true rfl), (Nat.le_of_ble_eq_true rfl)⟩ ⟨by show (_ : Nat) ≤ 600074; omega, by show (_ : Nat) ≤ 7301550; omega⟩ ?_
          rintro v9 l5 C9 ⟨rfl, y_l5, μ9, tb9, rfl, hL9, hg9, hP9⟩
          rw [← y_l5.1, ← y_l5.2.1, ← y_l5.2.2 (300, 0) (by decide) (by decide)]
          refine v_goto (tgt := 190) X (xdec_at tL_law_1 34 rfl) (by decide) ?_
          exact law_tail hl0 X hE hx hb hr hlocks hi kk hL9 hg9 (by omega) (by omega)
      · refine v_aload_n X (xdec_at tL_law_1 20 rfl) rfl rfl ?_
        refine v_aload_n X (xdec_at tL_law_1 21 rfl) rfl rfl ?_
        refine v_aload_n X (xdec_at tL_law_1 22 rfl) rfl rfl ?_
        refine v_iload X (xdec_at tL_law_1 23 rfl) rfl ?_
        refine v_wL X hE myL_ways [.ref (lay (0, 0)), .ref (lay (500, 0)), .ref (lay (300, 0)), .int zw] [] (c_ways hl0 zw hL hg hP3) (xw_at tW_12 4 rfl) rfl rfl (by rfl) (Nat.le_of_ble_eq_true rfl) (xdec_at tL_law_1 24 rfl) ⟨(Nat.le_of_ble_eq_true rfl), (Nat.le_of_ble_eq_true rfl)⟩ ⟨by show (_ : Nat) ≤ 600074; omega, by show (_ : Nat) ≤ 7301550; omega⟩ ?_
        rintro v9 l6 C9 ⟨rfl, y_l6, μ9, tb9, rfl, hL9, hg9, hP9⟩
        rw [← y_l6.1, ← y_l6.2.1, ← y_l6.2.2 (300, 0) (by decide) (by decide)]
        refine v_goto (tgt := 190) X (xdec_at tL_law_1 25 rfl) (by decide) ?_
        exact law_tail hl0 X hE hx hb hr hlocks hi kk hL9 hg9 (by omega) (by omega)
    · refine v_aload_n X (xdec_at tL_law_1 8 rfl) rfl rfl ?_
      refine v_aload_n X (xdec_at tL_law_1 9 rfl) rfl rfl ?_
      refine v_aload_n X (xdec_at tL_law_1 10 rfl) rfl rfl ?_
      refine v_iload X (xdec_at tL_law_1 11 rfl) rfl ?_
      refine v_iconst (v := 5) X (xdec_at tL_law_1 12 rfl) (by decide) ?_
      refine v_ishr X (xdec_at tL_law_1 13 rfl) fun u4 => ?_
      refine v_iload X (xdec_at tL_law_1 14 rfl) rfl ?_
      refine v_wL X hE myL_posts [.ref (lay (0, 0)), .ref (lay (500, 0)), .ref (lay (300, 0)), .int u4, .int zw] [] (c_posts hl0 u4 zw hL hg) (xw_at tW_6 9 rfl) rfl rfl (by rfl) (Nat.le_of_ble_eq_true rfl) (xdec_at tL_law_1 15 rfl) ⟨(Nat.le_of_ble_eq_true rfl), (Nat.le_of_ble_eq_true rfl)⟩ ⟨by show (_ : Nat) ≤ 600074; omega, by show (_ : Nat) ≤ 7301550; omega⟩ ?_
      rintro v9 l7 C9 ⟨rfl, y_l7, μ9, tb9, rfl, hL9, hg9, hP9⟩
      rw [← y_l7.1, ← y_l7.2.1, ← y_l7.2.2 (300, 0) (by decide) (by decide)]
      refine v_goto (tgt := 190) X (xdec_at tL_law_1 16 rfl) (by decide) ?_
      exact law_tail hl0 X hE hx hb hr hlocks hi kk hL9 hg9 (by omega) (by omega)
set_option maxRecDepth 100000 in
set_option maxHeartbeats 8000000 in
theorem law_loop {p : Program} {l : Launch} {e : Env} {s : State} {m : MethodId} {below : List Frame} {meth : Method} {c : Code} {Z : xZ} {b L : Nat} {xs : Nat → Int32} (hl0 : l.stackTraces = false) (X : Cx p m meth c cL_law 9 s #[Value.ref b] RL Z s.heap.size) (hE : xEx s.heap.size s ∧ xNc s) (hx : p.tables.exec = Jvm.exec) (hb : c.code = code) (hr : meth.sig.returnType = ret) (hlocks : meth.locks = false) (hX : va_X b L xs s s.heap) (hbl : b < s.heap.size) (hLn : L ≤ 3584) : ∀ d i, i + d = 120 → LST p l e s m below meth c Z b i := by
  intro d
  induction d with
  | zero =>
    intro i hi lay μ tb cells slots v6 v7 v8 hL hg hRM
    obtain ⟨hc, hs⟩ := hRM
    have hPp := Pp_b hL (by omega)
    have hf := dv_F hL.I
    refine v_iload X (xdec_at tL_law_0 17 rfl) rfl ?_
    refine v_bipush (v := 120) X (xdec_at tL_law_0 18 rfl) (by decide) ?_
    refine v_icmp_ge (tgt := 248) X (xdec_at tL_law_0 19 rfl) (by decide) (fun _ => ?_) (fun h9 => absurd (nI_le (a := 120) (b := i) (by omega) (by omega)) h9)
    refine v_iload X (xdec_at tL_law_3 13 rfl) rfl ?_
    refine v_if_eq (tgt := 271) X (xdec_at tL_law_3 14 rfl) (by decide) (fun h9 => absurd h9 (by decide)) (fun _ => ?_)
    refine v_aload_n X (xdec_at tL_law_3 15 rfl) rfl rfl ?_
    refine v_aload_n X (xdec_at tL_law_3 16 rfl) rfl rfl ?_
    refine v_wL X hE myL_all [.ref (lay (0, 0)), .ref (lay (300, 0))] [] (all_W hl0 hL.I hL.K hL.S hf) (xw_at tW_2 31 rfl) rfl rfl (by rfl) (Nat.le_of_ble_eq_true rfl) (xdec_at tL_law_3 17 rfl) ⟨(Nat.le_of_ble_eq_true rfl), (Nat.le_of_ble_eq_true rfl)⟩ ⟨by show (_ : Nat) ≤ 600074; omega, by show (_ : Nat) ≤ 7301550; omega⟩ ?_
    rintro v9 lay9 C9 ⟨rfl, rfl, rfl⟩
    refine v_aload_n X (xdec_at tL_law_3 18 rfl) rfl rfl ?_
    refine v_aload_n X (xdec_at tL_law_3 19 rfl) rfl rfl ?_
    refine v_wL X hE myL_all [.ref (lay (500, 0)), .ref (lay (300, 0))] [.long (hA μ)] (all_T hl0 hL.I hL.K hL.S hf) (xw_at tW_2 31 rfl) rfl rfl (by rfl) (Nat.le_of_ble_eq_true rfl) (xdec_at tL_law_3 20 rfl) ⟨(Nat.le_of_ble_eq_true rfl), (Nat.le_of_ble_eq_true rfl)⟩ ⟨by show (_ : Nat) ≤ 600074; omega, by show (_ : Nat) ≤ 7301550; omega⟩ ?_
    rintro v9 lay9 C9 ⟨rfl, rfl, rfl⟩
    refine v_lcmp X (xdec_at tL_law_3 21 rfl) ?_
    refine v_if_ne (tgt := 271) X (xdec_at tL_law_3 22 rfl) (by decide) (fun h9 => absurd (lcz rfl) h9) (fun _ => ?_)
    refine v_iconst (v := 1) X (xdec_at tL_law_3 23 rfl) (by decide) ?_
    refine v_goto (tgt := 272) X (xdec_at tL_law_3 24 rfl) (by decide) ?_
    exact law_end hx hb hr hlocks (by omega) (by omega)
  | succ d ih =>
    intro i hi lay μ tb cells slots v6 v7 v8 hL hg hRM
    have kk := ih (i + 1) (by omega)
    obtain ⟨hc, hs⟩ := hRM
    have hPp := Pp_b hL (by omega)
    have hf := dv_F hL.I
    refine v_iload X (xdec_at tL_law_0 17 rfl) rfl ?_
    refine v_bipush (v := 120) X (xdec_at tL_law_0 18 rfl) (by decide) ?_
    refine v_icmp_ge (tgt := 248) X (xdec_at tL_law_0 19 rfl) (by decide) (fun h9 => absurd h9 (nI_ge (b := 120) (a := i) (by omega) (by omega))) (fun _ => ?_)
    refine v_iload X (xdec_at tL_law_0 20 rfl) rfl ?_
    refine v_if_eq (tgt := 248) X (xdec_at tL_law_0 21 rfl) (by decide) (fun h9 => absurd h9 (by decide)) (fun _ => ?_)
    exact law_turn hl0 X hE hx hb hr hlocks hX hbl hLn (by omega) kk hL hg ⟨hc, hs⟩
set_option maxRecDepth 100000 in
set_option maxHeartbeats 4000000 in
theorem whole_start {p : Program} {e : Env} {s : State} {m : MethodId} {below : List Frame} {meth : Method} {c : Code} (l : Launch) (hflags : l.flags = flags0) {b L : Nat} {xs : Nat → Int32} (hL : L ≤ 260) (C0 : lw_At p s m meth c b L xs) : W p l e room_1 s m #[Value.ref b] below meth c s.heap [] 0 0 (lw_Z below #[Value.ref b] s) (entryFrame m ([Value.ref b] : List Value).toArray 9) := by
  obtain ⟨Z, hKn⟩ := law_z C0
  have hAO := law_ao C0
  have hE : xEx s.heap.size s ∧ xNc s := ⟨law_ex C0, law_nc C0⟩
  have hl0 : l.stackTraces = false := by
    unfold Launch.stackTraces
    rw [hflags]
    decide +kernel
  obtain ⟨hx, hb, hr, hml, hown, hts, hX, hbl, hlocks, -⟩ := C0
  have X : Cx p m meth c cL_law 9 s #[Value.ref b] RL Z s.heap.size := ⟨⟨hx, hb, hml, hown, fun w hw => hts w (List.mem_filter.mp hw).1⟩, hKn, Nat.le_refl _, hlocks⟩
  suffices hV : ∀ lay : xK → Nat, V p l e room_1 s m #[Value.ref b] below meth c (lw_Z below #[Value.ref b] s) Z s.heap.size 9 lay (fun _ => none) 0 0 0 [some (.ref b), none, none, none, none, none, none, none, none] [] by
    have h := hV (fun _ => 0) ((lg_sl [Value.ref b] ++ List.replicate (9 - (lg_sl [Value.ref b]).length) Slot.unset).toArray) s.heap [] (lv_entry [.ref b] (Nat.le_of_ble_eq_true rfl)) ⟨(fun k e h => by cases h), (fun k k' h => absurd rfl h), (fun k h => absurd rfl h)⟩ va_S.rf
    rw [lg_entry_eq]
    exact h
  intro lay
  have f9 : ∀ j, j < 6 → defaultValue (tyX4 j) = fX0 .null .null .null j := fun j hj => match j, hj with | 0, _ => rfl | 1, _ => rfl | 2, _ => rfl | 3, _ => rfl | 4, _ => rfl | 5, _ => rfl | j + 6, h => absurd h (by omega)
  obtain ⟨T, hT⟩ : ∃ T : Tb, T = (K_reckon μ0 tb0.1, tb0.2) := ⟨_, rfl⟩
  refine x_newc X hinX4 tyX4 tyX4_ok (xw_at tW_0 30 rfl) (xw_at tW_0 31 rfl) (xw_at tW_0 16 rfl) (ci := 4) rfl (0, 0) rfl (f := fX0 .null .null .null) f9 ⟨(Nat.le_of_ble_eq_true rfl), (Nat.le_of_ble_eq_true rfl)⟩ (xdec_at tL_law_0 0 rfl) fun a _ => ?_
  obtain ⟨ly, hly⟩ : ∃ ly, ly = xlay lay (0, 0) a := ⟨_, rfl⟩
  have ha : ly (0, 0) = a := by rw [hly]; exact xlay_at _ _ _
  rw [← hly, ← ha]
  refine v_dup X (xdec_at tL_law_0 1 rfl) rfl ?_
  refine v_callIA X hAO myX4_init [] [.ref (ly (0, 0))] (kyX4_init l Z s.heap.size ly (fun _ => none) (fun _ _ => rfl)) (xw_at tW_0 32 rfl) rfl rfl (Nat.le_of_ble_eq_true rfl) (xdec_at tL_law_0 2 rfl) ⟨(Nat.le_of_ble_eq_true rfl), (Nat.le_of_ble_eq_true rfl)⟩ ⟨(Nat.le_of_ble_eq_true rfl), (Nat.le_of_ble_eq_true rfl)⟩ ?_
  rintro v9 l1 C9 ⟨rfl, e1, rfl⟩
  have e10 : l1 (0, 0) = ly (0, 0) := e1 (0, 0) (fun j h1 h7 z => by have := congrArg Prod.fst z; dsimp only at this; omega)
  rw [← e10, ← hT]
  refine v_astore_n (lv' := [some (.ref b), some (.ref (l1 (0, 0))), none, none, none, none, none, none, none]) X (xdec_at tL_law_0 3 rfl) rfl (by decide) rfl ?_
  refine v_sw ?_
  have h500 : csw l1 (500, 0) = l1 (0, 0) := rfl
  rw [← h500]
  have hn : ∀ k : xK, k.1 < 40 → csw (cX Z l1 μ0 T fun _ => none) k = none := fun k hk => by
    obtain ⟨a, b⟩ := k
    show cX Z l1 μ0 T (fun _ => none) (sw (a, b)) = none
    rw [sw_o b hk, cX_hi (show 40 ≤ a + 500 by omega)]
  refine x_newc X hinX4 tyX4 tyX4_ok (xw_at tW_0 30 rfl) (xw_at tW_0 31 rfl) (xw_at tW_0 16 rfl) (ci := 4) rfl (0, 0) (hn (0, 0) (by decide)) (f := fX0 .null .null .null) f9 ⟨(Nat.le_of_ble_eq_true rfl), (Nat.le_of_ble_eq_true rfl)⟩ (xdec_at tL_law_0 4 rfl) fun a2 _ => ?_
  obtain ⟨l2, hl2⟩ : ∃ l2, l2 = xlay (csw l1) (0, 0) a2 := ⟨_, rfl⟩
  have ha2 : l2 (0, 0) = a2 := by rw [hl2]; exact xlay_at _ _ _
  have e20 : l2 (500, 0) = csw l1 (500, 0) := by rw [hl2]; exact xlay_ne _ _ (by decide)
  rw [← hl2, ← ha2, ← e20]
  refine v_dup X (xdec_at tL_law_0 5 rfl) rfl ?_
  refine v_callIA X hAO myX4_init [] [.ref (l2 (0, 0))] (kyX4_init l Z s.heap.size l2 (csw (cX Z l1 μ0 T fun _ => none)) (fun k hk => hn k (by simp only [List.mem_cons, List.not_mem_nil, or_false] at hk; omega))) (xw_at tW_0 32 rfl) rfl rfl (Nat.le_of_ble_eq_true rfl) (xdec_at tL_law_0 6 rfl) ⟨(Nat.le_of_ble_eq_true rfl), (Nat.le_of_ble_eq_true rfl)⟩ ⟨(Nat.le_of_ble_eq_true rfl), (Nat.le_of_ble_eq_true rfl)⟩ ?_
  rintro v9 l3 C9 ⟨rfl, e3, rfl⟩
  have e30 : l3 (0, 0) = l2 (0, 0) := e3 (0, 0) (fun j h1 h7 z => by have := congrArg Prod.fst z; dsimp only at this; omega)
  have e35 : l3 (500, 0) = l2 (500, 0) := e3 (500, 0) (fun j h1 h7 z => by have := congrArg Prod.fst z; dsimp only at this; omega)
  rw [← e30, ← e35, ← hT]
  refine v_astore_n (lv' := [some (.ref b), some (.ref (l3 (500, 0))), some (.ref (l3 (0, 0))), none, none, none, none, none, none]) X (xdec_at tL_law_0 7 rfl) rfl (by decide) rfl ?_
  refine v_sw ?_
  rw [W2_made (l1 := l1) (l2 := l3) (T := T) (fun k h1 h2 => (e3 k h1).trans (by rw [hl2]; exact xlay_ne _ _ h2))]
  obtain ⟨l4, hl4⟩ : ∃ l4, l4 = csw l3 := ⟨_, rfl⟩
  have h40 : l4 (0, 0) = l3 (500, 0) := by rw [hl4]; rfl
  have h45 : l4 (500, 0) = l3 (0, 0) := by rw [hl4]; rfl
  rw [← hl4, ← h40, ← h45]
  refine v_iconst (v := 3) X (xdec_at tL_law_0 8 rfl) (by decide) ?_
  refine x_newi X (300, 0) (W2_hi (by decide) (by decide)) (N := 3) (by decide) rfl (by decide) ⟨(Nat.le_of_ble_eq_true rfl), (Nat.le_of_ble_eq_true rfl)⟩ (xdec_at tL_law_0 9 rfl) fun a5 _ => ?_
  obtain ⟨l5, hl5⟩ : ∃ l5, l5 = xlay l4 (300, 0) a5 := ⟨_, rfl⟩
  have h50 : l5 (0, 0) = l4 (0, 0) := by rw [hl5]; exact xlay_ne _ _ (by decide)
  have h55 : l5 (500, 0) = l4 (500, 0) := by rw [hl5]; exact xlay_ne _ _ (by decide)
  have h53 : l5 (300, 0) = a5 := by rw [hl5]; exact xlay_at _ _ _
  have hd0 : (fun _ => 0 : Nat → Int32) = dv μ0 := by
    funext i
    unfold dv μ0
    match i with
    | 0 => rfl
    | 1 => rfl
    | 2 => rfl
    | i + 3 => rfl
  refine v_congr (lay' := xlay l4 (300, 0) a5) (C' := W2 Z (xlay l4 (300, 0) a5) μ0 T μ0 T (dR Z (dv μ0))) (fun j => Or.inr ?_) (fun _ _ => rfl) ?_
  · rw [hd0, ← W2_new (a := a5) (by decide) (by decide) j]
    refine cX_rk (tw_rk ?_)
    unfold dR
    by_cases hj : j = (300, 0)
    · rw [if_pos hj, hj, xup_at]; rfl
    · rw [if_neg hj, xup_ne _ _ hj]
  rw [← hl5, ← h50, ← h55, ← h53]
  refine v_astore_n (lv' := [some (.ref b), some (.ref (l5 (0, 0))), some (.ref (l5 (500, 0))), some (.ref (l5 (300, 0))), none, none, none, none, none]) X (xdec_at tL_law_0 10 rfl) rfl (by decide) rfl ?_
  refine v_aload_n X (xdec_at tL_law_0 11 rfl) rfl rfl ?_
  refine v_aload_n X (xdec_at tL_law_0 12 rfl) rfl rfl ?_
  have hJ : LJ μ0 T 0 := by rw [hT]; exact LJ_0
  refine v_wL X hE myL_refused [.ref (l5 (0, 0)), .ref (l5 (300, 0))] [] (c_refused hl0 hJ (by decide)) (xw_at tW_14 7 rfl) rfl rfl (by rfl) (Nat.le_of_ble_eq_true rfl) (xdec_at tL_law_0 13 rfl) ⟨(Nat.le_of_ble_eq_true rfl), (Nat.le_of_ble_eq_true rfl)⟩ ⟨(Nat.le_of_ble_eq_true rfl), (Nat.le_of_ble_eq_true rfl)⟩ ?_
  rintro v9 l6 C9 ⟨rfl, y6, rfl⟩
  rw [← y6.1, ← y6.2.1, ← y6.2.2 (300, 0) (by decide) (by decide)]
  refine v_istore (lv' := [some (.ref b), some (.ref (l6 (0, 0))), some (.ref (l6 (500, 0))), some (.ref (l6 (300, 0))), some (.int 1), none, none, none, none]) X (xdec_at tL_law_0 14 rfl) (by decide) rfl ?_
  refine v_iconst (v := 0) X (xdec_at tL_law_0 15 rfl) (by decide) ?_
  refine v_istore (lv' := [some (.ref b), some (.ref (l6 (0, 0))), some (.ref (l6 (500, 0))), some (.ref (l6 (300, 0))), some (.int 1), some (.int 0), none, none, none]) X (xdec_at tL_law_0 16 rfl) (by decide) rfl ?_
  exact law_loop hl0 X hE hx hb hr hlocks hX hbl (by omega) 120 0 rfl l6 μ0 T _ _ none none none hJ (fun h => absurd h (by decide)) ⟨Nat.le_trans (Nat.le_of_ble_eq_true rfl : _ ≤ 3000) (by omega), Nat.le_trans (Nat.le_of_ble_eq_true rfl : _ ≤ 20000) (by omega)⟩
