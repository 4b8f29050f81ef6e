/-! the loop of the law, and its start -/
theorem hd_gt {L k : Nat} (h : 7 * k ≤ L) (hL : L ≤ 3584) : (nI L - 7 < nI (7 * k)) ↔ L < 7 * k + 7 := by
  by_cases h7 : 7 ≤ L
  · have e : nI L - 7 = nI (L - 7) := by
      have h1 : nI (L - 7) + nI 7 = nI L := by rw [nI_add]; congr 1; omega
      rw [← h1]
      show nI (L - 7) + nI 7 - nI 7 = nI (L - 7)
      exact Int32.add_sub_cancel _ _
    rw [e, nI_ltI (by omega) (by omega)]
    omega
  · have hk : k = 0 := by omega
    subst hk
    refine ⟨fun _ => by omega, fun _ => ?_⟩
    have : ∀ a, a < 7 → nI a - 7 < nI (7 * 0) := by decide
    exact this L (by omega)
theorem law_end {p : Program} {l : Launch} {e : Env} {s : State} {m : MethodId} {below : List Frame} {meth : Method} {c : Code} {Z : xZ} {b : Nat} {cells slots : Nat} {lay : xK → Nat} {C : xK → Option xE} {lv : List (Option Value)} (hx : p.tables.exec = Jvm.exec) (hb : c.code = code) (hr : meth.sig.returnType = ret) (hlocks : meth.locks = false) (h1 : cells ≤ 601024) (h2 : slots ≤ 7293034) : V p l e room_1 s m #[Value.ref b] below meth c (lw_Z below #[Value.ref b] s) Z s.heap.size 8 lay C cells slots 1998 lv [.int 1] := by
  intro ls H locs hl hP hS
  exact va_forget hS.2.2 (W.widen h1 h2 (lw_ret hx hb hr hlocks (xdec_at tL_law_30 19 rfl)))
set_option maxRecDepth 100000 in
set_option maxHeartbeats 4000000 in
theorem law_body {p : Program} {l : Launch} {e : Env} {s : State} {m : MethodId} {below : List Frame} {meth : Method} {c : Code} {Z : xZ} {b L : Nat} {xs : Nat → Int32} {k : Nat} {lay : xK → Nat} {μ : Mu} {tb : Tb} {o : Nat → Int64} {cells slots : Nat} {v5 v6 v7 : Option Value} (hl0 : l.stackTraces = false) (X : Cx p m meth c cL_law 8 s #[Value.ref b] RL Z s.heap.size) (hE : xEx s.heap.size s ∧ xNc s) (hX : va_X b L xs s s.heap) (hbl : b < s.heap.size) (hLn : L ≤ 3584) (hk : 7 * k + 7 ≤ L) (hL : LI μ tb k) (hRM : RM cells slots k tb) (kk : LK p l e s m below meth c Z b k) : V p l e room_1 s m #[Value.ref b] below meth c (lw_Z below #[Value.ref b] s) Z s.heap.size 8 lay (cM Z lay μ (cX Z lay μ tb (oW Z o))) cells slots 33 [some (.ref b), some (.ref (lay (0, 0))), some (.ref (lay (100, 0))), some (.ref (lay (300, 0))), some (.int (nI (7 * k))), v5, v6, v7] [] := by
  refine v_aload_n X (xdec_at tL_law_0 19 rfl) rfl rfl ?_
  refine v_iload X (xdec_at tL_law_0 20 rfl) rfl ?_
  refine v_sld (n := 7 * k) X hX hbl rfl (by omega) hLn (xdec_at tL_law_0 21 rfl) ?_
  refine v_bipush (v := 31) X (xdec_at tL_law_0 22 rfl) (by decide) ?_
  refine v_iand X (xdec_at tL_law_0 23 rfl) ?_
  by_cases w_0 : (xs (7 * k) &&& 31) = 0
  · exact v_tableIn (tgt := 160) X (xdec_at tL_law_0 24 rfl) (by rw [w_0]; decide) (by rw [w_0]; decide) (by rw [w_0]; rfl) (by decide) (lc_post hl0 X hE hX hbl hLn hk hL hRM kk)
  by_cases w_1 : (xs (7 * k) &&& 31) = 1
  · exact v_tableIn (tgt := 204) X (xdec_at tL_law_0 24 rfl) (by rw [w_1]; decide) (by rw [w_1]; decide) (by rw [w_1]; rfl) (by decide) (lc_rates hl0 X hE hX hbl hLn hk hL hRM kk)
  by_cases w_2 : (xs (7 * k) &&& 31) = 2
  · exact v_tableIn (tgt := 276) X (xdec_at tL_law_0 24 rfl) (by rw [w_2]; decide) (by rw [w_2]; decide) (by rw [w_2]; rfl) (by decide) (lc_due hl0 X hE hX hbl hLn hk hL hRM kk)
  by_cases w_3 : (xs (7 * k) &&& 31) = 3
  · exact v_tableIn (tgt := 356) X (xdec_at tL_law_0 24 rfl) (by rw [w_3]; decide) (by rw [w_3]; decide) (by rw [w_3]; rfl) (by decide) (lc_charge hl0 X hE hX hbl hLn hk hL hRM kk)
  by_cases w_4 : (xs (7 * k) &&& 31) = 4
  · exact v_tableIn (tgt := 424) X (xdec_at tL_law_0 24 rfl) (by rw [w_4]; decide) (by rw [w_4]; decide) (by rw [w_4]; rfl) (by decide) (lc_coupon hl0 X hE hX hbl hLn hk hL hRM kk)
  by_cases w_5 : (xs (7 * k) &&& 31) = 5
  · exact v_tableIn (tgt := 492) X (xdec_at tL_law_0 24 rfl) (by rw [w_5]; decide) (by rw [w_5]; decide) (by rw [w_5]; rfl) (by decide) (lc_strike hl0 X hE hX hbl hLn hk hL hRM kk)
  by_cases w_6 : (xs (7 * k) &&& 31) = 6
  · exact v_tableIn (tgt := 583) X (xdec_at tL_law_0 24 rfl) (by rw [w_6]; decide) (by rw [w_6]; decide) (by rw [w_6]; rfl) (by decide) (lc_leg hl0 X hE hX hbl hLn hk hL hRM kk)
  by_cases w_7 : (xs (7 * k) &&& 31) = 7
  · exact v_tableIn (tgt := 663) X (xdec_at tL_law_0 24 rfl) (by rw [w_7]; decide) (by rw [w_7]; decide) (by rw [w_7]; rfl) (by decide) (lc_close hl0 X hE hX hbl hLn hk hL hRM kk)
  by_cases w_8 : (xs (7 * k) &&& 31) = 8
  · exact v_tableIn (tgt := 754) X (xdec_at tL_law_0 24 rfl) (by rw [w_8]; decide) (by rw [w_8]; decide) (by rw [w_8]; rfl) (by decide) (lc_days hl0 X hE hX hbl hLn hk hL hRM kk)
  by_cases w_9 : (xs (7 * k) &&& 31) = 9
  · exact v_tableIn (tgt := 822) X (xdec_at tL_law_0 24 rfl) (by rw [w_9]; decide) (by rw [w_9]; decide) (by rw [w_9]; rfl) (by decide) (lc_daysAnew hl0 X hE hX hbl hLn hk hL hRM kk)
  by_cases w_10 : (xs (7 * k) &&& 31) = 10
  · exact v_tableIn (tgt := 890) X (xdec_at tL_law_0 24 rfl) (by rw [w_10]; decide) (by rw [w_10]; decide) (by rw [w_10]; rfl) (by decide) (lc_next hl0 X hE hX hbl hLn hk hL hRM kk)
  by_cases w_11 : (xs (7 * k) &&& 31) = 11
  · exact v_tableIn (tgt := 958) X (xdec_at tL_law_0 24 rfl) (by rw [w_11]; decide) (by rw [w_11]; decide) (by rw [w_11]; rfl) (by decide) (lc_mail hl0 X hE hX hbl hLn hk hL hRM kk)
  by_cases w_12 : (xs (7 * k) &&& 31) = 12
  · exact v_tableIn (tgt := 1092) X (xdec_at tL_law_0 24 rfl) (by rw [w_12]; decide) (by rw [w_12]; decide) (by rw [w_12]; rfl) (by decide) (lc_redirect hl0 X hE hX hbl hLn hk hL hRM kk)
  by_cases w_13 : (xs (7 * k) &&& 31) = 13
  · exact v_tableIn (tgt := 1160) X (xdec_at tL_law_0 24 rfl) (by rw [w_13]; decide) (by rw [w_13]; decide) (by rw [w_13]; rfl) (by decide) (lc_refuse hl0 X hE hX hbl hLn hk hL hRM kk)
  by_cases w_14 : (xs (7 * k) &&& 31) = 14
  · exact v_tableIn (tgt := 1251) X (xdec_at tL_law_0 24 rfl) (by rw [w_14]; decide) (by rw [w_14]; decide) (by rw [w_14]; rfl) (by decide) (lc_go hl0 X hE hX hbl hLn hk hL hRM kk)
  by_cases w_15 : (xs (7 * k) &&& 31) = 15
  · exact v_tableIn (tgt := 1307) X (xdec_at tL_law_0 24 rfl) (by rw [w_15]; decide) (by rw [w_15]; decide) (by rw [w_15]; rfl) (by decide) (lc_lose hl0 X hE hX hbl hLn hk hL hRM kk)
  by_cases w_16 : (xs (7 * k) &&& 31) = 16
  · exact v_tableIn (tgt := 1363) X (xdec_at tL_law_0 24 rfl) (by rw [w_16]; decide) (by rw [w_16]; decide) (by rw [w_16]; rfl) (by decide) (lc_claim hl0 X hE hX hbl hLn hk hL hRM kk)
  by_cases w_17 : (xs (7 * k) &&& 31) = 17
  · exact v_tableIn (tgt := 1419) X (xdec_at tL_law_0 24 rfl) (by rw [w_17]; decide) (by rw [w_17]; decide) (by rw [w_17]; rfl) (by decide) (lc_sample hl0 X hE hX hbl hLn hk hL hRM kk)
  by_cases w_18 : (xs (7 * k) &&& 31) = 18
  · exact v_tableIn (tgt := 1460) X (xdec_at tL_law_0 24 rfl) (by rw [w_18]; decide) (by rw [w_18]; decide) (by rw [w_18]; rfl) (by decide) (lc_settle hl0 X hE hX hbl hLn hk hL hRM kk)
  by_cases w_19 : (xs (7 * k) &&& 31) = 19
  · exact v_tableIn (tgt := 1515) X (xdec_at tL_law_0 24 rfl) (by rw [w_19]; decide) (by rw [w_19]; decide) (by rw [w_19]; rfl) (by decide) (lc_rate hl0 X hE hX hbl hLn hk hL hRM kk)
  by_cases w_20 : (xs (7 * k) &&& 31) = 20
  · exact v_tableIn (tgt := 1623) X (xdec_at tL_law_0 24 rfl) (by rw [w_20]; decide) (by rw [w_20]; decide) (by rw [w_20]; rfl) (by decide) (lc_ofThing hl0 X hE hX hbl hLn hk hL hRM kk)
  by_cases w_21 : (xs (7 * k) &&& 31) = 21
  · exact v_tableIn (tgt := 1690) X (xdec_at tL_law_0 24 rfl) (by rw [w_21]; decide) (by rw [w_21]; decide) (by rw [w_21]; rfl) (by decide) (lc_hand hl0 X hE hX hbl hLn hk hL hRM kk)
  by_cases w_22 : (xs (7 * k) &&& 31) = 22
  · exact v_tableIn (tgt := 1758) X (xdec_at tL_law_0 24 rfl) (by rw [w_22]; decide) (by rw [w_22]; decide) (by rw [w_22]; rfl) (by decide) (lc_account hl0 X hE hX hbl hLn hk hL hRM kk)
  by_cases w_23 : (xs (7 * k) &&& 31) = 23
  · exact v_tableIn (tgt := 1813) X (xdec_at tL_law_0 24 rfl) (by rw [w_23]; decide) (by rw [w_23]; decide) (by rw [w_23]; rfl) (by decide) (lc_till hl0 X hE hX hbl hLn hk hL hRM kk)
  by_cases w_24 : (xs (7 * k) &&& 31) = 24
  · exact v_tableIn (tgt := 1868) X (xdec_at tL_law_0 24 rfl) (by rw [w_24]; decide) (by rw [w_24]; decide) (by rw [w_24]; rfl) (by decide) (lc_counted hl0 X hE hX hbl hLn hk hL hRM kk)
  by_cases w_25 : (xs (7 * k) &&& 31) = 25
  · exact v_tableIn (tgt := 1935) X (xdec_at tL_law_0 24 rfl) (by rw [w_25]; decide) (by rw [w_25]; decide) (by rw [w_25]; rfl) (by decide) (lc_gain hl0 X hE hX hbl hLn hk hL hRM kk)
  refine v_tableOut (tgt := 1991) X (xdec_at tL_law_0 24 rfl) (by have h8 := tab_out_le (x := (xs (7 * k) &&& 31)) (k := 25) (by decide) (fun i h9 => match i, h9 with | 0, _ => w_0 | 1, _ => w_1 | 2, _ => w_2 | 3, _ => w_3 | 4, _ => w_4 | 5, _ => w_5 | 6, _ => w_6 | 7, _ => w_7 | 8, _ => w_8 | 9, _ => w_9 | 10, _ => w_10 | 11, _ => w_11 | 12, _ => w_12 | 13, _ => w_13 | 14, _ => w_14 | 15, _ => w_15 | 16, _ => w_16 | 17, _ => w_17 | 18, _ => w_18 | 19, _ => w_19 | 20, _ => w_20 | 21, _ => w_21 | 22, _ => w_22 | 23, _ => w_23 | 24, _ => w_24 | 25, _ => w_25 | i + 26, h9 => absurd h9 (by omega)); simpa using h8) (by decide) ?_
  exact kk lay μ tb o _ _ _ _ _ (LI_of hL.1) (RMu (ce := 0) (sl := 0) (T := True) hRM (by decide) (by decide) (Nat.le_refl _) tb (Or.inr ⟨rfl, trivial⟩))
set_option maxRecDepth 100000 in
set_option maxHeartbeats 4000000 in
theorem law_loop {p : Program} {l : Launch} {e : Env} {s : State} {m : MethodId} {below : List Frame} {meth : Method} {c : Code} {Z : xZ} {b L : Nat} {xs : Nat → Int32} (hl0 : l.stackTraces = false) (X : Cx p m meth c cL_law 8 s #[Value.ref b] RL Z s.heap.size) (hE : xEx s.heap.size s ∧ xNc s) (hX : va_X b L xs s s.heap) (hbl : b < s.heap.size) (hLn : L ≤ 3584) (hx : p.tables.exec = Jvm.exec) (hb : c.code = code) (hr : meth.sig.returnType = ret) (hlocks : meth.locks = false) : ∀ (n k : Nat) (lay : xK → Nat) (μ : Mu) (tb : Tb) (o : Nat → Int64) (cells slots : Nat) (v5 v6 v7 : Option Value), 7 * (k + n) ≤ L → L < 7 * (k + n) + 7 → LI μ tb k → RM cells slots k tb → V p l e room_1 s m #[Value.ref b] below meth c (lw_Z below #[Value.ref b] s) Z s.heap.size 8 lay (cM Z lay μ (cX Z lay μ tb (oW Z o))) cells slots 23 [some (.ref b), some (.ref (lay (0, 0))), some (.ref (lay (100, 0))), some (.ref (lay (300, 0))), some (.int (nI (7 * k))), v5, v6, v7] [] := by
  intro n
  induction n with
  | zero =>
    intro k lay μ tb o cells slots v5 v6 v7 h1 h2 hL hRM
    have hP := Pp_max hL.1
    have hr1 := hRM.1
    have hr2 := hRM.2
    refine v_iload X (xdec_at tL_law_0 13 rfl) rfl ?_
    refine v_aload_n X (xdec_at tL_law_0 14 rfl) rfl rfl ?_
    refine v_slen X hX hbl (xdec_at tL_law_0 15 rfl) ?_
    refine v_bipush (v := 7) X (xdec_at tL_law_0 16 rfl) (by decide) ?_
    refine v_isub X (xdec_at tL_law_0 17 rfl) ?_
    refine v_icmp_gt (tgt := 1997) X (xdec_at tL_law_0 18 rfl) (by decide) (fun _ => ?_) (fun h9 => absurd ((hd_gt (by omega) hLn).mpr (by omega)) h9)
    refine v_iconst (v := 1) X (xdec_at tL_law_30 18 rfl) (by decide) ?_
    exact law_end hx hb hr hlocks (by omega) (by omega)
  | succ n ih =>
    intro k lay μ tb o cells slots v5 v6 v7 h1 h2 hL hRM
    refine v_iload X (xdec_at tL_law_0 13 rfl) rfl ?_
    refine v_aload_n X (xdec_at tL_law_0 14 rfl) rfl rfl ?_
    refine v_slen X hX hbl (xdec_at tL_law_0 15 rfl) ?_
    refine v_bipush (v := 7) X (xdec_at tL_law_0 16 rfl) (by decide) ?_
    refine v_isub X (xdec_at tL_law_0 17 rfl) ?_
    refine v_icmp_gt (tgt := 1997) X (xdec_at tL_law_0 18 rfl) (by decide) (fun h9 => absurd ((hd_gt (by omega) hLn).mp h9) (by omega)) (fun _ => ?_)
    refine law_body hl0 X hE hX hbl hLn (by omega) hL hRM ?_
    intro lay μ tb o cells slots v5 v6 v7 hL hRM
    refine v_iinc (v := nI (7 * (k + 1))) (lv' := [some (.ref b), some (.ref (lay (0, 0))), some (.ref (lay (100, 0))), some (.ref (lay (300, 0))), some (.int (nI (7 * (k + 1)))), v5, v6, v7]) X (xdec_at tL_law_30 16 rfl) rfl (nI_add (7 * k) 7) (by decide) rfl ?_
    refine v_goto (tgt := 23) X (xdec_at tL_law_30 17 rfl) (by decide) ?_
    exact ih (k + 1) lay μ tb o cells slots v5 v6 v7 (by omega) (by omega) hL hRM
theorem LI_0 : LI μ0 (K_reckon μ0 tb0.1, tb0.2) 0 := by
  have z : ∀ {P : Prop} (t : Nat), t < nT μ0 → P := fun t ht => absurd ht (Nat.not_lt_zero t)
  have hs : ix (μ0.1 30 0) = sumH μ0 (nT μ0) := rfl
  exact ⟨⟨RI_0, KI_0, ⟨fun _ _ => 0, fun t ht => z t ht⟩, ⟨tb0.1, rfl⟩, hs, fun t ht => z t ht, fun _ _ => rfl⟩, fun t ht => z t ht, hs⟩
theorem fMn_l {lay lay' : xK → Nat} (h : ∀ j, lay' (100, j + 1) = lay (100, j + 1)) : fMn lay' 0 = fMn lay 0 := by
  funext j
  unfold fMn
  rw [h]
theorem fMn_ok (lay : xK → Nat) : ∀ j, j < 39 → defaultValue (tyX5 j) = fMn lay 0 j := by
  intro j hj
  match j, hj with
  | 0, _ => rfl
  | 1, _ => rfl
  | 2, _ => rfl
  | 3, _ => rfl
  | 4, _ => rfl
  | 5, _ => rfl
  | 6, _ => rfl
  | 7, _ => rfl
  | 8, _ => rfl
  | 9, _ => rfl
  | 10, _ => rfl
  | 11, _ => rfl
  | 12, _ => rfl
  | 13, _ => rfl
  | 14, _ => rfl
  | 15, _ => rfl
  | 16, _ => rfl
  | 17, _ => rfl
  | 18, _ => rfl
  | 19, _ => rfl
  | 20, _ => rfl
  | 21, _ => rfl
  | 22, _ => rfl
  | 23, _ => rfl
  | 24, _ => rfl
  | 25, _ => rfl
  | 26, _ => rfl
  | 27, _ => rfl
  | 28, _ => rfl
  | 29, _ => rfl
  | 30, _ => rfl
  | 31, _ => rfl
  | 32, _ => rfl
  | 33, _ => rfl
  | 34, _ => rfl
  | 35, _ => rfl
  | 36, _ => rfl
  | 37, _ => rfl
  | 38, _ => rfl
  | j + 39, h => exact absurd h (by omega)
theorem cMn_up {Z : xZ} {lay : xK → Nat} {r : xK → Option xE} (h : ∀ j, r (100, j) = none) : xup r (100, 0) (.inr (5, fMn lay 0)) = cMn Z lay 0 r := by
  funext ⟨a, j⟩
  by_cases ha : a = 100
  · subst ha
    by_cases hj : j = 0
    · subst hj
      rfl
    · rw [xup_ne _ _ (fun z => hj (congrArg Prod.snd z)), h]
      unfold cMn
      rw [if_pos rfl, if_neg hj, if_neg (fun z => Nat.not_lt_zero _ z.2.2)]
  · rw [xup_ne _ _ (fun z => ha (congrArg Prod.fst z))]
    unfold cMn
    rw [if_neg ha]
theorem cX_lyo {Z : xZ} {lay lay' : xK → Nat} {tb : Tb} (h : ∀ k : xK, k.1 < 40 → lay' k = lay k) : cX Z lay' μ0 tb (fun _ => none) = cX Z lay μ0 tb (fun _ => none) := by
  refine cX_lay RI_0 KI_0 fun k hk => h k ?_
  rcases Nat.lt_or_ge k.1 40 with q | q
  · exact q
  · refine absurd ?_ hk
    obtain ⟨a, j⟩ := k
    dsimp only at q
    exact cX_r (by show a ≠ 0; omega) (by show a ≠ 1; omega) (by show a ≠ 2; omega) (by show a ≠ 3; omega) (by show a ≠ 4; omega) (by show a ≠ 5; omega) (by show a ≠ 6; omega) (by show a ≠ 7; omega) (by show a ≠ 10; omega) (by show a ≠ 11; omega) (by show a ≠ 12; omega) (by show a ≠ 13; omega) (by show a ≠ 14; omega) (by show a ≠ 20; omega) (by show a ≠ 30; omega) (by show a ≠ 31; omega)
theorem out_up {Z : xZ} {lay : xK → Nat} {tb : Tb} (a : Nat) : xup (cM Z lay μ0 (cX Z lay μ0 tb (fun _ => none))) (300, 0) (.inl (Z.2 1, 1, .inr (.inl (fun _ => 0)))) = cM Z (xlay lay (300, 0) a) μ0 (cX Z (xlay lay (300, 0) a) μ0 tb (oW Z (fun _ => 0))) := by
  have e1 : ∀ k : xK, k.1 ≠ 300 → xlay lay (300, 0) a k = lay k := fun k hk => xlay_ne _ _ (fun z => hk (congrArg Prod.fst z))
  rw [cM_lay (fun j => e1 (100, j) (show 100 ≠ 300 by decide))]
  have e2 : ∀ j, cX Z (xlay lay (300, 0) a) μ0 tb (oW Z (fun _ => 0)) j = xup (cX Z (xlay lay (300, 0) a) μ0 tb (fun _ => none)) (300, 0) (outE Z (fun _ => 0)) j := cX_xup (by decide) _
  rw [funext e2, cX_lyo (fun k hk => e1 k (by omega))]
  funext k
  by_cases h : k = (300, 0)
  · subst h
    rfl
  · rw [xup_ne _ _ h]
    unfold cM
    rw [xup_ne _ _ h]

