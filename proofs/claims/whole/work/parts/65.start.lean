set_option maxRecDepth 100000 in
set_option maxHeartbeats 4000000 in
theorem whole_start {p : Program} {e : Env} {s : State} {m : MethodId} {below : List Frame} {meth : Method} {c : Code} (l : Launch) (hflags : l.flags = flags0) {b L : Nat} {xs : Nat → Int32} (hL : L ≤ 3584) (C0 : lw_At p s m meth c b L xs) : W p l e room_1 s m #[Value.ref b] below meth c s.heap [] 0 0 (lw_Z below #[Value.ref b] s) (entryFrame m ([Value.ref b] : List Value).toArray 8) := by
  obtain ⟨Z, hKn⟩ := law_z C0
  have hAO := law_ao C0
  have hE : xEx s.heap.size s ∧ xNc s := ⟨law_ex C0, law_nc C0⟩
  have hl0 : l.stackTraces = false := by
    unfold Launch.stackTraces
    rw [hflags]
    decide +kernel
  obtain ⟨hx, hb, hr, hml, hown, hts, hX, hbl, hlocks, -⟩ := C0
  have X : Cx p m meth c cL_law 8 s #[Value.ref b] RL Z s.heap.size := ⟨⟨hx, hb, hml, hown, fun w hw => hts w (List.mem_filter.mp hw).1⟩, hKn, Nat.le_refl _, hlocks⟩
  suffices hV : ∀ lay : xK → Nat, V p l e room_1 s m #[Value.ref b] below meth c (lw_Z below #[Value.ref b] s) Z s.heap.size 8 lay (fun _ => none) 0 0 0 [some (.ref b), none, none, none, none, none, none, none] [] by
    have h := hV (fun _ => 0) ((lg_sl [Value.ref b] ++ List.replicate (8 - (lg_sl [Value.ref b]).length) Slot.unset).toArray) s.heap [] (lv_entry [.ref b] (Nat.le_of_ble_eq_true rfl)) ⟨(fun k e h => by cases h), (fun k k' h => absurd rfl h), (fun k h => absurd rfl h)⟩ va_S.rf
    rw [lg_entry_eq]
    exact h
  intro lay
  refine x_newc X hinX4 tyX4 tyX4_ok (xw_at tW_1 9 rfl) (xw_at tW_1 10 rfl) (xw_at tW_0 34 rfl) (ci := 4) rfl (0, 0) rfl (f := fX0 .null .null .null) (fun j hj => match j, hj with | 0, _ => rfl | 1, _ => rfl | 2, _ => rfl | 3, _ => rfl | 4, _ => rfl | 5, _ => rfl | j + 6, h => absurd h (by omega)) ⟨(Nat.le_of_ble_eq_true rfl), (Nat.le_of_ble_eq_true rfl)⟩ (xdec_at tL_law_0 0 rfl) fun a _ => ?_
  obtain ⟨ly, hly⟩ : ∃ ly, ly = xlay lay (0, 0) a := ⟨_, rfl⟩
  have ha : ly (0, 0) = a := by rw [hly]; exact xlay_at _ _ _
  rw [← hly, ← ha]
  refine v_dup X (xdec_at tL_law_0 1 rfl) rfl ?_
  refine v_callIA X hAO myX4_init [] [.ref (ly (0, 0))] (kyX4_init l Z s.heap.size ly (fun _ => none) (fun _ _ => rfl)) (xw_at tW_1 11 rfl) rfl rfl (Nat.le_of_ble_eq_true rfl) (xdec_at tL_law_0 2 rfl) ⟨(Nat.le_of_ble_eq_true rfl), (Nat.le_of_ble_eq_true rfl)⟩ ⟨(Nat.le_of_ble_eq_true rfl), (Nat.le_of_ble_eq_true rfl)⟩ ?_
  rintro v9 l1 C9 ⟨rfl, e1, rfl⟩
  have e10 : l1 (0, 0) = ly (0, 0) := e1 (0, 0) (fun j h1 h7 z => by have := congrArg Prod.fst z; dsimp only at this; omega)
  rw [← e10]
  refine v_astore_n (lv' := [some (.ref b), some (.ref (l1 (0, 0))), none, none, none, none, none, none]) X (xdec_at tL_law_0 3 rfl) rfl (by decide) rfl ?_
  refine x_newc X hinX5 tyX5 tyX5_ok (xw_at tW_15 17 rfl) (xw_at tW_15 18 rfl) (xw_at tW_0 39 rfl) (ci := 5) rfl (100, 0) rfl (f := fMn l1 0) (fMn_ok l1) ⟨(Nat.le_of_ble_eq_true rfl), (Nat.le_of_ble_eq_true rfl)⟩ (xdec_at tL_law_0 4 rfl) fun a2 _ => ?_
  obtain ⟨l2, hl2⟩ : ∃ l2, l2 = xlay l1 (100, 0) a2 := ⟨_, rfl⟩
  have ha2 : l2 (100, 0) = a2 := by rw [hl2]; exact xlay_at _ _ _
  have e20 : l2 (0, 0) = l1 (0, 0) := by rw [hl2]; exact xlay_ne _ _ (by decide)
  rw [← hl2, ← ha2, ← e20, ← fMn_l (lay := l1) (lay' := l2) (fun j => by rw [hl2]; exact xlay_ne _ _ (fun z => by have := congrArg Prod.snd z; dsimp only at this; omega)), cMn_up (Z := Z) (fun j => rfl)]
  refine v_dup X (xdec_at tL_law_0 5 rfl) rfl ?_
  refine v_callI X myX5_init [] [.ref (l2 (100, 0))] (kyX5_init l Z s.heap.size l2 _) (xw_at tW_15 19 rfl) rfl rfl (Nat.le_of_ble_eq_true rfl) (xdec_at tL_law_0 6 rfl) ⟨(Nat.le_of_ble_eq_true rfl), (Nat.le_of_ble_eq_true rfl)⟩ ⟨(Nat.le_of_ble_eq_true rfl), (Nat.le_of_ble_eq_true rfl)⟩ ?_
  rintro v9 l3 C9 ⟨rfl, e31, e3, rfl⟩
  have e30 : l3 (0, 0) = l2 (0, 0) := e3 (0, 0) (by decide)
  have ec : cX Z l3 μ0 (K_reckon μ0 tb0.1, tb0.2) (fun _ => none) = cX Z l1 μ0 (K_reckon μ0 tb0.1, tb0.2) (fun _ => none) := cX_lyo fun k hk => by
    rw [e3 k (by omega), hl2]
    exact xlay_ne _ _ (fun z => by have := congrArg Prod.fst z; dsimp only at this; omega)
  rw [← e31, ← e30, ← ec]
  refine v_astore_n (lv' := [some (.ref b), some (.ref (l3 (0, 0))), some (.ref (l3 (100, 0))), none, none, none, none, none]) X (xdec_at tL_law_0 7 rfl) rfl (by decide) rfl ?_
  refine v_iconst (v := 1) X (xdec_at tL_law_0 8 rfl) (by decide) ?_
  refine x_newl X (300, 0) rfl (N := 1) (by decide) rfl (by decide) ⟨(Nat.le_of_ble_eq_true rfl), (Nat.le_of_ble_eq_true rfl)⟩ (xdec_at tL_law_0 9 rfl) fun a4 _ => ?_
  rw [out_up a4]
  obtain ⟨l4, hl4⟩ : ∃ l4, l4 = xlay l3 (300, 0) a4 := ⟨_, rfl⟩
  have h4 : l4 (300, 0) = a4 := by rw [hl4]; exact xlay_at _ _ _
  have h40 : l4 (0, 0) = l3 (0, 0) := by rw [hl4]; exact xlay_ne _ _ (by decide)
  have h41 : l4 (100, 0) = l3 (100, 0) := by rw [hl4]; exact xlay_ne _ _ (by decide)
  rw [← hl4, ← h4, ← h40, ← h41]
  refine v_astore_n (lv' := [some (.ref b), some (.ref (l4 (0, 0))), some (.ref (l4 (100, 0))), some (.ref (l4 (300, 0))), none, none, none, none]) X (xdec_at tL_law_0 10 rfl) rfl (by decide) rfl ?_
  refine v_iconst (v := 0) X (xdec_at tL_law_0 11 rfl) (by decide) ?_
  refine v_istore (lv' := [some (.ref b), some (.ref (l4 (0, 0))), some (.ref (l4 (100, 0))), some (.ref (l4 (300, 0))), some (.int 0), none, none, none]) X (xdec_at tL_law_0 12 rfl) (by decide) rfl ?_
  exact law_loop hl0 X hE hX hbl hL hx hb hr hlocks (L / 7) 0 l4 μ0 (K_reckon μ0 tb0.1, tb0.2) (fun _ => 0) _ _ none none none (by omega) (by omega) LI_0 ⟨by omega, by omega⟩
