theorem cpy_eq (f : Nat → Int32) (n : Nat) : va_cpy f (fun _ => 0) 0 0 n = fun b => if b < n then f b else 0 := by
  funext b
  unfold va_cpy
  by_cases hb : b < n
  · rw [if_pos hb, if_pos ⟨by omega, by omega⟩, show 0 + (b - 0) = b by omega]
  · rw [if_neg hb, if_neg (by omega)]
set_option maxRecDepth 100000 in
set_option maxHeartbeats 4000000 in
theorem kyJ7_copyOf_59c91 (l : Launch) (Z : xZ) (B0 : Nat) (lay : xK → Nat) (C : xK → Option xE) (k kt : xK) (n n' : Nat) (f : Nat → Int32) (he : C k = some (.inl (Z.2 0, n, .inl f))) (hkt : C kt = none) (hnn : n < n') (hn' : n' ≤ 8192) : YM l yJ7_copyOf_59c91 cJ7_copyOf_59c91 3 (some (FieldType.array FieldType.int)) 2 60 1 n' Z B0 [.ref (lay k), .int (nI n')] lay C (fun v lay' C' => ∃ a, lay' = xlay lay kt a ∧ v = some (.ref a) ∧ C' = xup C kt (.inl (Z.2 0, n', .inl (fun b => if b < n then f b else 0)))) := by
  have hne : k ≠ kt := by rintro rfl; rw [he] at hkt; cases hkt
  refine YM_of mJcopyOf.2 RJ7 rfl [some (.ref (lay k)), some (.int (nI n')), none] rfl (Nat.le_of_ble_eq_true rfl) ?_
  intro P1 P2 P3 P4 P5 P6 P7 P8 X hr hnm
  refine v_iload_n X (xdec_at tJ7_copyOf_59c91_0 0 rfl) rfl rfl ?_
  refine v_aload_n X (xdec_at tJ7_copyOf_59c91_0 1 rfl) rfl rfl ?_
  refine x_alen (v := nI n) X k 0 he rfl rfl rfl (xdec_at tJ7_copyOf_59c91_0 2 rfl) ?_
  refine v_icmp_ne (tgt := 14) X (xdec_at tJ7_copyOf_59c91_0 3 rfl) (by decide) (fun c_3 => ?_) (fun c_3 => absurd (nI_inj (by omega) (by omega) c_3) (by omega))
  refine v_iload_n X (xdec_at tJ7_copyOf_59c91_0 8 rfl) rfl rfl ?_
  refine x_newi X kt hkt (N := n') (nI_pos (by omega)) (ix_nI (by omega)) (by omega) ⟨by show 0 + 1 ≤ 1; omega, by show 0 + n' ≤ n'; omega⟩ (xdec_at tJ7_copyOf_59c91_0 9 rfl) fun a ha => ?_
  have e0 : xlay lay kt a k = lay k := if_neg hne
  have e1 : xlay lay kt a kt = a := if_pos rfl
  refine v_le (lv' := [some (.ref (lay k)), some (.int (nI n')), none]) (by simp [xle]) ?_
  refine v_astore_n (lv' := [some (.ref (lay k)), some (.int (nI n')), some (.ref a)]) X (xdec_at tJ7_copyOf_59c91_0 10 rfl) rfl (by decide) rfl ?_
  refine v_aload_n X (xdec_at tJ7_copyOf_59c91_0 11 rfl) rfl rfl ?_
  refine v_iconst (v := 0) X (xdec_at tJ7_copyOf_59c91_0 12 rfl) (by decide) ?_
  refine v_aload_n X (xdec_at tJ7_copyOf_59c91_0 13 rfl) rfl rfl ?_
  refine v_iconst (v := 0) X (xdec_at tJ7_copyOf_59c91_0 14 rfl) (by decide) ?_
  refine v_aload_n X (xdec_at tJ7_copyOf_59c91_0 15 rfl) rfl rfl ?_
  refine x_alen (v := nI n) X k 0 (by rw [xup_ne _ _ hne]; exact he) rfl e0 rfl (xdec_at tJ7_copyOf_59c91_0 16 rfl) ?_
  refine v_iload_n X (xdec_at tJ7_copyOf_59c91_0 17 rfl) rfl rfl ?_
  refine v_min X (xw_at tW_10 27 rfl) ⟨(Nat.le_of_ble_eq_true rfl), (Nat.le_of_ble_eq_true rfl)⟩ ⟨Nat.le_refl 1, by show 0 + n' ≤ n'; omega⟩ (xdec_at tJ7_copyOf_59c91_0 18 rfl) ?_
  rw [min_nI (by omega) (by omega), Nat.min_eq_left (by omega)]
  refine x_copyi (C' := xup C kt (.inl (Z.2 0, n', .inl (fun b => if b < n then f b else 0)))) X (xw_at tW_10 28 rfl) k kt (by rw [xup_ne _ _ hne]; exact he) (xup_at C kt _) e0 e1 (nI_pos (by omega)) (by rw [ix_nI (by omega)]; exact Nat.le_refl _) (by rw [ix_nI (by omega)]; omega) (fun j => by rw [xup_xup, ix_nI (by omega), cpy_eq]) (Nat.le_of_ble_eq_true rfl) (Nat.le_of_ble_eq_true rfl) (xdec_at tJ7_copyOf_59c91_0 19 rfl) ?_
  refine v_aload_n X (xdec_at tJ7_copyOf_59c91_0 20 rfl) rfl rfl ?_
  exact v_aretA X hr (Or.inr ⟨_, rfl⟩) (xdec_at tJ7_copyOf_59c91_0 21 rfl) (Nat.le_refl 1) (by show 0 + n' ≤ n'; omega) ⟨a, rfl, rfl, rfl⟩
theorem sgn_min {h : Nat} (hh : h < 4096) : K_min 8192 (2 * nI h) = nI (2 * h) := by rw [n8192, n2, pk_mul, min_nI (by decide) (by omega), Nat.min_eq_right (by omega)]
theorem sgn_ren {lay lay1 : xK → Nat} {C : xK → Option xE} {t a : Nat} {e e1 : xE} (hr2 : C (200, 0) = none) (hlay : lay1 = xlay lay (200, 0) a) : ∀ j, xup (xup C (31, t) e) (30, t) e1 j ≠ none → (j = (31, t) ∧ xup (xup C (31, t) e) (30, t) e1 j = xup (xup C (200, 0) e) (30, t) e1 (200, 0) ∧ xlay lay (31, t) a j = lay1 (200, 0)) ∨ (j ≠ (31, t) ∧ j ≠ (200, 0) ∧ xup (xup C (31, t) e) (30, t) e1 j = xup (xup C (200, 0) e) (30, t) e1 j ∧ xlay lay (31, t) a j = lay1 j) := by
  intro j hj
  subst hlay
  by_cases h1 : j = (31, t)
  · subst h1
    exact Or.inl ⟨rfl, by rw [xup_ne _ _ (fun z => by cases z), xup_at, xup_ne _ _ (fun z => by cases z), xup_at], by unfold xlay; rw [if_pos rfl, if_pos rfl]⟩
  · have h2 : j ≠ (200, 0) := by
      rintro rfl
      rw [xup_ne _ _ (fun z => by cases z), xup_ne _ _ (fun z => by cases z)] at hj
      exact hj hr2
    refine Or.inr ⟨h1, h2, ?_, by unfold xlay; rw [if_neg h1, if_neg h2]⟩
    by_cases h3 : j = (30, t)
    · rw [h3, xup_at, xup_at]
    · rw [xup_ne _ _ h3, xup_ne _ _ h3, xup_ne _ _ h1, xup_ne _ _ h2]
theorem sgn_st {C : xK → Option xE} {t : Nat} {e e' e1 : xE} (j : xK) : xup (xup C (31, t) e') (30, t) e1 j = xup (xup (xup C (31, t) e) (30, t) e1) (31, t) e' j := by
  unfold xup
  by_cases h1 : j = (31, t)
  · rw [if_pos h1, if_pos h1, if_neg (fun z => by rw [h1] at z; cases z)]
  · rw [if_neg h1, if_neg h1, if_neg h1]
set_option maxRecDepth 100000 in
set_option maxHeartbeats 4000000 in
theorem kyX3_sign (l : Launch) (Z : xZ) (B0 : Nat) (lay : xK → Nat) (C : xK → Option xE) (t i h n : Nat) (f fp : Nat → Value) (g : Nat → Int32) (rg : Int32) (h30 : C (30, t) = some (.inr (3, f))) (h31 : C (31, t) = some (.inl (Z.2 0, n, .inl g))) (hp : C (10, i) = some (.inr (1, fp))) (hp0 : fp 0 = .int (nI i)) (hf4 : f 4 = .int rg) (hf14 : f 14 = .int (nI h)) (hf13 : f 13 = .ref (lay (31, t))) (hf6 : f 6 = .ref (lay (10, i))) (hr2 : C (200, 0) = none) (hle : h ≤ n) (hh : h < 4096) (hn4 : n < 2 ^ 31) (h1n : ¬ rg = 0 → 1 ≤ n) (ce sl : Nat) (hce : ¬ rg = 0 → h = n → 1 ≤ ce ∧ 2 * n ≤ sl) : YM l yX3_sign cX3_sign 1 (none : Option FieldType) 3 90 ce sl Z B0 [.ref (lay (30, t))] lay C (fun v lay' C' => v = none ∧ ((rg = 0 ∧ lay' = lay ∧ C' = C) ∨ (¬ rg = 0 ∧ h < n ∧ lay' = lay ∧ C' = xup (xup C (31, t) (.inl (Z.2 0, n, .inl (upd g h (nI i))))) (30, t) (.inr (3, updV f 14 (.int (nI (h + 1)))))) ∨ (¬ rg = 0 ∧ h = n ∧ ∃ a, lay' = xlay lay (31, t) a ∧ C' = xup (xup C (31, t) (.inl (Z.2 0, 2 * n, .inl (upd (fun b => if b < n then g b else 0) h (nI i))))) (30, t) (.inr (3, updV (updV f 13 (.ref a)) 14 (.int (nI (h + 1)))))))) := by
  obtain ⟨layo, h9l⟩ : ∃ z, z = lay := ⟨_, rfl⟩
  refine YM_of myX3_sign.2.2 RX3 rfl [some (.ref (lay (30, t)))] rfl (Nat.le_of_ble_eq_true rfl) ?_
  intro P1 P2 P3 P4 P5 P6 P7 P8 X hr hnm
  refine v_aload_n X (xdec_at tX3_sign_0 0 rfl) rfl rfl ?_
  refine x_get (v := .int rg) X hinX3 (30, t) h30 rfl 4 (by decide) (xw_at tW_12 29 rfl) rfl rfl hf4 (xdec_at tX3_sign_0 1 rfl) ?_
  refine v_if_eq (tgt := 17) X (xdec_at tX3_sign_0 2 rfl) (by decide) (fun c_4 => ?_) (fun c_4 => ?_)
  · exact v_vret X hr (xdec_at tX3_sign_0 7 rfl) (Nat.zero_le _) (Nat.zero_le _) ⟨rfl, Or.inl ⟨c_4, rfl, rfl⟩⟩
  · refine v_aload_n X (xdec_at tX3_sign_0 3 rfl) rfl rfl ?_
    refine x_get (v := .int (nI h)) X hinX3 (30, t) h30 rfl 14 (by decide) (xw_at tW_13 9 rfl) rfl rfl hf14 (xdec_at tX3_sign_0 4 rfl) ?_
    refine v_sipush (v := 8192) X (xdec_at tX3_sign_0 5 rfl) (by decide) ?_
    refine v_icmp_lt (tgt := 18) X (xdec_at tX3_sign_0 6 rfl) (by decide) (fun c_14 => ?_) (fun c_14 => ?_)
    · refine v_aload_n X (xdec_at tX3_sign_0 8 rfl) rfl rfl ?_
      refine x_get (v := .int (nI h)) X hinX3 (30, t) h30 rfl 14 (by decide) (xw_at tW_13 9 rfl) rfl rfl hf14 (xdec_at tX3_sign_0 9 rfl) ?_
      refine v_aload_n X (xdec_at tX3_sign_0 10 rfl) rfl rfl ?_
      refine x_get (v := .ref (lay (31, t))) X hinX3 (30, t) h30 rfl 13 (by decide) (xw_at tW_13 7 rfl) rfl rfl hf13 (xdec_at tX3_sign_0 11 rfl) ?_
      refine x_alen (v := nI n) X (31, t) 0 h31 rfl rfl rfl (xdec_at tX3_sign_0 12 rfl) ?_
      refine v_icmp_lt (tgt := 53) X (xdec_at tX3_sign_0 13 rfl) (by decide) (fun c_27 => ?_) (fun c_27 => ?_)
      · have hlt : h < n := (nI_ltI (by omega) (by omega)).mp c_27
        refine v_aload_n X (xdec_at tX3_sign_0 25 rfl) rfl rfl ?_
        refine x_get (v := .ref (lay (31, t))) X hinX3 (30, t) h30 rfl 13 (by decide) (xw_at tW_13 7 rfl) rfl rfl hf13 (xdec_at tX3_sign_0 26 rfl) ?_
        refine v_aload_n X (xdec_at tX3_sign_0 27 rfl) rfl rfl ?_
        refine x_get (v := .int (nI h)) X hinX3 (30, t) h30 rfl 14 (by decide) (xw_at tW_13 9 rfl) rfl rfl hf14 (xdec_at tX3_sign_0 28 rfl) ?_
        refine v_aload_n X (xdec_at tX3_sign_0 29 rfl) rfl rfl ?_
        refine x_get (v := .ref (lay (10, i))) X hinX3 (30, t) h30 rfl 6 (by decide) (xw_at tW_12 33 rfl) rfl rfl hf6 (xdec_at tX3_sign_0 30 rfl) ?_
        refine x_get (v := .int (nI i)) X hinX1 (10, i) hp rfl 0 (by decide) (xw_at tW_7 5 rfl) rfl rfl hp0 (xdec_at tX3_sign_0 31 rfl) ?_
        refine x_iast (C' := (xup C (31, t) (.inl (Z.2 0, n, .inl (upd g h (nI i)))))) X (31, t) h31 (vp_in_nI (by omega) (by omega)) rfl (fun j => by rw [show (nI h).toNatClampNeg = h from ix_nI (by omega)]) (xdec_at tX3_sign_0 32 rfl) ?_
        refine v_aload_n X (xdec_at tX3_sign_0 33 rfl) rfl rfl ?_
        refine v_dup X (xdec_at tX3_sign_0 34 rfl) rfl ?_
        refine x_get (v := .int (nI h)) X hinX3 (30, t) (by rw [xup_ne _ _ (fun z => by cases z)]; exact h30) rfl 14 (by decide) (xw_at tW_13 9 rfl) rfl rfl hf14 (xdec_at tX3_sign_0 35 rfl) ?_
        refine v_iconst (v := 1) X (xdec_at tX3_sign_0 36 rfl) (by decide) ?_
        refine v_iadd X (xdec_at tX3_sign_0 37 rfl) ?_
        refine v_st (st' := [.int (nI (h + 1)), .ref (lay (30, t))]) (by rw [nI_1]) ?_
        refine x_put (C' := (xup (xup C (31, t) (.inl (Z.2 0, n, .inl (upd g h (nI i))))) (30, t) (.inr (3, (updV f 14 (.int (nI (h + 1)))))))) X hinX3 tyX3 tyX3_ok nmX3 (30, t) (by rw [xup_ne _ _ (fun z => by cases z)]; exact h30) rfl 14 (by decide) (xw_at tW_13 9 rfl) rfl rfl rfl rfl rfl (fun j => by first | rfl | rw [xup_xup]) (xdec_at tX3_sign_0 38 rfl) ?_
        exact v_vret X hr (xdec_at tX3_sign_0 39 rfl) (Nat.zero_le _) (Nat.zero_le _) ⟨rfl, Or.inr (Or.inl ⟨c_4, (nI_ltI (by omega) (by omega)).mp c_27, rfl, rfl⟩)⟩
      · refine v_aload_n X (xdec_at tX3_sign_0 14 rfl) rfl rfl ?_
        refine v_aload_n X (xdec_at tX3_sign_0 15 rfl) rfl rfl ?_
        refine x_get (v := .ref (lay (31, t))) X hinX3 (30, t) h30 rfl 13 (by decide) (xw_at tW_13 7 rfl) rfl rfl hf13 (xdec_at tX3_sign_0 16 rfl) ?_
        refine v_sipush (v := 8192) X (xdec_at tX3_sign_0 17 rfl) (by decide) ?_
        refine v_iconst (v := 2) X (xdec_at tX3_sign_0 18 rfl) (by decide) ?_
        refine v_aload_n X (xdec_at tX3_sign_0 19 rfl) rfl rfl ?_
        refine x_get (v := .int (nI h)) X hinX3 (30, t) h30 rfl 14 (by decide) (xw_at tW_13 9 rfl) rfl rfl hf14 (xdec_at tX3_sign_0 20 rfl) ?_
        refine v_imul X (xdec_at tX3_sign_0 21 rfl) ?_
        refine v_min X (xw_at tW_10 18 rfl) ⟨(Nat.le_of_ble_eq_true rfl), (Nat.le_of_ble_eq_true rfl)⟩ ⟨Nat.zero_le _, Nat.zero_le _⟩ (xdec_at tX3_sign_0 22 rfl) ?_
        rw [sgn_min (h := h) (by omega)]
        have hhn : h = n := by have := (nI_ltI (a := h) (b := n) (by omega) (by omega)); exact Nat.le_antisymm hle (Nat.not_lt.mp (fun z => c_27 (this.mpr z)))
        rw [show nI (2 * h) = nI (2 * n) by rw [hhn]]
        have hg1 := hce c_4 hhn
        have hn1 := h1n c_4
        refine v_callSO X mJcopyOf [.ref (lay (31, t)), .int (nI (2 * n))] [.ref (lay (30, t))] (kyJ7_copyOf_59c91 l Z B0 lay C (31, t) (200, 0) n (2 * n) g h31 hr2 (by omega) (by omega)) (xw_at tW_10 19 rfl) rfl (by rfl) (Nat.le_of_ble_eq_true rfl) (xdec_at tX3_sign_0 23 rfl) ⟨(Nat.le_of_ble_eq_true rfl), (Nat.le_of_ble_eq_true rfl)⟩ ⟨by show 0 + 1 ≤ ce; omega, by show 0 + 2 * n ≤ sl; omega⟩ ?_
        rintro v9 lay1 C9 ⟨a, hlay1, rfl, rfl⟩
        obtain ⟨lay0, hl0⟩ : ∃ z, z = lay := ⟨_, rfl⟩
        rw [← hl0] at hlay1 hf6 hf13 h9l
        refine v_le (lv' := [some (.ref (lay1 (30, t)))]) (by simp [xle, hlay1, xlay, hl0]) ?_
        have h30l : lay (30, t) = lay1 (30, t) := by rw [hlay1, hl0]; exact (if_neg (fun z => by cases z)).symm
        rw [h30l]
        refine x_put (C' := (xup (xup C (200, 0) (.inl (Z.2 0, 2 * n, .inl (fun b => if b < n then g b else 0)))) (30, t) (.inr (3, (updV f 13 (.ref a)))))) X hinX3 tyX3 tyX3_ok nmX3 (30, t) (by rw [xup_ne _ _ (fun z => by cases z)]; exact h30) rfl 13 (by decide) (xw_at tW_13 7 rfl) rfl rfl rfl rfl rfl (fun j => rfl) (xdec_at tX3_sign_0 24 rfl) ?_
        refine v_ren (lay' := xlay lay0 (31, t) a) (C' := (xup (xup C (31, t) (.inl (Z.2 0, 2 * n, .inl (fun b => if b < n then g b else 0)))) (30, t) (.inr (3, (updV f 13 (.ref a)))))) (31, t) (200, 0) (sgn_ren hr2 hlay1) ?_
        obtain ⟨lay, hlay⟩ : ∃ z, z = xlay lay0 (31, t) a := ⟨_, rfl⟩
        rw [← hlay]
        refine v_le (lv' := [some (.ref (lay (30, t)))]) (by simp [xle, hlay, hlay1, xlay]) ?_
        have hla : a = lay (31, t) := by rw [hlay]; exact (if_pos rfl).symm
        have hf6b : f 6 = .ref (lay (10, i)) := by rw [hf6, hlay]; exact congrArg Value.ref (if_neg (fun z => by cases z)).symm
        refine v_aload_n X (xdec_at tX3_sign_0 25 rfl) rfl rfl ?_
        refine x_get (v := .ref (lay (31, t))) X hinX3 (30, t) (xup_at _ _ _) rfl 13 (by decide) (xw_at tW_13 7 rfl) rfl rfl (by rw [← hla]; rfl) (xdec_at tX3_sign_0 26 rfl) ?_
        refine v_aload_n X (xdec_at tX3_sign_0 27 rfl) rfl rfl ?_
        refine x_get (v := .int (nI h)) X hinX3 (30, t) (xup_at _ _ _) rfl 14 (by decide) (xw_at tW_13 9 rfl) rfl rfl hf14 (xdec_at tX3_sign_0 28 rfl) ?_
        refine v_aload_n X (xdec_at tX3_sign_0 29 rfl) rfl rfl ?_
        refine x_get (v := .ref (lay (10, i))) X hinX3 (30, t) (xup_at _ _ _) rfl 6 (by decide) (xw_at tW_12 33 rfl) rfl rfl hf6b (xdec_at tX3_sign_0 30 rfl) ?_
        refine x_get (v := .int (nI i)) X hinX1 (10, i) (by rw [xup_ne _ _ (fun z => by cases z), xup_ne _ _ (fun z => by cases z)]; exact hp) rfl 0 (by decide) (xw_at tW_7 5 rfl) rfl rfl hp0 (xdec_at tX3_sign_0 31 rfl) ?_
        refine x_iast (C' := (xup (xup C (31, t) (.inl (Z.2 0, (2 * n), .inl (upd (fun b => if b < n then g b else 0) h (nI i))))) (30, t) (.inr (3, (updV f 13 (.ref a)))))) X (31, t) (by rw [xup_ne _ _ (fun z => by cases z)]; exact xup_at _ _ _) (vp_in_nI (by omega) (by omega)) rfl (fun j => by rw [show (nI h).toNatClampNeg = h from ix_nI (by omega)]; exact sgn_st j) (xdec_at tX3_sign_0 32 rfl) ?_
        refine v_aload_n X (xdec_at tX3_sign_0 33 rfl) rfl rfl ?_
        refine v_dup X (xdec_at tX3_sign_0 34 rfl) rfl ?_
        refine x_get (v := .int (nI h)) X hinX3 (30, t) (xup_at _ _ _) rfl 14 (by decide) (xw_at tW_13 9 rfl) rfl rfl hf14 (xdec_at tX3_sign_0 35 rfl) ?_
        refine v_iconst (v := 1) X (xdec_at tX3_sign_0 36 rfl) (by decide) ?_
        refine v_iadd X (xdec_at tX3_sign_0 37 rfl) ?_
        refine v_st (st' := [.int (nI (h + 1)), .ref (lay (30, t))]) (by rw [nI_1]) ?_
        refine x_put (C' := (xup (xup C (31, t) (.inl (Z.2 0, (2 * n), .inl (upd (fun b => if b < n then g b else 0) h (nI i))))) (30, t) (.inr (3, (updV (updV f 13 (.ref a)) 14 (.int (nI (h + 1)))))))) X hinX3 tyX3 tyX3_ok nmX3 (30, t) (xup_at _ _ _) rfl 14 (by decide) (xw_at tW_13 9 rfl) rfl rfl rfl rfl rfl (fun j => by first | rfl | rw [xup_xup]) (xdec_at tX3_sign_0 38 rfl) ?_
        exact v_vret X hr (xdec_at tX3_sign_0 39 rfl) (by show 0 + 1 ≤ ce; omega) (by show 0 + 2 * n ≤ sl; omega) ⟨rfl, Or.inr (Or.inr ⟨c_4, hhn, a, by rw [hlay, hl0], rfl⟩)⟩
    · exact absurd (by rw [n8192]; exact (nI_ltI (by omega) (by omega)).mpr (by omega)) c_14
