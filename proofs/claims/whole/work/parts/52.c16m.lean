/-! constructors: the reference -/
def fMn (lay : xK → Nat) (n : Nat) : Nat → Value := fun j => if mSc j = true then .int 0 else if j < n ∨ 39 ≤ j then .ref (lay (100, j + 1)) else .null
def cMn (Z : xZ) (lay : xK → Nat) (n : Nat) (r : xK → Option xE) : xK → Option xE := fun k => if k.1 = 100 then (if k.2 = 0 then some (.inr (5, fMn lay n)) else if k.2 ≤ 39 ∧ mSc (k.2 - 1) = false ∧ k.2 - 1 < n then some (aM Z μ0 (k.2 - 1)) else none) else r k
theorem cMn_0 {Z : xZ} {lay : xK → Nat} {n : Nat} {r : xK → Option xE} : cMn Z lay n r (100, 0) = some (.inr (5, fMn lay n)) := rfl
theorem cMn_n {Z : xZ} {lay : xK → Nat} {n : Nat} {r : xK → Option xE} : cMn Z lay n r (100, n + 1) = none := by
  unfold cMn
  rw [if_pos rfl, if_neg (Nat.succ_ne_zero n), if_neg]
  rintro ⟨-, -, h⟩
  dsimp only at h
  omega
theorem cMn_skip {Z : xZ} {lay : xK → Nat} {n : Nat} {r : xK → Option xE} (h : mSc n = true) : cMn Z lay n r = cMn Z lay (n + 1) r := by
  have ef : fMn lay n = fMn lay (n + 1) := by
    funext j
    unfold fMn
    by_cases hj : mSc j = true
    · rw [if_pos hj, if_pos hj]
    · have : j ≠ n := fun z => hj (by rw [z]; exact h)
      rw [if_neg hj, if_neg hj]
      by_cases c : j < n ∨ 39 ≤ j
      · rw [if_pos c, if_pos (by omega)]
      · rw [if_neg c, if_neg (by omega)]
  funext ⟨a, b⟩
  unfold cMn
  rw [ef]
  dsimp only
  by_cases ha : a = 100
  · rw [if_pos ha, if_pos ha]
    by_cases hb : b = 0
    · rw [if_pos hb, if_pos hb]
    · rw [if_neg hb, if_neg hb]
      by_cases c : b ≤ 39 ∧ mSc (b - 1) = false ∧ b - 1 < n
      · rw [if_pos c, if_pos ⟨c.1, c.2.1, by omega⟩]
      · rw [if_neg c, if_neg]
        rintro ⟨c1, c2, c3⟩
        have : b - 1 ≠ n := fun z => by rw [z, h] at c2; cases c2
        exact c ⟨c1, c2, by omega⟩
  · rw [if_neg ha, if_neg ha]
theorem cMn_39 {Z : xZ} {lay : xK → Nat} {r : xK → Option xE} : cMn Z lay 39 r = cM Z lay μ0 r := by
  have ef : fMn lay 39 = fM lay μ0 := by
    funext j
    unfold fMn fM
    by_cases hj : mSc j = true
    · rw [if_pos hj, if_pos hj]; rfl
    · rw [if_neg hj, if_neg hj, if_pos (by omega)]
  funext ⟨a, b⟩
  unfold cMn cM
  rw [ef]
  dsimp only
  by_cases ha : a = 100
  · rw [if_pos ha, if_pos ha]
    by_cases hb : b = 0
    · rw [if_pos hb, if_pos hb]
    · rw [if_neg hb, if_neg hb]
      by_cases c : b ≤ 39 ∧ mSc (b - 1) = false
      · rw [if_pos c, if_pos ⟨c.1, c.2, by omega⟩]
      · rw [if_neg c, if_neg (fun z => c ⟨z.1, z.2.1⟩)]
  · rw [if_neg ha, if_neg ha]
theorem cMn_put {Z : xZ} {lay : xK → Nat} {n : Nat} {r : xK → Option xE} {a1 : Nat} {e1 : xE} (hn : n < 39) (hs : mSc n = false) (he : aM Z μ0 n = e1) : ∀ j, cMn Z (xlay lay (100, n + 1) a1) (n + 1) r j = xup (xup (cMn Z lay n r) (100, n + 1) e1) (100, 0) (.inr (5, updV (fMn lay n) n (.ref a1))) j := by
  have ef : fMn (xlay lay (100, n + 1) a1) (n + 1) = updV (fMn lay n) n (.ref a1) := by
    funext j
    unfold fMn updV
    by_cases h : j = n
    · rw [if_pos h, if_neg (by rw [h, hs]; decide), if_pos (by omega), h, xlay_at]
    · rw [if_neg h]
      show _ = (if mSc j = true then Value.int 0 else if j < n ∨ 39 ≤ j then Value.ref (lay (100, j + 1)) else Value.null)
      by_cases hj : mSc j = true
      · rw [if_pos hj, if_pos hj]
      · rw [if_neg hj, if_neg hj, xlay_ne _ _ (by simp [h])]
        by_cases c : j < n ∨ 39 ≤ j
        · rw [if_pos c, if_pos (by omega)]
        · rw [if_neg c, if_neg (by omega)]
  rintro ⟨a, b⟩
  by_cases ha : a = 100
  · subst ha
    by_cases hb : b = 0
    · subst hb; rw [xup_at, cMn_0, ef]
    · rw [xup_ne _ _ (by simp [hb])]
      by_cases hbn : b = n + 1
      · subst hbn
        rw [xup_at]
        unfold cMn
        rw [if_pos rfl, if_neg (Nat.succ_ne_zero n), if_pos ⟨by show n + 1 ≤ 39; omega, by rw [Nat.add_sub_cancel]; exact hs, by show n + 1 - 1 < n + 1; omega⟩, Nat.add_sub_cancel, he]
      · rw [xup_ne _ _ (by simp [hbn])]
        unfold cMn
        dsimp only
        rw [if_pos rfl, if_pos rfl, if_neg hb, if_neg hb]
        by_cases c : b ≤ 39 ∧ mSc (b - 1) = false ∧ b - 1 < n
        · rw [if_pos c, if_pos ⟨c.1, c.2.1, by omega⟩]
        · rw [if_neg c, if_neg (fun z => c ⟨z.1, z.2.1, by omega⟩)]
  · rw [xup_ne _ _ (by simp [ha]), xup_ne _ _ (by simp [ha])]
    unfold cMn
    dsimp only
    rw [if_neg ha, if_neg ha]
section XMM
variable {p : Program} {l : Launch} {e : Env} {R : Room} {s : State} {m : MethodId} {args : Array Value} {below : List Frame} {meth : Method} {c : Code} {Q : State → Prop} {Z : xZ} {B0 nL : Nat} {lay : xK → Nat} {r : xK → Option xE} {cells slots pc : Nat} {lv : List (Option Value)} {rest : List Value} {cc : ByteArray}
theorem q_newi (X : Cx p m meth c cc nL s args RX5 Z B0) (hin2 : meth.name = "<init>") (j : Nat) (hj : j < 39) (hs : mSc j = false) (hT1 : mTy j = 0) (hT : tyX5 j = .array .int) {n : Int32} (hn : ¬ n < 0) (hN : ix n = mLen j) (hb : mLen j * 4 ≤ 536870912) {a0 : Nat} (h0 : lay (100, 0) = a0) {i2 : Nat} (hi2 : mIx j = i2) (hR : cells + 1 ≤ R.cells ∧ slots + mLen j ≤ R.slots) (hdg : decode cc pc = .ok (.newarray .int, 2)) (hdg2 : decode cc (pc + 2) = .ok (.putfield i2, 3)) (kk : ∀ lay', lay' (100, 0) = a0 → (∀ k : xK, k.1 ≠ 100 → lay' k = lay k) → V p l e R s m args below meth c Q Z B0 nL lay' (cMn Z lay' (j + 1) r) (cells + 1) (slots + mLen j) (pc + 2 + 3) lv rest) : V p l e R s m args below meth c Q Z B0 nL lay (cMn Z lay j r) cells slots pc lv (.int n :: .ref a0 :: rest) := by
  subst hi2
  refine x_newi X (100, j + 1) cMn_n hn hN hb hR hdg fun a1 _ => ?_
  have e0 : xlay lay (100, j + 1) a1 (100, 0) = a0 := (xlay_ne _ _ (by simp)).trans h0
  exact x_putF (C' := cMn Z (xlay lay (100, j + 1) a1) (j + 1) r) X hinX5 tyX5 tyX5_ok nmX5 (100, 0) ((xup_ne _ _ (by simp)).trans cMn_0) rfl j hj (mLk j hj) (mRf j hj) (mFinA j hj hs) hin2 (mRf j hj).symm (by rw [hT]; rfl) (by rw [hT]; rfl) e0 (cMn_put hj hs (by rw [aM, if_neg (by rw [hT1]; decide), if_neg (by rw [hT1]; decide)]; rfl)) hdg2 (kk _ e0 (fun k hk => xlay_ne _ _ (fun z => hk (by rw [z]))))
theorem q_newl (X : Cx p m meth c cc nL s args RX5 Z B0) (hin2 : meth.name = "<init>") (j : Nat) (hj : j < 39) (hs : mSc j = false) (hT1 : mTy j = 1) (hT : tyX5 j = .array .long) {n : Int32} (hn : ¬ n < 0) (hN : ix n = mLen j) (hb : mLen j * 8 ≤ 536870912) {a0 : Nat} (h0 : lay (100, 0) = a0) {i2 : Nat} (hi2 : mIx j = i2) (hR : cells + 1 ≤ R.cells ∧ slots + mLen j ≤ R.slots) (hdg : decode cc pc = .ok (.newarray .long, 2)) (hdg2 : decode cc (pc + 2) = .ok (.putfield i2, 3)) (kk : ∀ lay', lay' (100, 0) = a0 → (∀ k : xK, k.1 ≠ 100 → lay' k = lay k) → V p l e R s m args below meth c Q Z B0 nL lay' (cMn Z lay' (j + 1) r) (cells + 1) (slots + mLen j) (pc + 2 + 3) lv rest) : V p l e R s m args below meth c Q Z B0 nL lay (cMn Z lay j r) cells slots pc lv (.int n :: .ref a0 :: rest) := by
  subst hi2
  refine x_newl X (100, j + 1) cMn_n hn hN hb hR hdg fun a1 _ => ?_
  have e0 : xlay lay (100, j + 1) a1 (100, 0) = a0 := (xlay_ne _ _ (by simp)).trans h0
  exact x_putF (C' := cMn Z (xlay lay (100, j + 1) a1) (j + 1) r) X hinX5 tyX5 tyX5_ok nmX5 (100, 0) ((xup_ne _ _ (by simp)).trans cMn_0) rfl j hj (mLk j hj) (mRf j hj) (mFinA j hj hs) hin2 (mRf j hj).symm (by rw [hT]; rfl) (by rw [hT]; rfl) e0 (cMn_put hj hs (by rw [aM, if_pos hT1]; rfl)) hdg2 (kk _ e0 (fun k hk => xlay_ne _ _ (fun z => hk (by rw [z]))))
theorem q_newz (X : Cx p m meth c cc nL s args RX5 Z B0) (hin2 : meth.name = "<init>") (j : Nat) (hj : j < 39) (hs : mSc j = false) (hT1 : mTy j = 2) (hT : tyX5 j = .array .boolean) {n : Int32} (hn : ¬ n < 0) (hN : ix n = mLen j) (hb : mLen j * 1 ≤ 536870912) {a0 : Nat} (h0 : lay (100, 0) = a0) {i2 : Nat} (hi2 : mIx j = i2) (hR : cells + 1 ≤ R.cells ∧ slots + mLen j ≤ R.slots) (hdg : decode cc pc = .ok (.newarray .boolean, 2)) (hdg2 : decode cc (pc + 2) = .ok (.putfield i2, 3)) (kk : ∀ lay', lay' (100, 0) = a0 → (∀ k : xK, k.1 ≠ 100 → lay' k = lay k) → V p l e R s m args below meth c Q Z B0 nL lay' (cMn Z lay' (j + 1) r) (cells + 1) (slots + mLen j) (pc + 2 + 3) lv rest) : V p l e R s m args below meth c Q Z B0 nL lay (cMn Z lay j r) cells slots pc lv (.int n :: .ref a0 :: rest) := by
  subst hi2
  refine x_newz X (100, j + 1) cMn_n hn hN hb hR hdg fun a1 _ => ?_
  have e0 : xlay lay (100, j + 1) a1 (100, 0) = a0 := (xlay_ne _ _ (by simp)).trans h0
  exact x_putF (C' := cMn Z (xlay lay (100, j + 1) a1) (j + 1) r) X hinX5 tyX5 tyX5_ok nmX5 (100, 0) ((xup_ne _ _ (by simp)).trans cMn_0) rfl j hj (mLk j hj) (mRf j hj) (mFinA j hj hs) hin2 (mRf j hj).symm (by rw [hT]; rfl) (by rw [hT]; rfl) e0 (cMn_put hj hs (by rw [aM, if_neg (by rw [hT1]; decide), if_pos hT1]; rfl)) hdg2 (kk _ e0 (fun k hk => xlay_ne _ _ (fun z => hk (by rw [z]))))
end XMM
set_option maxRecDepth 100000 in
set_option maxHeartbeats 4000000 in
theorem kyX5_init (l : Launch) (Z : xZ) (B0 : Nat) (lay : xK → Nat) (r : xK → Option xE) : YM l yX5_init cX5_init 1 (none : Option FieldType) 1 30 33 160907 Z B0 [.ref (lay (100, 0))] lay (cMn Z lay 0 r) (fun v9 lay' C' => v9 = none ∧ lay' (100, 0) = lay (100, 0) ∧ (∀ k : xK, k.1 ≠ 100 → lay' k = lay k) ∧ C' = cM Z lay' μ0 r) := by
  refine YM_of myX5_init.2.2 RX5 rfl [some (.ref (lay (100, 0)))] rfl (Nat.le_of_ble_eq_true rfl) ?_
  intro P1 P2 P3 P4 P5 P6 P7 P8 X hr hnm
  obtain ⟨a0, h0⟩ : ∃ a0, lay (100, 0) = a0 := ⟨_, rfl⟩
  rw [h0]
  obtain ⟨layo, hlo⟩ : ∃ z, z = lay := ⟨_, rfl⟩
  have hk0 : ∀ k : xK, k.1 ≠ 100 → lay k = layo k := fun k _ => by rw [hlo]
  refine v_aload_n X (xdec_at tX5_init_0 0 rfl) rfl rfl ?_
  refine v_objInit X (xw_at tW_15 22 rfl) ⟨(Nat.le_of_ble_eq_true rfl), (Nat.le_of_ble_eq_true rfl)⟩ (xdec_at tX5_init_0 1 rfl) ?_
  rw [cMn_skip (n := 0) rfl]
  refine v_aload_n X (xdec_at tX5_init_0 2 rfl) rfl rfl ?_
  refine v_bipush (v := 24) X (xdec_at tX5_init_0 3 rfl) (by decide) ?_
  refine q_newi X hnm 1 (by decide) rfl rfl rfl (by decide) (by decide) (by decide) h0 rfl ⟨(Nat.le_of_ble_eq_true rfl), (Nat.le_of_ble_eq_true rfl)⟩ (xdec_at tX5_init_0 4 rfl) (xdec_at tX5_init_0 5 rfl) fun lay1 h1 g1 => ?_
  have hk1 : ∀ k : xK, k.1 ≠ 100 → lay1 k = layo k := fun k hk => (g1 k hk).trans (hk0 k hk)
  refine v_aload_n X (xdec_at tX5_init_0 6 rfl) rfl rfl ?_
  refine v_bipush (v := 24) X (xdec_at tX5_init_0 7 rfl) (by decide) ?_
  refine q_newi X hnm 2 (by decide) rfl rfl rfl (by decide) (by decide) (by decide) h1 rfl ⟨(Nat.le_of_ble_eq_true rfl), (Nat.le_of_ble_eq_true rfl)⟩ (xdec_at tX5_init_0 8 rfl) (xdec_at tX5_init_0 9 rfl) fun lay2 h2 g2 => ?_
  have hk2 : ∀ k : xK, k.1 ≠ 100 → lay2 k = layo k := fun k hk => (g2 k hk).trans (hk1 k hk)
  refine v_aload_n X (xdec_at tX5_init_0 10 rfl) rfl rfl ?_
  refine v_bipush (v := 24) X (xdec_at tX5_init_0 11 rfl) (by decide) ?_
  refine q_newi X hnm 3 (by decide) rfl rfl rfl (by decide) (by decide) (by decide) h2 rfl ⟨(Nat.le_of_ble_eq_true rfl), (Nat.le_of_ble_eq_true rfl)⟩ (xdec_at tX5_init_0 12 rfl) (xdec_at tX5_init_0 13 rfl) fun lay3 h3 g3 => ?_
  have hk3 : ∀ k : xK, k.1 ≠ 100 → lay3 k = layo k := fun k hk => (g3 k hk).trans (hk2 k hk)
  refine v_aload_n X (xdec_at tX5_init_0 14 rfl) rfl rfl ?_
  refine v_bipush (v := 8) X (xdec_at tX5_init_0 15 rfl) (by decide) ?_
  refine q_newi X hnm 4 (by decide) rfl rfl rfl (by decide) (by decide) (by decide) h3 rfl ⟨(Nat.le_of_ble_eq_true rfl), (Nat.le_of_ble_eq_true rfl)⟩ (xdec_at tX5_init_0 16 rfl) (xdec_at tX5_init_0 17 rfl) fun lay4 h4 g4 => ?_
  have hk4 : ∀ k : xK, k.1 ≠ 100 → lay4 k = layo k := fun k hk => (g4 k hk).trans (hk3 k hk)
  refine v_aload_n X (xdec_at tX5_init_0 18 rfl) rfl rfl ?_
  refine v_bipush (v := 8) X (xdec_at tX5_init_0 19 rfl) (by decide) ?_
  refine q_newi X hnm 5 (by decide) rfl rfl rfl (by decide) (by decide) (by decide) h4 rfl ⟨(Nat.le_of_ble_eq_true rfl), (Nat.le_of_ble_eq_true rfl)⟩ (xdec_at tX5_init_0 20 rfl) (xdec_at tX5_init_0 21 rfl) fun lay5 h5 g5 => ?_
  have hk5 : ∀ k : xK, k.1 ≠ 100 → lay5 k = layo k := fun k hk => (g5 k hk).trans (hk4 k hk)
  refine v_aload_n X (xdec_at tX5_init_0 22 rfl) rfl rfl ?_
  refine v_bipush (v := 8) X (xdec_at tX5_init_0 23 rfl) (by decide) ?_
  refine q_newz X hnm 6 (by decide) rfl rfl rfl (by decide) (by decide) (by decide) h5 rfl ⟨(Nat.le_of_ble_eq_true rfl), (Nat.le_of_ble_eq_true rfl)⟩ (xdec_at tX5_init_0 24 rfl) (xdec_at tX5_init_0 25 rfl) fun lay6 h6 g6 => ?_
  have hk6 : ∀ k : xK, k.1 ≠ 100 → lay6 k = layo k := fun k hk => (g6 k hk).trans (hk5 k hk)
  refine v_aload_n X (xdec_at tX5_init_0 26 rfl) rfl rfl ?_
  refine v_bipush (v := 8) X (xdec_at tX5_init_0 27 rfl) (by decide) ?_
  refine q_newl X hnm 7 (by decide) rfl rfl rfl (by decide) (by decide) (by decide) h6 rfl ⟨(Nat.le_of_ble_eq_true rfl), (Nat.le_of_ble_eq_true rfl)⟩ (xdec_at tX5_init_0 28 rfl) (xdec_at tX5_init_0 29 rfl) fun lay7 h7 g7 => ?_
  have hk7 : ∀ k : xK, k.1 ≠ 100 → lay7 k = layo k := fun k hk => (g7 k hk).trans (hk6 k hk)
  refine v_aload_n X (xdec_at tX5_init_0 30 rfl) rfl rfl ?_
  refine v_bipush (v := 8) X (xdec_at tX5_init_0 31 rfl) (by decide) ?_
  refine q_newl X hnm 8 (by decide) rfl rfl rfl (by decide) (by decide) (by decide) h7 rfl ⟨(Nat.le_of_ble_eq_true rfl), (Nat.le_of_ble_eq_true rfl)⟩ (xdec_at tX5_init_0 32 rfl) (xdec_at tX5_init_0 33 rfl) fun lay8 h8 g8 => ?_
  have hk8 : ∀ k : xK, k.1 ≠ 100 → lay8 k = layo k := fun k hk => (g8 k hk).trans (hk7 k hk)
  refine v_aload_n X (xdec_at tX5_init_0 34 rfl) rfl rfl ?_
  refine v_bipush (v := 64) X (xdec_at tX5_init_0 35 rfl) (by decide) ?_
  refine q_newl X hnm 9 (by decide) rfl rfl rfl (by decide) (by decide) (by decide) h8 rfl ⟨(Nat.le_of_ble_eq_true rfl), (Nat.le_of_ble_eq_true rfl)⟩ (xdec_at tX5_init_0 36 rfl) (xdec_at tX5_init_0 37 rfl) fun lay9 h9 g9 => ?_
  have hk9 : ∀ k : xK, k.1 ≠ 100 → lay9 k = layo k := fun k hk => (g9 k hk).trans (hk8 k hk)
  rw [cMn_skip (n := 10) rfl]
  refine v_aload_n X (xdec_at tX5_init_0 38 rfl) rfl rfl ?_
  refine v_bipush (v := 20) X (xdec_at tX5_init_0 39 rfl) (by decide) ?_
  refine q_newi X hnm 11 (by decide) rfl rfl rfl (by decide) (by decide) (by decide) h9 rfl ⟨(Nat.le_of_ble_eq_true rfl), (Nat.le_of_ble_eq_true rfl)⟩ (xdec_at tX5_init_1 0 rfl) (xdec_at tX5_init_1 1 rfl) fun lay10 h10 g10 => ?_
  have hk10 : ∀ k : xK, k.1 ≠ 100 → lay10 k = layo k := fun k hk => (g10 k hk).trans (hk9 k hk)
  refine v_aload_n X (xdec_at tX5_init_1 2 rfl) rfl rfl ?_
  refine v_bipush (v := 20) X (xdec_at tX5_init_1 3 rfl) (by decide) ?_
  refine q_newi X hnm 12 (by decide) rfl rfl rfl (by decide) (by decide) (by decide) h10 rfl ⟨(Nat.le_of_ble_eq_true rfl), (Nat.le_of_ble_eq_true rfl)⟩ (xdec_at tX5_init_1 4 rfl) (xdec_at tX5_init_1 5 rfl) fun lay11 h11 g11 => ?_
  have hk11 : ∀ k : xK, k.1 ≠ 100 → lay11 k = layo k := fun k hk => (g11 k hk).trans (hk10 k hk)
  refine v_aload_n X (xdec_at tX5_init_1 6 rfl) rfl rfl ?_
  refine v_bipush (v := 20) X (xdec_at tX5_init_1 7 rfl) (by decide) ?_
  refine q_newi X hnm 13 (by decide) rfl rfl rfl (by decide) (by decide) (by decide) h11 rfl ⟨(Nat.le_of_ble_eq_true rfl), (Nat.le_of_ble_eq_true rfl)⟩ (xdec_at tX5_init_1 8 rfl) (xdec_at tX5_init_1 9 rfl) fun lay12 h12 g12 => ?_
  have hk12 : ∀ k : xK, k.1 ≠ 100 → lay12 k = layo k := fun k hk => (g12 k hk).trans (hk11 k hk)
  refine v_aload_n X (xdec_at tX5_init_1 10 rfl) rfl rfl ?_
  refine v_bipush (v := 20) X (xdec_at tX5_init_1 11 rfl) (by decide) ?_
  refine q_newz X hnm 14 (by decide) rfl rfl rfl (by decide) (by decide) (by decide) h12 rfl ⟨(Nat.le_of_ble_eq_true rfl), (Nat.le_of_ble_eq_true rfl)⟩ (xdec_at tX5_init_1 12 rfl) (xdec_at tX5_init_1 13 rfl) fun lay13 h13 g13 => ?_
  have hk13 : ∀ k : xK, k.1 ≠ 100 → lay13 k = layo k := fun k hk => (g13 k hk).trans (hk12 k hk)
  refine v_aload_n X (xdec_at tX5_init_1 14 rfl) rfl rfl ?_
  refine v_bipush (v := 8) X (xdec_at tX5_init_1 15 rfl) (by decide) ?_
  refine q_newi X hnm 15 (by decide) rfl rfl rfl (by decide) (by decide) (by decide) h13 rfl ⟨(Nat.le_of_ble_eq_true rfl), (Nat.le_of_ble_eq_true rfl)⟩ (xdec_at tX5_init_1 16 rfl) (xdec_at tX5_init_1 17 rfl) fun lay14 h14 g14 => ?_
  have hk14 : ∀ k : xK, k.1 ≠ 100 → lay14 k = layo k := fun k hk => (g14 k hk).trans (hk13 k hk)
  rw [cMn_skip (n := 16) rfl]
  refine v_aload_n X (xdec_at tX5_init_1 18 rfl) rfl rfl ?_
  refine v_bipush (v := 40) X (xdec_at tX5_init_1 19 rfl) (by decide) ?_
  refine q_newi X hnm 17 (by decide) rfl rfl rfl (by decide) (by decide) (by decide) h14 rfl ⟨(Nat.le_of_ble_eq_true rfl), (Nat.le_of_ble_eq_true rfl)⟩ (xdec_at tX5_init_1 20 rfl) (xdec_at tX5_init_1 21 rfl) fun lay15 h15 g15 => ?_
  have hk15 : ∀ k : xK, k.1 ≠ 100 → lay15 k = layo k := fun k hk => (g15 k hk).trans (hk14 k hk)
  refine v_aload_n X (xdec_at tX5_init_1 22 rfl) rfl rfl ?_
  refine v_bipush (v := 40) X (xdec_at tX5_init_1 23 rfl) (by decide) ?_
  refine q_newi X hnm 18 (by decide) rfl rfl rfl (by decide) (by decide) (by decide) h15 rfl ⟨(Nat.le_of_ble_eq_true rfl), (Nat.le_of_ble_eq_true rfl)⟩ (xdec_at tX5_init_1 24 rfl) (xdec_at tX5_init_1 25 rfl) fun lay16 h16 g16 => ?_
  have hk16 : ∀ k : xK, k.1 ≠ 100 → lay16 k = layo k := fun k hk => (g16 k hk).trans (hk15 k hk)
  refine v_aload_n X (xdec_at tX5_init_1 26 rfl) rfl rfl ?_
  refine v_bipush (v := 40) X (xdec_at tX5_init_1 27 rfl) (by decide) ?_
  refine q_newi X hnm 19 (by decide) rfl rfl rfl (by decide) (by decide) (by decide) h16 rfl ⟨(Nat.le_of_ble_eq_true rfl), (Nat.le_of_ble_eq_true rfl)⟩ (xdec_at tX5_init_1 28 rfl) (xdec_at tX5_init_1 29 rfl) fun lay17 h17 g17 => ?_
  have hk17 : ∀ k : xK, k.1 ≠ 100 → lay17 k = layo k := fun k hk => (g17 k hk).trans (hk16 k hk)
  refine v_aload_n X (xdec_at tX5_init_1 30 rfl) rfl rfl ?_
  refine v_bipush (v := 40) X (xdec_at tX5_init_1 31 rfl) (by decide) ?_
  refine q_newi X hnm 20 (by decide) rfl rfl rfl (by decide) (by decide) (by decide) h17 rfl ⟨(Nat.le_of_ble_eq_true rfl), (Nat.le_of_ble_eq_true rfl)⟩ (xdec_at tX5_init_1 32 rfl) (xdec_at tX5_init_1 33 rfl) fun lay18 h18 g18 => ?_
  have hk18 : ∀ k : xK, k.1 ≠ 100 → lay18 k = layo k := fun k hk => (g18 k hk).trans (hk17 k hk)
  refine v_aload_n X (xdec_at tX5_init_1 34 rfl) rfl rfl ?_
  refine v_bipush (v := 40) X (xdec_at tX5_init_1 35 rfl) (by decide) ?_
  refine q_newz X hnm 21 (by decide) rfl rfl rfl (by decide) (by decide) (by decide) h18 rfl ⟨(Nat.le_of_ble_eq_true rfl), (Nat.le_of_ble_eq_true rfl)⟩ (xdec_at tX5_init_1 36 rfl) (xdec_at tX5_init_1 37 rfl) fun lay19 h19 g19 => ?_
  have hk19 : ∀ k : xK, k.1 ≠ 100 → lay19 k = layo k := fun k hk => (g19 k hk).trans (hk18 k hk)
  refine v_aload_n X (xdec_at tX5_init_1 38 rfl) rfl rfl ?_
  refine v_bipush (v := 40) X (xdec_at tX5_init_1 39 rfl) (by decide) ?_
  refine q_newi X hnm 22 (by decide) rfl rfl rfl (by decide) (by decide) (by decide) h19 rfl ⟨(Nat.le_of_ble_eq_true rfl), (Nat.le_of_ble_eq_true rfl)⟩ (xdec_at tX5_init_2 0 rfl) (xdec_at tX5_init_2 1 rfl) fun lay20 h20 g20 => ?_
  have hk20 : ∀ k : xK, k.1 ≠ 100 → lay20 k = layo k := fun k hk => (g20 k hk).trans (hk19 k hk)
  refine v_aload_n X (xdec_at tX5_init_2 2 rfl) rfl rfl ?_
  refine v_bipush (v := 40) X (xdec_at tX5_init_2 3 rfl) (by decide) ?_
  refine q_newi X hnm 23 (by decide) rfl rfl rfl (by decide) (by decide) (by decide) h20 rfl ⟨(Nat.le_of_ble_eq_true rfl), (Nat.le_of_ble_eq_true rfl)⟩ (xdec_at tX5_init_2 4 rfl) (xdec_at tX5_init_2 5 rfl) fun lay21 h21 g21 => ?_
  have hk21 : ∀ k : xK, k.1 ≠ 100 → lay21 k = layo k := fun k hk => (g21 k hk).trans (hk20 k hk)
  refine v_aload_n X (xdec_at tX5_init_2 6 rfl) rfl rfl ?_
  refine v_bipush (v := 40) X (xdec_at tX5_init_2 7 rfl) (by decide) ?_
  refine q_newi X hnm 24 (by decide) rfl rfl rfl (by decide) (by decide) (by decide) h21 rfl ⟨(Nat.le_of_ble_eq_true rfl), (Nat.le_of_ble_eq_true rfl)⟩ (xdec_at tX5_init_2 8 rfl) (xdec_at tX5_init_2 9 rfl) fun lay22 h22 g22 => ?_
  have hk22 : ∀ k : xK, k.1 ≠ 100 → lay22 k = layo k := fun k hk => (g22 k hk).trans (hk21 k hk)
  refine v_aload_n X (xdec_at tX5_init_2 10 rfl) rfl rfl ?_
  refine v_bipush (v := 40) X (xdec_at tX5_init_2 11 rfl) (by decide) ?_
  refine q_newi X hnm 25 (by decide) rfl rfl rfl (by decide) (by decide) (by decide) h22 rfl ⟨(Nat.le_of_ble_eq_true rfl), (Nat.le_of_ble_eq_true rfl)⟩ (xdec_at tX5_init_2 12 rfl) (xdec_at tX5_init_2 13 rfl) fun lay23 h23 g23 => ?_
  have hk23 : ∀ k : xK, k.1 ≠ 100 → lay23 k = layo k := fun k hk => (g23 k hk).trans (hk22 k hk)
  refine v_aload_n X (xdec_at tX5_init_2 14 rfl) rfl rfl ?_
  refine v_bipush (v := 40) X (xdec_at tX5_init_2 15 rfl) (by decide) ?_
  refine q_newi X hnm 26 (by decide) rfl rfl rfl (by decide) (by decide) (by decide) h23 rfl ⟨(Nat.le_of_ble_eq_true rfl), (Nat.le_of_ble_eq_true rfl)⟩ (xdec_at tX5_init_2 16 rfl) (xdec_at tX5_init_2 17 rfl) fun lay24 h24 g24 => ?_
  have hk24 : ∀ k : xK, k.1 ≠ 100 → lay24 k = layo k := fun k hk => (g24 k hk).trans (hk23 k hk)
  refine v_aload_n X (xdec_at tX5_init_2 18 rfl) rfl rfl ?_
  refine v_bipush (v := 40) X (xdec_at tX5_init_2 19 rfl) (by decide) ?_
  refine q_newz X hnm 27 (by decide) rfl rfl rfl (by decide) (by decide) (by decide) h24 rfl ⟨(Nat.le_of_ble_eq_true rfl), (Nat.le_of_ble_eq_true rfl)⟩ (xdec_at tX5_init_2 20 rfl) (xdec_at tX5_init_2 21 rfl) fun lay25 h25 g25 => ?_
  have hk25 : ∀ k : xK, k.1 ≠ 100 → lay25 k = layo k := fun k hk => (g25 k hk).trans (hk24 k hk)
  refine v_aload_n X (xdec_at tX5_init_2 22 rfl) rfl rfl ?_
  refine v_bipush (v := 40) X (xdec_at tX5_init_2 23 rfl) (by decide) ?_
  refine q_newz X hnm 28 (by decide) rfl rfl rfl (by decide) (by decide) (by decide) h25 rfl ⟨(Nat.le_of_ble_eq_true rfl), (Nat.le_of_ble_eq_true rfl)⟩ (xdec_at tX5_init_2 24 rfl) (xdec_at tX5_init_2 25 rfl) fun lay26 h26 g26 => ?_
  have hk26 : ∀ k : xK, k.1 ≠ 100 → lay26 k = layo k := fun k hk => (g26 k hk).trans (hk25 k hk)
  refine v_aload_n X (xdec_at tX5_init_2 26 rfl) rfl rfl ?_
  refine v_bipush (v := 40) X (xdec_at tX5_init_2 27 rfl) (by decide) ?_
  refine q_newz X hnm 29 (by decide) rfl rfl rfl (by decide) (by decide) (by decide) h26 rfl ⟨(Nat.le_of_ble_eq_true rfl), (Nat.le_of_ble_eq_true rfl)⟩ (xdec_at tX5_init_2 28 rfl) (xdec_at tX5_init_2 29 rfl) fun lay27 h27 g27 => ?_
  have hk27 : ∀ k : xK, k.1 ≠ 100 → lay27 k = layo k := fun k hk => (g27 k hk).trans (hk26 k hk)
  rw [cMn_skip (n := 30) rfl]
  refine v_aload_n X (xdec_at tX5_init_2 30 rfl) rfl rfl ?_
  refine v_ldc (v := 80000) X (xw_at tW_15 23 rfl) (xdec_at tX5_init_2 31 rfl) ?_
  refine q_newi X hnm 31 (by decide) rfl rfl rfl (by decide) (by decide) (by decide) h27 rfl ⟨(Nat.le_of_ble_eq_true rfl), (Nat.le_of_ble_eq_true rfl)⟩ (xdec_at tX5_init_2 32 rfl) (xdec_at tX5_init_2 33 rfl) fun lay28 h28 g28 => ?_
  have hk28 : ∀ k : xK, k.1 ≠ 100 → lay28 k = layo k := fun k hk => (g28 k hk).trans (hk27 k hk)
  refine v_aload_n X (xdec_at tX5_init_2 34 rfl) rfl rfl ?_
  refine v_ldc (v := 80000) X (xw_at tW_15 23 rfl) (xdec_at tX5_init_2 35 rfl) ?_
  refine q_newi X hnm 32 (by decide) rfl rfl rfl (by decide) (by decide) (by decide) h28 rfl ⟨(Nat.le_of_ble_eq_true rfl), (Nat.le_of_ble_eq_true rfl)⟩ (xdec_at tX5_init_2 36 rfl) (xdec_at tX5_init_2 37 rfl) fun lay29 h29 g29 => ?_
  have hk29 : ∀ k : xK, k.1 ≠ 100 → lay29 k = layo k := fun k hk => (g29 k hk).trans (hk28 k hk)
  refine v_aload_n X (xdec_at tX5_init_2 38 rfl) rfl rfl ?_
  refine v_bipush (v := 40) X (xdec_at tX5_init_2 39 rfl) (by decide) ?_
  refine q_newi X hnm 33 (by decide) rfl rfl rfl (by decide) (by decide) (by decide) h29 rfl ⟨(Nat.le_of_ble_eq_true rfl), (Nat.le_of_ble_eq_true rfl)⟩ (xdec_at tX5_init_3 0 rfl) (xdec_at tX5_init_3 1 rfl) fun lay30 h30 g30 => ?_
  have hk30 : ∀ k : xK, k.1 ≠ 100 → lay30 k = layo k := fun k hk => (g30 k hk).trans (hk29 k hk)
  refine v_aload_n X (xdec_at tX5_init_3 2 rfl) rfl rfl ?_
  refine v_bipush (v := 40) X (xdec_at tX5_init_3 3 rfl) (by decide) ?_
  refine q_newi X hnm 34 (by decide) rfl rfl rfl (by decide) (by decide) (by decide) h30 rfl ⟨(Nat.le_of_ble_eq_true rfl), (Nat.le_of_ble_eq_true rfl)⟩ (xdec_at tX5_init_3 4 rfl) (xdec_at tX5_init_3 5 rfl) fun lay31 h31 g31 => ?_
  have hk31 : ∀ k : xK, k.1 ≠ 100 → lay31 k = layo k := fun k hk => (g31 k hk).trans (hk30 k hk)
  refine v_aload_n X (xdec_at tX5_init_3 6 rfl) rfl rfl ?_
  refine v_bipush (v := 40) X (xdec_at tX5_init_3 7 rfl) (by decide) ?_
  refine q_newi X hnm 35 (by decide) rfl rfl rfl (by decide) (by decide) (by decide) h31 rfl ⟨(Nat.le_of_ble_eq_true rfl), (Nat.le_of_ble_eq_true rfl)⟩ (xdec_at tX5_init_3 8 rfl) (xdec_at tX5_init_3 9 rfl) fun lay32 h32 g32 => ?_
  have hk32 : ∀ k : xK, k.1 ≠ 100 → lay32 k = layo k := fun k hk => (g32 k hk).trans (hk31 k hk)
  rw [cMn_skip (n := 36) rfl]
  refine v_aload_n X (xdec_at tX5_init_3 10 rfl) rfl rfl ?_
  refine v_iconst (v := 3) X (xdec_at tX5_init_3 11 rfl) (by decide) ?_
  refine q_newi X hnm 37 (by decide) rfl rfl rfl (by decide) (by decide) (by decide) h32 rfl ⟨(Nat.le_of_ble_eq_true rfl), (Nat.le_of_ble_eq_true rfl)⟩ (xdec_at tX5_init_3 12 rfl) (xdec_at tX5_init_3 13 rfl) fun lay33 h33 g33 => ?_
  have hk33 : ∀ k : xK, k.1 ≠ 100 → lay33 k = layo k := fun k hk => (g33 k hk).trans (hk32 k hk)
  rw [cMn_skip (n := 38) rfl]
  rw [cMn_39]
  exact v_vret X hr (xdec_at tX5_init_3 14 rfl) (Nat.le_of_ble_eq_true rfl) (Nat.le_of_ble_eq_true rfl) ⟨rfl, h33, fun k hk => by rw [hk33 k hk, hlo], rfl⟩
