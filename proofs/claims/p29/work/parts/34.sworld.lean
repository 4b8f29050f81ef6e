/-! sign in the class's world: hands, their rows' lengths, how much room they take -/
abbrev lyk (lay lay' : xK → Nat) : Prop := ∀ k : xK, k.1 ≠ 31 → lay' k = lay k
theorem fX_l {lay lay' : xK → Nat} (h : lyk lay lay') (μ : Mu) : fX lay' μ = fX lay μ := by
  unfold fX; simp only [h (1, 0) (by decide), h (2, 0) (by decide), h (3, 0) (by decide)]
theorem fR_l {lay lay' : xK → Nat} (h : lyk lay lay') (μ : Mu) : fR lay' μ = fR lay μ := by
  unfold fR; simp only [h (4, 0) (by decide), h (5, 0) (by decide), h (6, 0) (by decide), h (7, 0) (by decide)]
theorem fP_l {lay lay' : xK → Nat} (h : lyk lay lay') (μ : Mu) (i : Nat) : fP lay' μ i = fP lay μ i := by
  unfold fP; simp only [h (11, i) (by show (11 : Nat) ≠ 31; decide), h (12, i) (by show (12 : Nat) ≠ 31; decide), h (13, i) (by show (13 : Nat) ≠ 31; decide), h (14, i) (by show (14 : Nat) ≠ 31; decide)]
theorem ly10 {lay lay' : xK → Nat} (h : lyk lay lay') (i : Nat) : lay' (10, i) = lay (10, i) := h (10, i) (by show (10 : Nat) ≠ 31; decide)
theorem ly20 {lay lay' : xK → Nat} (h : lyk lay lay') (i : Nat) : lay' (20, i) = lay (20, i) := h (20, i) (by show (20 : Nat) ≠ 31; decide)
theorem ly30 {lay lay' : xK → Nat} (h : lyk lay lay') (i : Nat) : lay' (30, i) = lay (30, i) := h (30, i) (by show (30 : Nat) ≠ 31; decide)
theorem fG_l {lay lay' : xK → Nat} (h : lyk lay lay') (μ : Mu) (g : Nat) : fG lay' μ g = fG lay μ g := by
  unfold fG; simp only [ly10 h]
theorem fT_l {lay lay' : xK → Nat} (h : lyk lay lay') (μ : Mu) (t : Nat) (h31 : lay' (31, t) = lay (31, t)) : fT lay' μ t = fT lay μ t := by
  unfold fT tLeg; simp only [ly10 h, ly20 h, h31]
theorem cXl {Z : xZ} {lay lay' : xK → Nat} {μ : Mu} {tb : Tb} {r : xK → Option xE} (h : lyk lay lay') {k : xK} (hk : k.1 = 30 → lay' (31, k.2) = lay (31, k.2)) : cX Z lay' μ tb r k = cX Z lay μ tb r k := by
  unfold cX
  rw [fX_l h, fR_l h]
  simp only [fP_l h, fG_l h, ly10 h, ly20 h, ly30 h]
  by_cases h30 : k.1 = 30
  · simp only [h30, fT_l h μ k.2 (hk h30)]
  · simp only [h30, if_false]
def KT_grow (tb : Tb) (t h : Nat) (v : Int32) : Tb := (tb.1, up2 (fun a b => if a = t ∧ ¬ b < tb.2.2 t then 0 else tb.2.1 a b) t h v, fun a => if a = t then 2 * tb.2.2 t else tb.2.2 a)
def KT_sign (μ : Mu) (tb : Tb) (t : Nat) (v : Int32) : Tb := if μ.1 21 t = 0 then tb else if ix (μ.1 35 t) < tb.2.2 t then (tb.1, up2 tb.2.1 t (ix (μ.1 35 t)) v, tb.2.2) else KT_grow tb t (ix (μ.1 35 t)) v
def KM_sign (μ : Mu) (t : Nat) : Mu := if μ.1 21 t = 0 then μ else (up2 μ.1 35 t (μ.1 35 t + 1), μ.2)
def capS (tb : Tb) : Nat → Nat
  | 0 => 0
  | n + 1 => capS tb n + tb.2.2 n
theorem capS_congr {tb tb' : Tb} (h : tb'.2.2 = tb.2.2) (n : Nat) : capS tb' n = capS tb n := by
  induction n with
  | zero => rfl
  | succ n ih => rw [capS, capS, ih, h]
theorem capS_grow {tb : Tb} {t h : Nat} {v : Int32} : ∀ n, capS (KT_grow tb t h v) n = capS tb n + (if t < n then tb.2.2 t else 0)
  | 0 => by rw [if_neg (by omega)]; rfl
  | n + 1 => by
    rw [capS, capS, capS_grow n]
    show capS tb n + _ + (if n = t then 2 * tb.2.2 t else tb.2.2 n) = _
    by_cases h1 : n = t
    · subst h1; rw [if_neg (by omega), if_pos rfl, if_pos (by omega)]; omega
    · rw [if_neg h1]
      by_cases h2 : t < n
      · rw [if_pos h2, if_pos (by omega)]; omega
      · rw [if_neg h2, if_neg (by omega)]; omega
/-- how long the rows are together -/
def Pp (tb : Tb) : Nat := capS tb 40
theorem Pp_sign {μ : Mu} {tb : Tb} {t : Nat} {v : Int32} (ht : t < 40) : Pp (KT_sign μ tb t v) = Pp tb + (if ¬ μ.1 21 t = 0 ∧ ¬ ix (μ.1 35 t) < tb.2.2 t then tb.2.2 t else 0) := by
  unfold KT_sign Pp
  by_cases h1 : μ.1 21 t = 0
  · rw [if_pos h1, if_neg (fun z => z.1 h1), Nat.add_zero]
  · rw [if_neg h1]
    by_cases h2 : ix (μ.1 35 t) < tb.2.2 t
    · rw [if_pos h2, if_neg (fun z => z.2 h2), Nat.add_zero]
      exact capS_congr rfl 40
    · rw [if_neg h2, if_pos ⟨h1, h2⟩, capS_grow, if_pos ht]
theorem Pp_sign_le {μ : Mu} {tb : Tb} {t : Nat} {v : Int32} (ht : t < 40) : Pp tb ≤ Pp (KT_sign μ tb t v) := by rw [Pp_sign ht]; omega
theorem KT_sign_1 (μ : Mu) (tb : Tb) (t : Nat) (v : Int32) : (KT_sign μ tb t v).1 = tb.1 := by
  unfold KT_sign KT_grow
  split
  · rfl
  · split <;> rfl
theorem grow_world {Z : xZ} {lay : xK → Nat} {μ : Mu} {tb : Tb} {r : xK → Option xE} {t h a : Nat} {v : Int32} (ht : t < nT μ) : xup (xup (cX Z lay μ tb r) (31, t) (.inl (Z.2 0, 2 * tb.2.2 t, .inl (upd (fun b => if b < tb.2.2 t then tb.2.1 t b else 0) h v)))) (30, t) (.inr (3, updV (updV (fT lay μ t) 13 (.ref a)) 14 (.int (nI (h + 1))))) = cX Z (xlay lay (31, t) a) (up2 μ.1 35 t (nI (h + 1)), μ.2) (KT_grow tb t h v) r := by
  have hl : lyk lay (xlay lay (31, t) a) := fun k hk => if_neg (fun z => hk (by rw [z]))
  have e14 := cw_T14 (Z := Z) (lay := xlay lay (31, t) a) (μ := μ) (tb := KT_grow tb t h v) (r := r) (i := t) ht (v := nI (h + 1))
  funext k
  rw [e14 k]
  by_cases h30 : k = (30, t)
  · subst h30
    rw [xup_at, xup_at]
    refine congrArg (fun f => some (Sum.inr (3, f) : xE)) (funext fun j => ?_)
    unfold updV
    by_cases h14 : j = 14
    · rw [if_pos h14, if_pos h14]
    · rw [if_neg h14, if_neg h14]
      by_cases h13 : j = 13
      · rw [if_pos h13, h13]
        show _ = Value.ref (xlay lay (31, t) a (31, t))
        rw [xlay, if_pos rfl]
      · rw [if_neg h13]
        unfold fT tLeg
        simp only [ly10 hl, ly20 hl]
        split <;> first | rfl | exact absurd rfl h13
  · rw [xup_ne _ _ h30, xup_ne _ _ h30]
    by_cases h31 : k = (31, t)
    · subst h31
      rw [xup_at, cX_h ht]
      show _ = some (aI Z (if t = t then 2 * tb.2.2 t else tb.2.2 t) _)
      rw [if_pos rfl]
      unfold aI
      refine congrArg (fun f => some (Sum.inl (Z.2 0, 2 * tb.2.2 t, Sum.inl f) : xE)) (funext fun j => ?_)
      unfold KT_grow
      dsimp only
      rw [up2_at]
      unfold upd
      by_cases hj : j = h
      · rw [if_pos hj, if_pos ⟨rfl, hj⟩]
      · rw [if_neg hj, if_neg (fun z => hj z.2)]
        dsimp only
        by_cases hb : j < tb.2.2 t
        · rw [if_pos hb, if_neg (fun z => z.2 hb)]
        · rw [if_neg hb, if_pos ⟨rfl, hb⟩]
    · rw [xup_ne _ _ h31]
      rw [cXl hl (fun z => if_neg (fun y => h30 (by rw [← Prod.eta k, z, (Prod.mk.inj y).2])))]
      obtain ⟨k1, k2⟩ := k
      by_cases h31k : k1 = 31
      · subst h31k
        have hk2 : k2 ≠ t := fun z => h31 (by rw [z])
        have e1 : (KT_grow tb t h v).2.2 k2 = tb.2.2 k2 := if_neg hk2
        have e2 : (KT_grow tb t h v).2.1 k2 = tb.2.1 k2 := funext fun b => by
          unfold KT_grow
          dsimp only
          rw [up2_at, if_neg (fun z => hk2 z.1), if_neg (fun z => hk2 z.1)]
        rw [cXk_31, cXk_31, e1, e2]
      · unfold cX
        simp only [h31k, if_false]
        rfl
theorem sign_world {Z : xZ} {lay lay' : xK → Nat} {μ : Mu} {tb : Tb} {r C' : xK → Option xE} {t i h : Nat} (ht : t < nT μ) (e35 : μ.1 35 t = nI h) (hh : h < 4096) (e24 : nI i = μ.1 24 t) (hd : (μ.1 21 t = 0 ∧ lay' = lay ∧ C' = cX Z lay μ tb r) ∨ (¬ μ.1 21 t = 0 ∧ h < tb.2.2 t ∧ lay' = lay ∧ C' = xup (xup (cX Z lay μ tb r) (31, t) (.inl (Z.2 0, tb.2.2 t, .inl (upd (tb.2.1 t) h (nI i))))) (30, t) (.inr (3, updV (fT lay μ t) 14 (.int (nI (h + 1)))))) ∨ (¬ μ.1 21 t = 0 ∧ h = tb.2.2 t ∧ ∃ a, lay' = xlay lay (31, t) a ∧ C' = xup (xup (cX Z lay μ tb r) (31, t) (.inl (Z.2 0, 2 * tb.2.2 t, .inl (upd (fun b => if b < tb.2.2 t then tb.2.1 t b else 0) h (nI i))))) (30, t) (.inr (3, updV (updV (fT lay μ t) 13 (.ref a)) 14 (.int (nI (h + 1))))))) : lyk lay lay' ∧ C' = cX Z lay' (KM_sign μ t) (KT_sign μ tb t (μ.1 24 t)) r := by
  have hx : ix (μ.1 35 t) = h := by rw [e35, ix_nI (by omega)]
  have e1 : μ.1 35 t + 1 = nI (h + 1) := by rw [e35, nI_1]
  unfold KM_sign KT_sign
  rw [hx, e1, ← e24]
  rcases hd with ⟨h1, rfl, rfl⟩ | ⟨h1, h2, rfl, rfl⟩ | ⟨h1, h2, a, rfl, rfl⟩
  · rw [if_pos h1, if_pos h1]
    exact ⟨fun _ _ => rfl, rfl⟩
  · rw [if_neg h1, if_neg h1, if_pos h2]
    refine ⟨fun _ _ => rfl, ?_⟩
    rw [← (funext (cw_h (Z := Z) (lay := lay') (μ := μ) (tb := tb) (r := r) (i := t) (k := h) ht (v := nI i)))]
    exact (funext (cw_T14 (Z := Z) (lay := lay') (μ := μ) (tb := (tb.1, up2 tb.2.1 t h (nI i), tb.2.2)) (r := r) (i := t) ht (v := nI (h + 1)))).symm
  · rw [if_neg h1, if_neg h1, if_neg (by omega)]
    exact ⟨fun k hk => if_neg (fun z => hk (by rw [z])), grow_world ht⟩
