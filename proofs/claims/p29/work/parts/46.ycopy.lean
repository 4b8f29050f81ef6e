/-! the class's world, key 0 left open: as a union is made -/
def cY (Z : xZ) (lay : xK → Nat) (μ : Mu) (tb : Tb) (r : xK → Option xE) : xK → Option xE := fun k =>
  if k.1 = 0 then r k
  else if k.1 = 1 then (if k.2 = 0 then some (aQ Z 3 8 (nP μ) (fun i => lay (10, i))) else none)
  else if k.1 = 2 then (if k.2 = 0 then some (aQ Z 4 40 (nT μ) (fun i => lay (30, i))) else none)
  else if k.1 = 3 then (if k.2 = 0 then some (.inr (2, fR lay μ)) else none)
  else if k.1 = 4 then (if k.2 = 0 then some (aQ Z 5 20 (nG μ) (fun i => lay (20, i))) else none)
  else if k.1 = 5 then (if k.2 = 0 then some (aI Z 64 (tb.1 0)) else none)
  else if k.1 = 6 then (if k.2 = 0 then some (aI Z 64 (tb.1 1)) else none)
  else if k.1 = 7 then (if k.2 = 0 then some (aI Z 64 (tb.1 2)) else none)
  else if k.1 = 10 then (if k.2 < nP μ then some (.inr (1, fP lay μ k.2)) else none)
  else if k.1 = 11 then (if k.2 < nP μ then some (aI Z 3 (row3 μ.1 1 k.2)) else none)
  else if k.1 = 12 then (if k.2 < nP μ then some (aI Z 3 (row3 μ.1 2 k.2)) else none)
  else if k.1 = 13 then (if k.2 < nP μ then some (aI Z 3 (row3 μ.1 3 k.2)) else none)
  else if k.1 = 14 then (if k.2 < nP μ then some (aL Z 8 (row8 μ.2 k.2)) else none)
  else if k.1 = 20 then (if k.2 < nG μ then some (.inr (0, fG lay μ k.2)) else none)
  else if k.1 = 30 then (if k.2 < nT μ then some (.inr (3, fT lay μ k.2)) else none)
  else if k.1 = 31 then (if k.2 < nT μ then some (aI Z (tb.2.2 k.2) (tb.2.1 k.2)) else none)
  else r k
theorem cY_ps {Z : xZ} {lay : xK → Nat} {μ : Mu} {tb : Tb} {r : xK → Option xE} : cY Z lay μ tb r (1, 0) = some (aQ Z 3 8 (nP μ) (fun i => lay (10, i))) := rfl
theorem cY_ts {Z : xZ} {lay : xK → Nat} {μ : Mu} {tb : Tb} {r : xK → Option xE} : cY Z lay μ tb r (2, 0) = some (aQ Z 4 40 (nT μ) (fun i => lay (30, i))) := rfl
theorem cY_R {Z : xZ} {lay : xK → Nat} {μ : Mu} {tb : Tb} {r : xK → Option xE} : cY Z lay μ tb r (3, 0) = some (.inr (2, fR lay μ)) := rfl
theorem cY_gs {Z : xZ} {lay : xK → Nat} {μ : Mu} {tb : Tb} {r : xK → Option xE} : cY Z lay μ tb r (4, 0) = some (aQ Z 5 20 (nG μ) (fun i => lay (20, i))) := rfl
theorem cY_t0 {Z : xZ} {lay : xK → Nat} {μ : Mu} {tb : Tb} {r : xK → Option xE} : cY Z lay μ tb r (5, 0) = some (aI Z 64 (tb.1 0)) := rfl
theorem cY_t1 {Z : xZ} {lay : xK → Nat} {μ : Mu} {tb : Tb} {r : xK → Option xE} : cY Z lay μ tb r (6, 0) = some (aI Z 64 (tb.1 1)) := rfl
theorem cY_t2 {Z : xZ} {lay : xK → Nat} {μ : Mu} {tb : Tb} {r : xK → Option xE} : cY Z lay μ tb r (7, 0) = some (aI Z 64 (tb.1 2)) := rfl
theorem cY_P {Z : xZ} {lay : xK → Nat} {μ : Mu} {tb : Tb} {r : xK → Option xE} {i : Nat} (h : i < nP μ) : cY Z lay μ tb r (10, i) = some (.inr (1, fP lay μ i)) := if_pos h
theorem cY_G {Z : xZ} {lay : xK → Nat} {μ : Mu} {tb : Tb} {r : xK → Option xE} {i : Nat} (h : i < nG μ) : cY Z lay μ tb r (20, i) = some (.inr (0, fG lay μ i)) := if_pos h
theorem cY_T {Z : xZ} {lay : xK → Nat} {μ : Mu} {tb : Tb} {r : xK → Option xE} {i : Nat} (h : i < nT μ) : cY Z lay μ tb r (30, i) = some (.inr (3, fT lay μ i)) := if_pos h
theorem cY_h {Z : xZ} {lay : xK → Nat} {μ : Mu} {tb : Tb} {r : xK → Option xE} {i : Nat} (h : i < nT μ) : cY Z lay μ tb r (31, i) = some (aI Z (tb.2.2 i) (tb.2.1 i)) := if_pos h
theorem cY_r {Z : xZ} {lay : xK → Nat} {μ : Mu} {tb : Tb} {r : xK → Option xE} {k : xK} (h0 : k.1 ≠ 0) (h1 : k.1 ≠ 1) (h2 : k.1 ≠ 2) (h3 : k.1 ≠ 3) (h4 : k.1 ≠ 4) (h5 : k.1 ≠ 5) (h6 : k.1 ≠ 6) (h7 : k.1 ≠ 7) (h10 : k.1 ≠ 10) (h11 : k.1 ≠ 11) (h12 : k.1 ≠ 12) (h13 : k.1 ≠ 13) (h14 : k.1 ≠ 14) (h20 : k.1 ≠ 20) (h30 : k.1 ≠ 30) (h31 : k.1 ≠ 31) : cY Z lay μ tb r k = r k := by
  unfold cY
  rw [if_neg h0, if_neg h1, if_neg h2, if_neg h3, if_neg h4, if_neg h5, if_neg h6, if_neg h7, if_neg h10, if_neg h11, if_neg h12, if_neg h13, if_neg h14, if_neg h20, if_neg h30, if_neg h31]
theorem cYk_0 {Z : xZ} {lay : xK → Nat} {μ : Mu} {tb : Tb} {r : xK → Option xE} {b : Nat} : cY Z lay μ tb r (0, b) = r (0, b) := rfl
theorem cYk_1 {Z : xZ} {lay : xK → Nat} {μ : Mu} {tb : Tb} {r : xK → Option xE} {b : Nat} : cY Z lay μ tb r (1, b) = (if b = 0 then some (aQ Z 3 8 (nP μ) (fun i => lay (10, i))) else none) := rfl
theorem cYk_2 {Z : xZ} {lay : xK → Nat} {μ : Mu} {tb : Tb} {r : xK → Option xE} {b : Nat} : cY Z lay μ tb r (2, b) = (if b = 0 then some (aQ Z 4 40 (nT μ) (fun i => lay (30, i))) else none) := rfl
theorem cYk_3 {Z : xZ} {lay : xK → Nat} {μ : Mu} {tb : Tb} {r : xK → Option xE} {b : Nat} : cY Z lay μ tb r (3, b) = (if b = 0 then some (Sum.inr (2, fR lay μ) : xE) else none) := rfl
theorem cYk_4 {Z : xZ} {lay : xK → Nat} {μ : Mu} {tb : Tb} {r : xK → Option xE} {b : Nat} : cY Z lay μ tb r (4, b) = (if b = 0 then some (aQ Z 5 20 (nG μ) (fun i => lay (20, i))) else none) := rfl
theorem cYk_5 {Z : xZ} {lay : xK → Nat} {μ : Mu} {tb : Tb} {r : xK → Option xE} {b : Nat} : cY Z lay μ tb r (5, b) = (if b = 0 then some (aI Z 64 (tb.1 0)) else none) := rfl
theorem cYk_6 {Z : xZ} {lay : xK → Nat} {μ : Mu} {tb : Tb} {r : xK → Option xE} {b : Nat} : cY Z lay μ tb r (6, b) = (if b = 0 then some (aI Z 64 (tb.1 1)) else none) := rfl
theorem cYk_7 {Z : xZ} {lay : xK → Nat} {μ : Mu} {tb : Tb} {r : xK → Option xE} {b : Nat} : cY Z lay μ tb r (7, b) = (if b = 0 then some (aI Z 64 (tb.1 2)) else none) := rfl
theorem cYk_10 {Z : xZ} {lay : xK → Nat} {μ : Mu} {tb : Tb} {r : xK → Option xE} {b : Nat} : cY Z lay μ tb r (10, b) = (if b < nP μ then some (Sum.inr (1, fP lay μ b) : xE) else none) := rfl
theorem cYk_11 {Z : xZ} {lay : xK → Nat} {μ : Mu} {tb : Tb} {r : xK → Option xE} {b : Nat} : cY Z lay μ tb r (11, b) = (if b < nP μ then some (aI Z 3 (row3 μ.1 1 b)) else none) := rfl
theorem cYk_12 {Z : xZ} {lay : xK → Nat} {μ : Mu} {tb : Tb} {r : xK → Option xE} {b : Nat} : cY Z lay μ tb r (12, b) = (if b < nP μ then some (aI Z 3 (row3 μ.1 2 b)) else none) := rfl
theorem cYk_13 {Z : xZ} {lay : xK → Nat} {μ : Mu} {tb : Tb} {r : xK → Option xE} {b : Nat} : cY Z lay μ tb r (13, b) = (if b < nP μ then some (aI Z 3 (row3 μ.1 3 b)) else none) := rfl
theorem cYk_14 {Z : xZ} {lay : xK → Nat} {μ : Mu} {tb : Tb} {r : xK → Option xE} {b : Nat} : cY Z lay μ tb r (14, b) = (if b < nP μ then some (aL Z 8 (row8 μ.2 b)) else none) := rfl
theorem cYk_20 {Z : xZ} {lay : xK → Nat} {μ : Mu} {tb : Tb} {r : xK → Option xE} {b : Nat} : cY Z lay μ tb r (20, b) = (if b < nG μ then some (Sum.inr (0, fG lay μ b) : xE) else none) := rfl
theorem cYk_30 {Z : xZ} {lay : xK → Nat} {μ : Mu} {tb : Tb} {r : xK → Option xE} {b : Nat} : cY Z lay μ tb r (30, b) = (if b < nT μ then some (Sum.inr (3, fT lay μ b) : xE) else none) := rfl
theorem cYk_31 {Z : xZ} {lay : xK → Nat} {μ : Mu} {tb : Tb} {r : xK → Option xE} {b : Nat} : cY Z lay μ tb r (31, b) = (if b < nT μ then some (aI Z (tb.2.2 b) (tb.2.1 b)) else none) := rfl
set_option maxRecDepth 100000 in
set_option maxHeartbeats 60000 in
theorem cwY_t0 {Z : xZ} {lay : xK → Nat} {μ : Mu} {tb : Tb} {r : xK → Option xE} {k : Nat} {v : Int32} : ∀ y9, cY Z lay μ (up2 tb.1 0 k v, tb.2) r y9 = xup (cY Z lay μ tb r) (5, 0) (.inl (Z.2 0, 64, .inl (upd (tb.1 0) k v))) y9 := by
  rintro ⟨a, b⟩
  by_cases hk : (a, b) = ((5, 0) : xK)
  · rw [xup, if_pos hk]
    obtain ⟨rfl, rfl⟩ := Prod.mk.inj hk
    show some (aI Z 64 (up2 tb.1 0 k v 0)) = _
    exact congrArg (fun f => some (aI Z 64 f)) (funext fun j => by simp [up2, upd])
  · rw [xup, if_neg hk]
    by_cases h0 : a = 0
    · subst h0
      rw [cYk_0, cYk_0] <;> rfl
    by_cases h1 : a = 1
    · subst h1
      rw [cYk_1, cYk_1] <;> rfl
    by_cases h2 : a = 2
    · subst h2
      rw [cYk_2, cYk_2] <;> rfl
    by_cases h3 : a = 3
    · subst h3
      rw [cYk_3, cYk_3] <;> rfl
    by_cases h4 : a = 4
    · subst h4
      rw [cYk_4, cYk_4] <;> rfl
    by_cases h5 : a = 5
    · subst h5
      have hb : b ≠ 0 := fun z => hk (by rw [z])
      show (if b = 0 then some _ else none) = (if b = 0 then some _ else none)
      rw [if_neg hb, if_neg hb]
    by_cases h6 : a = 6
    · subst h6
      show (if b = 0 then some (aI Z 64 (up2 tb.1 0 k v 1)) else none) = (if b = 0 then some (aI Z 64 (tb.1 1)) else none)
      rw [up2_ne _ _ _ _ _ (show (1 : Nat) ≠ 0 by decide)]
    by_cases h7 : a = 7
    · subst h7
      show (if b = 0 then some (aI Z 64 (up2 tb.1 0 k v 2)) else none) = (if b = 0 then some (aI Z 64 (tb.1 2)) else none)
      rw [up2_ne _ _ _ _ _ (show (2 : Nat) ≠ 0 by decide)]
    by_cases h10 : a = 10
    · subst h10
      rw [cYk_10, cYk_10] <;> rfl
    by_cases h11 : a = 11
    · subst h11
      rw [cYk_11, cYk_11] <;> rfl
    by_cases h12 : a = 12
    · subst h12
      rw [cYk_12, cYk_12] <;> rfl
    by_cases h13 : a = 13
    · subst h13
      rw [cYk_13, cYk_13] <;> rfl
    by_cases h14 : a = 14
    · subst h14
      rw [cYk_14, cYk_14] <;> rfl
    by_cases h20 : a = 20
    · subst h20
      rw [cYk_20, cYk_20] <;> rfl
    by_cases h30 : a = 30
    · subst h30
      rw [cYk_30, cYk_30] <;> rfl
    by_cases h31 : a = 31
    · subst h31
      rw [cYk_31, cYk_31] <;> rfl
    rw [cY_r h0 h1 h2 h3 h4 h5 h6 h7 h10 h11 h12 h13 h14 h20 h30 h31, cY_r h0 h1 h2 h3 h4 h5 h6 h7 h10 h11 h12 h13 h14 h20 h30 h31]
set_option maxRecDepth 100000 in
set_option maxHeartbeats 60000 in
theorem cwY_t1 {Z : xZ} {lay : xK → Nat} {μ : Mu} {tb : Tb} {r : xK → Option xE} {k : Nat} {v : Int32} : ∀ y9, cY Z lay μ (up2 tb.1 1 k v, tb.2) r y9 = xup (cY Z lay μ tb r) (6, 0) (.inl (Z.2 0, 64, .inl (upd (tb.1 1) k v))) y9 := by
  rintro ⟨a, b⟩
  by_cases hk : (a, b) = ((6, 0) : xK)
  · rw [xup, if_pos hk]
    obtain ⟨rfl, rfl⟩ := Prod.mk.inj hk
    show some (aI Z 64 (up2 tb.1 1 k v 1)) = _
    exact congrArg (fun f => some (aI Z 64 f)) (funext fun j => by simp [up2, upd])
  · rw [xup, if_neg hk]
    by_cases h0 : a = 0
    · subst h0
      rw [cYk_0, cYk_0] <;> rfl
    by_cases h1 : a = 1
    · subst h1
      rw [cYk_1, cYk_1] <;> rfl
    by_cases h2 : a = 2
    · subst h2
      rw [cYk_2, cYk_2] <;> rfl
    by_cases h3 : a = 3
    · subst h3
      rw [cYk_3, cYk_3] <;> rfl
    by_cases h4 : a = 4
    · subst h4
      rw [cYk_4, cYk_4] <;> rfl
    by_cases h5 : a = 5
    · subst h5
      show (if b = 0 then some (aI Z 64 (up2 tb.1 1 k v 0)) else none) = (if b = 0 then some (aI Z 64 (tb.1 0)) else none)
      rw [up2_ne _ _ _ _ _ (show (0 : Nat) ≠ 1 by decide)]
    by_cases h6 : a = 6
    · subst h6
      have hb : b ≠ 0 := fun z => hk (by rw [z])
      show (if b = 0 then some _ else none) = (if b = 0 then some _ else none)
      rw [if_neg hb, if_neg hb]
    by_cases h7 : a = 7
    · subst h7
      show (if b = 0 then some (aI Z 64 (up2 tb.1 1 k v 2)) else none) = (if b = 0 then some (aI Z 64 (tb.1 2)) else none)
      rw [up2_ne _ _ _ _ _ (show (2 : Nat) ≠ 1 by decide)]
    by_cases h10 : a = 10
    · subst h10
      rw [cYk_10, cYk_10] <;> rfl
    by_cases h11 : a = 11
    · subst h11
      rw [cYk_11, cYk_11] <;> rfl
    by_cases h12 : a = 12
    · subst h12
      rw [cYk_12, cYk_12] <;> rfl
    by_cases h13 : a = 13
    · subst h13
      rw [cYk_13, cYk_13] <;> rfl
    by_cases h14 : a = 14
    · subst h14
      rw [cYk_14, cYk_14] <;> rfl
    by_cases h20 : a = 20
    · subst h20
      rw [cYk_20, cYk_20] <;> rfl
    by_cases h30 : a = 30
    · subst h30
      rw [cYk_30, cYk_30] <;> rfl
    by_cases h31 : a = 31
    · subst h31
      rw [cYk_31, cYk_31] <;> rfl
    rw [cY_r h0 h1 h2 h3 h4 h5 h6 h7 h10 h11 h12 h13 h14 h20 h30 h31, cY_r h0 h1 h2 h3 h4 h5 h6 h7 h10 h11 h12 h13 h14 h20 h30 h31]
set_option maxRecDepth 100000 in
set_option maxHeartbeats 60000 in
theorem cwY_t2 {Z : xZ} {lay : xK → Nat} {μ : Mu} {tb : Tb} {r : xK → Option xE} {k : Nat} {v : Int32} : ∀ y9, cY Z lay μ (up2 tb.1 2 k v, tb.2) r y9 = xup (cY Z lay μ tb r) (7, 0) (.inl (Z.2 0, 64, .inl (upd (tb.1 2) k v))) y9 := by
  rintro ⟨a, b⟩
  by_cases hk : (a, b) = ((7, 0) : xK)
  · rw [xup, if_pos hk]
    obtain ⟨rfl, rfl⟩ := Prod.mk.inj hk
    show some (aI Z 64 (up2 tb.1 2 k v 2)) = _
    exact congrArg (fun f => some (aI Z 64 f)) (funext fun j => by simp [up2, upd])
  · rw [xup, if_neg hk]
    by_cases h0 : a = 0
    · subst h0
      rw [cYk_0, cYk_0] <;> rfl
    by_cases h1 : a = 1
    · subst h1
      rw [cYk_1, cYk_1] <;> rfl
    by_cases h2 : a = 2
    · subst h2
      rw [cYk_2, cYk_2] <;> rfl
    by_cases h3 : a = 3
    · subst h3
      rw [cYk_3, cYk_3] <;> rfl
    by_cases h4 : a = 4
    · subst h4
      rw [cYk_4, cYk_4] <;> rfl
    by_cases h5 : a = 5
    · subst h5
      show (if b = 0 then some (aI Z 64 (up2 tb.1 2 k v 0)) else none) = (if b = 0 then some (aI Z 64 (tb.1 0)) else none)
      rw [up2_ne _ _ _ _ _ (show (0 : Nat) ≠ 2 by decide)]
    by_cases h6 : a = 6
    · subst h6
      show (if b = 0 then some (aI Z 64 (up2 tb.1 2 k v 1)) else none) = (if b = 0 then some (aI Z 64 (tb.1 1)) else none)
      rw [up2_ne _ _ _ _ _ (show (1 : Nat) ≠ 2 by decide)]
    by_cases h7 : a = 7
    · subst h7
      have hb : b ≠ 0 := fun z => hk (by rw [z])
      show (if b = 0 then some _ else none) = (if b = 0 then some _ else none)
      rw [if_neg hb, if_neg hb]
    by_cases h10 : a = 10
    · subst h10
      rw [cYk_10, cYk_10] <;> rfl
    by_cases h11 : a = 11
    · subst h11
      rw [cYk_11, cYk_11] <;> rfl
    by_cases h12 : a = 12
    · subst h12
      rw [cYk_12, cYk_12] <;> rfl
    by_cases h13 : a = 13
    · subst h13
      rw [cYk_13, cYk_13] <;> rfl
    by_cases h14 : a = 14
    · subst h14
      rw [cYk_14, cYk_14] <;> rfl
    by_cases h20 : a = 20
    · subst h20
      rw [cYk_20, cYk_20] <;> rfl
    by_cases h30 : a = 30
    · subst h30
      rw [cYk_30, cYk_30] <;> rfl
    by_cases h31 : a = 31
    · subst h31
      rw [cYk_31, cYk_31] <;> rfl
    rw [cY_r h0 h1 h2 h3 h4 h5 h6 h7 h10 h11 h12 h13 h14 h20 h30 h31, cY_r h0 h1 h2 h3 h4 h5 h6 h7 h10 h11 h12 h13 h14 h20 h30 h31]
theorem fill_worldY {Z : xZ} {lay : xK → Nat} {μ : Mu} {tb : Tb} {r : xK → Option xE} {v : Int32} : xup (cY Z lay μ tb r) (5, 0) (.inl (Z.2 0, 64, .inl (fun j => if j < 64 then v else tb.1 0 j))) = cY Z lay μ (T_fill tb.1 v, tb.2) r := by
  have e1 : T_fill tb.1 v 1 = tb.1 1 := funext fun j => if_neg fun z => by cases z.1
  have e2 : T_fill tb.1 v 2 = tb.1 2 := funext fun j => if_neg fun z => by cases z.1
  have e0 : (fun j => if j < 64 then v else tb.1 0 j) = T_fill tb.1 v 0 := funext fun j => by
    show _ = (if 0 = 0 ∧ j < 64 then v else tb.1 0 j)
    by_cases h : j < 64
    · rw [if_pos h, if_pos ⟨rfl, h⟩]
    · rw [if_neg h, if_neg (fun z => h z.2)]
  funext k
  obtain ⟨a, b⟩ := k
  by_cases hk : (a, b) = ((5, 0) : xK)
  · rw [hk, xup_at, cY_t0, e0]; rfl
  · rw [xup_ne _ _ hk]
    unfold cY
    simp only [e1, e2]
    by_cases h5 : a = 5
    · subst h5
      have hb : b ≠ 0 := fun z => hk (by rw [z])
      simp [hb]
    · simp [h5]
theorem copy_worldY {Z : xZ} {lay : xK → Nat} {μ : Mu} {tb : Tb} {r : xK → Option xE} : cY Z lay μ (T_copy tb.1, tb.2) r = xup (cY Z lay μ tb r) (6, 0) (.inl (Z.2 0, 64, .inl (va_cpy (tb.1 0) (tb.1 1) 0 0 64))) := by
  have e1 : T_copy tb.1 0 = tb.1 0 := funext fun j => if_neg fun z => by cases z.1
  have e2 : T_copy tb.1 2 = tb.1 2 := funext fun j => if_neg fun z => by cases z.1
  have e0 : va_cpy (tb.1 0) (tb.1 1) 0 0 64 = T_copy tb.1 1 := funext fun j => by
    show (if 0 ≤ j ∧ j < 0 + 64 then tb.1 0 (0 + (j - 0)) else tb.1 1 j) = (if 1 = 1 ∧ j < 64 then tb.1 0 j else tb.1 1 j)
    by_cases h : j < 64
    · rw [if_pos ⟨by omega, by omega⟩, if_pos ⟨rfl, h⟩, show 0 + (j - 0) = j by omega]
    · rw [if_neg (by omega), if_neg (fun z => h z.2)]
  funext k
  obtain ⟨a, b⟩ := k
  by_cases hk : (a, b) = ((6, 0) : xK)
  · rw [hk, xup_at, cY_t1, e0]; rfl
  · rw [xup_ne _ _ hk]
    unfold cY
    simp only [e1, e2]
    by_cases h5 : a = 6
    · subst h5
      have hb : b ≠ 0 := fun z => hk (by rw [z])
      simp [hb]
    · simp [h5]
set_option maxRecDepth 100000 in
set_option maxHeartbeats 4000000 in
theorem kzX0_leadsTo (l : Launch) (Z : xZ) (B0 : Nat) (lay : xK → Nat) (μ : Mu) (tb : Tb) (r : xK → Option xE) (g : Nat) (hg : g < nG μ) (h1 : ix (μ.1 11 g) < nP μ) (h2 : ix (μ.1 12 g) < nP μ) (f : Int32) : YM l yX0_leadsTo cX0_leadsTo 2 ((some FieldType.int)) 0 0 0 0 Z B0 [.ref (lay (20, g)), .int f] lay (cY Z lay μ tb r) (fun v lay' C' => lay = lay' ∧ v = some (.int (K_leads μ g f)) ∧ C' = cY Z lay μ tb r) := by
  refine YM_of myX0_leadsTo.2.2 RX0 rfl [some (.ref (lay (20, g))), some (.int f)] rfl (Nat.le_of_ble_eq_true rfl) ?_
  intro P1 P2 P3 P4 P5 P6 P7 P8 X hr hnm
  refine v_aload_n X (xdec_at tX0_leadsTo_0 0 rfl) rfl rfl ?_
  refine x_get (v := .int (μ.1 14 g)) X hinX0 (20, g) (cY_G (μ := μ) hg) rfl 3 (by decide) (xw_at tW_8 39 rfl) rfl rfl rfl (xdec_at tX0_leadsTo_0 1 rfl) ?_
  refine v_if_eq (tgt := 9) X (xdec_at tX0_leadsTo_0 2 rfl) (by decide) (fun c_4 => ?_) (fun c_4 => ?_)
  · refine v_iload_n X (xdec_at tX0_leadsTo_0 5 rfl) rfl rfl ?_
    refine v_aload_n X (xdec_at tX0_leadsTo_0 6 rfl) rfl rfl ?_
    refine x_get (v := .ref (lay (10, ix (μ.1 11 g)))) X hinX0 (20, g) (cY_G (μ := μ) hg) rfl 0 (by decide) (xw_at tW_8 30 rfl) rfl rfl rfl (xdec_at tX0_leadsTo_0 7 rfl) ?_
    refine x_get (v := .int (nI (ix (μ.1 11 g)))) X hinX1 (10, ix (μ.1 11 g)) (cY_P (μ := μ) h1) rfl 0 (by decide) (xw_at tW_7 3 rfl) rfl rfl rfl (xdec_at tX0_leadsTo_0 8 rfl) ?_
    refine v_icmp_ne (tgt := 30) X (xdec_at tX0_leadsTo_0 9 rfl) (by decide) (fun c_17 => ?_) (fun c_17 => ?_)
    · refine v_iload_n X (xdec_at tX0_leadsTo_0 14 rfl) rfl rfl ?_
      refine v_aload_n X (xdec_at tX0_leadsTo_0 15 rfl) rfl rfl ?_
      refine x_get (v := .ref (lay (10, ix (μ.1 12 g)))) X hinX0 (20, g) (cY_G (μ := μ) hg) rfl 1 (by decide) (xw_at tW_8 33 rfl) rfl rfl rfl (xdec_at tX0_leadsTo_0 16 rfl) ?_
      refine x_get (v := .int (nI (ix (μ.1 12 g)))) X hinX1 (10, ix (μ.1 12 g)) (cY_P (μ := μ) h2) rfl 0 (by decide) (xw_at tW_7 3 rfl) rfl rfl rfl (xdec_at tX0_leadsTo_0 17 rfl) ?_
      refine v_icmp_ne (tgt := 51) X (xdec_at tX0_leadsTo_0 18 rfl) (by decide) (fun c_38 => ?_) (fun c_38 => ?_)
      · refine v_iconst (v := (-1)) X (xdec_at tX0_leadsTo_0 23 rfl) (by decide) ?_
        have e9 : K_leads μ g f = (-1) := by simp [K_leads, (eq_true c_4), c_17, c_38]
        exact v_iret X hr (xdec_at tX0_leadsTo_0 24 rfl) (Nat.le_of_ble_eq_true rfl) (Nat.le_of_ble_eq_true rfl) ⟨rfl, by rw [e9], rfl⟩
      · refine v_aload_n X (xdec_at tX0_leadsTo_0 19 rfl) rfl rfl ?_
        refine x_get (v := .ref (lay (10, ix (μ.1 11 g)))) X hinX0 (20, g) (cY_G (μ := μ) hg) rfl 0 (by decide) (xw_at tW_8 30 rfl) rfl rfl rfl (xdec_at tX0_leadsTo_0 20 rfl) ?_
        refine x_get (v := .int (nI (ix (μ.1 11 g)))) X hinX1 (10, ix (μ.1 11 g)) (cY_P (μ := μ) h1) rfl 0 (by decide) (xw_at tW_7 3 rfl) rfl rfl rfl (xdec_at tX0_leadsTo_0 21 rfl) ?_
        refine v_goto (tgt := 52) X (xdec_at tX0_leadsTo_0 22 rfl) (by decide) ?_
        have e9 : K_leads μ g f = (nI (ix (μ.1 11 g))) := by simp [K_leads, (eq_true c_4), c_17, (eq_true c_38)]
        exact v_iret X hr (xdec_at tX0_leadsTo_0 24 rfl) (Nat.le_of_ble_eq_true rfl) (Nat.le_of_ble_eq_true rfl) ⟨rfl, by rw [e9], rfl⟩
    · refine v_aload_n X (xdec_at tX0_leadsTo_0 10 rfl) rfl rfl ?_
      refine x_get (v := .ref (lay (10, ix (μ.1 12 g)))) X hinX0 (20, g) (cY_G (μ := μ) hg) rfl 1 (by decide) (xw_at tW_8 33 rfl) rfl rfl rfl (xdec_at tX0_leadsTo_0 11 rfl) ?_
      refine x_get (v := .int (nI (ix (μ.1 12 g)))) X hinX1 (10, ix (μ.1 12 g)) (cY_P (μ := μ) h2) rfl 0 (by decide) (xw_at tW_7 3 rfl) rfl rfl rfl (xdec_at tX0_leadsTo_0 12 rfl) ?_
      refine v_goto (tgt := 52) X (xdec_at tX0_leadsTo_0 13 rfl) (by decide) ?_
      have e9 : K_leads μ g f = (nI (ix (μ.1 12 g))) := by simp [K_leads, (eq_true c_4), (eq_true c_17)]
      exact v_iret X hr (xdec_at tX0_leadsTo_0 24 rfl) (Nat.le_of_ble_eq_true rfl) (Nat.le_of_ble_eq_true rfl) ⟨rfl, by rw [e9], rfl⟩
  · refine v_iconst (v := (-1)) X (xdec_at tX0_leadsTo_0 3 rfl) (by decide) ?_
    have e9 : K_leads μ g f = (-1) := by simp [K_leads, c_4]
    exact v_iret X hr (xdec_at tX0_leadsTo_0 4 rfl) (Nat.le_of_ble_eq_true rfl) (Nat.le_of_ble_eq_true rfl) ⟨rfl, by rw [e9], rfl⟩
set_option maxRecDepth 100000 in
set_option maxHeartbeats 4000000 in
theorem kzX2_shorten (l : Launch) (Z : xZ) (B0 : Nat) (lay : xK → Nat) (μ : Mu) (tb : Tb) (r : xK → Option xE) (a b : Nat) (ha : a < 8) (hb : b < 8) (d : Int32) : YM l yX2_shorten cX2_shorten 4 ((none : Option FieldType)) 1 40 0 0 Z B0 [.ref (lay (3, 0)), .int (nI a), .int (nI b), .int d] lay (cY Z lay μ tb r) (fun v lay' C' => lay = lay' ∧ v = none ∧ C' = cY Z lay μ (K_sh tb.1 a b d, tb.2) r) := by
  refine YM_of myX2_shorten.2.2 RX2 rfl [some (.ref (lay (3, 0))), some (.int (nI a)), some (.int (nI b)), some (.int d)] rfl (Nat.le_of_ble_eq_true rfl) ?_
  intro P1 P2 P3 P4 P5 P6 P7 P8 X hr hnm
  refine v_aload_n X (xdec_at tX2_shorten_0 0 rfl) rfl rfl ?_
  refine x_get (v := .ref (lay (5, 0))) X hinX2 (3, 0) cY_R rfl 1 (by decide) (xw_at tW_2 3 rfl) rfl rfl rfl (xdec_at tX2_shorten_0 1 rfl) ?_
  refine v_iload_n X (xdec_at tX2_shorten_0 2 rfl) rfl rfl ?_
  refine v_iload_n X (xdec_at tX2_shorten_0 3 rfl) rfl rfl ?_
  refine v_callS X myX2_cell [.int (nI a), .int (nI b)] [.ref (lay (5, 0))] (kyX2_cell l Z B0 lay (cY Z lay μ tb r) (nI a) (nI b)) (xw_at tW_1 20 rfl) rfl rfl (by rfl) (Nat.le_of_ble_eq_true rfl) (xdec_at tX2_shorten_0 4 rfl) ⟨(Nat.le_of_ble_eq_true rfl), (Nat.le_of_ble_eq_true rfl)⟩ ⟨(Nat.le_of_ble_eq_true rfl), (Nat.le_of_ble_eq_true rfl)⟩ ?_
  rintro v9 lay9 C9 ⟨rfl, rfl, rfl⟩
  rw [cell_nI a b]
  refine v_aload_n X (xdec_at tX2_shorten_0 5 rfl) rfl rfl ?_
  refine x_get (v := .ref (lay (5, 0))) X hinX2 (3, 0) cY_R rfl 1 (by decide) (xw_at tW_2 3 rfl) rfl rfl rfl (xdec_at tX2_shorten_0 6 rfl) ?_
  refine v_iload_n X (xdec_at tX2_shorten_0 7 rfl) rfl rfl ?_
  refine v_iload_n X (xdec_at tX2_shorten_0 8 rfl) rfl rfl ?_
  refine v_callS X myX2_cell [.int (nI a), .int (nI b)] [.ref (lay (5, 0)), .int (nI (8 * a + b)), .ref (lay (5, 0))] (kyX2_cell l Z B0 lay (cY Z lay μ tb r) (nI a) (nI b)) (xw_at tW_1 20 rfl) rfl rfl (by rfl) (Nat.le_of_ble_eq_true rfl) (xdec_at tX2_shorten_0 9 rfl) ⟨(Nat.le_of_ble_eq_true rfl), (Nat.le_of_ble_eq_true rfl)⟩ ⟨(Nat.le_of_ble_eq_true rfl), (Nat.le_of_ble_eq_true rfl)⟩ ?_
  rintro v9 lay9 C9 ⟨rfl, rfl, rfl⟩
  rw [cell_nI a b]
  refine x_iald (v := (tb.1 0 (8 * a + b))) X (5, 0) (cY_t0 (tb := tb)) (vp_in_nI (by omega) (by decide)) rfl (congrArg (tb.1 0) (ix_nI (by omega))) (xdec_at tX2_shorten_0 10 rfl) ?_
  refine v_iload_n X (xdec_at tX2_shorten_0 11 rfl) rfl rfl ?_
  refine v_min X (xw_at tW_1 23 rfl) ⟨(Nat.le_of_ble_eq_true rfl), (Nat.le_of_ble_eq_true rfl)⟩ ⟨(Nat.le_of_ble_eq_true rfl), (Nat.le_of_ble_eq_true rfl)⟩ (xdec_at tX2_shorten_0 12 rfl) ?_
  refine x_iast (C' := (cY Z lay μ ((up2 tb.1 0 (8 * a + b) (K_min (tb.1 0 (8 * a + b)) d)), tb.2) r)) X (5, 0) (cY_t0 (tb := tb)) (vp_in_nI (by omega) (by decide)) rfl (by rw [show (nI (8 * a + b)).toNatClampNeg = (8 * a + b) from ix_nI (by omega)]; exact cwY_t0 (tb := tb)) (xdec_at tX2_shorten_0 13 rfl) ?_
  exact v_vret X hr (xdec_at tX2_shorten_0 14 rfl) (Nat.le_of_ble_eq_true rfl) (Nat.le_of_ble_eq_true rfl) ⟨rfl, rfl, rfl⟩
set_option maxRecDepth 100000 in
set_option maxHeartbeats 4000000 in
theorem kzX2_firstLegOf (l : Launch) (Z : xZ) (B0 : Nat) (lay : xK → Nat) (μ : Mu) (tb : Tb) (r : xK → Option xE) (hI : RI μ) (hL : KL μ) (a b : Nat) (ha : a < 8) (hb : b < 8) : YM l yX2_firstLegOf cX2_firstLegOf 8 ((some FieldType.int)) 1 21 0 0 Z B0 [.ref (lay (3, 0)), .int (nI a), .int (nI b)] lay (cY Z lay μ tb r) (fun v lay' C' => lay = lay' ∧ v = some (.int ((K_fl1 μ tb.1 a b (nG μ)).1)) ∧ C' = cY Z lay μ tb r) := by
  refine YM_of myX2_firstLegOf.2.2 RX2 rfl [some (.ref (lay (3, 0))), some (.int (nI a)), some (.int (nI b)), none, none, none, none, none] rfl (Nat.le_of_ble_eq_true rfl) ?_
  intro P1 P2 P3 P4 P5 P6 P7 P8 X hr hnm
  obtain ⟨G, hG20, eG⟩ := hI.2.1
  have hGn := nG_of hG20 eG
  refine v_iconst (v := (-1)) X (xdec_at tX2_firstLegOf_0 0 rfl) (by decide) ?_
  refine v_istore_n (lv' := [some (.ref (lay (3, 0))), some (.int (nI a)), some (.int (nI b)), some (.int (-1)), none, none, none, none]) X (xdec_at tX2_firstLegOf_0 1 rfl) rfl (by decide) rfl ?_
  refine v_bipush (v := 8) X (xdec_at tX2_firstLegOf_0 2 rfl) (by decide) ?_
  refine v_istore (lv' := [some (.ref (lay (3, 0))), some (.int (nI a)), some (.int (nI b)), some (.int (-1)), some (.int 8), none, none, none]) X (xdec_at tX2_firstLegOf_0 3 rfl) (by decide) rfl ?_
  refine v_iconst (v := 0) X (xdec_at tX2_firstLegOf_0 4 rfl) (by decide) ?_
  refine v_istore (lv' := [some (.ref (lay (3, 0))), some (.int (nI a)), some (.int (nI b)), some (.int (-1)), some (.int 8), some (.int 0), none, none]) X (xdec_at tX2_firstLegOf_0 5 rfl) (by decide) rfl ?_
  refine v_for G (fun j9 => cY Z lay μ tb r) (fun j9 => [some (.ref (lay (3, 0))), some (.int (nI a)), some (.int (nI b)), some (.int (K_fl1 μ tb.1 a b j9).1), some (.int (K_fl1 μ tb.1 a b j9).2), some (.int (nI j9)), none, none]) 9 [] (fun i1 hi1 ih1 => ?_) ?_
  · obtain ⟨q, hq⟩ : ∃ q, q = K_fl1 μ tb.1 a b i1 := ⟨_, rfl⟩
    refine v_le (lv' := [some (.ref (lay (3, 0))), some (.int (nI a)), some (.int (nI b)), some (.int q.1), some (.int q.2), some (.int (nI i1)), none, none]) (by simp [xle, hq]) ?_
    refine v_iload X (xdec_at tX2_firstLegOf_0 6 rfl) rfl ?_
    refine v_aload_n X (xdec_at tX2_firstLegOf_0 7 rfl) rfl rfl ?_
    refine x_get (v := .int (μ.1 10 0)) X hinX2 (3, 0) cY_R rfl 4 (by decide) (xw_at tW_2 6 rfl) rfl rfl rfl (xdec_at tX2_firstLegOf_0 8 rfl) ?_
    refine v_icmp_ge (tgt := 91) X (xdec_at tX2_firstLegOf_0 9 rfl) (by decide) (fun c_15 => ?_) (fun c_15 => ?_)
    · exact absurd c_15 (by rw [eG]; exact nI_ge hi1 (by omega))
    · refine v_aload_n X (xdec_at tX2_firstLegOf_0 10 rfl) rfl rfl ?_
      refine x_get (v := .ref (lay (4, 0))) X hinX2 (3, 0) cY_R rfl 0 (by decide) (xw_at tW_2 2 rfl) rfl rfl rfl (xdec_at tX2_firstLegOf_0 11 rfl) ?_
      refine v_iload X (xdec_at tX2_firstLegOf_0 12 rfl) rfl ?_
      refine x_aald5 (v := .ref (lay (20, i1))) X (4, 0) cY_gs (vp_in_nI (n := i1) (N := 20) (by omega) (by decide)) rfl (aq_rf (f := fun i => lay (20, i)) (ix_nI (by omega)) (show i1 < nG μ by rw [hGn]; exact hi1)) (xdec_at tX2_firstLegOf_0 13 rfl) ?_
      refine v_astore (lv' := [some (.ref (lay (3, 0))), some (.int (nI a)), some (.int (nI b)), some (.int q.1), some (.int q.2), some (.int (nI i1)), some (.ref (lay (20, i1))), none]) X (xdec_at tX2_firstLegOf_0 14 rfl) (by decide) rfl ?_
      refine v_aload X (xdec_at tX2_firstLegOf_0 15 rfl) rfl ?_
      refine v_iload_n X (xdec_at tX2_firstLegOf_0 16 rfl) rfl rfl ?_
      refine v_callV X myX0_leadsTo [.int (nI a)] [] (kzX0_leadsTo l Z B0 lay μ tb r i1 (show i1 < nG μ by rw [hGn]; exact hi1) (hL i1 (show i1 < nG μ by rw [hGn]; exact hi1)).1 (hL i1 (show i1 < nG μ by rw [hGn]; exact hi1)).2.1 (nI a)) (xw_at tW_1 38 rfl) (20, i1) (cY_G (μ := μ) (show i1 < nG μ by rw [hGn]; exact hi1)) rfl rfl rfl rfl (by rfl) (Nat.le_of_ble_eq_true rfl) (xdec_at tX2_firstLegOf_0 17 rfl) ⟨(Nat.le_of_ble_eq_true rfl), (Nat.le_of_ble_eq_true rfl)⟩ ⟨(Nat.le_of_ble_eq_true rfl), (Nat.le_of_ble_eq_true rfl)⟩ ?_
      rintro v9 lay9 C9 ⟨rfl, rfl, rfl⟩
      refine v_istore (lv' := [some (.ref (lay (3, 0))), some (.int (nI a)), some (.int (nI b)), some (.int q.1), some (.int q.2), some (.int (nI i1)), some (.ref (lay (20, i1))), some (.int (K_leads μ i1 (nI a)))]) X (xdec_at tX2_firstLegOf_0 18 rfl) (by decide) rfl ?_
      refine v_iload X (xdec_at tX2_firstLegOf_0 19 rfl) rfl ?_
      refine v_iconst (v := (-1)) X (xdec_at tX2_firstLegOf_0 20 rfl) (by decide) ?_
      refine v_icmp_eq (tgt := 85) X (xdec_at tX2_firstLegOf_0 21 rfl) (by decide) (fun c_38 => ?_) (fun c_38 => ?_)
      · refine v_iinc (v := (nI (i1 + 1))) (lv' := [some (.ref (lay (3, 0))), some (.int (nI a)), some (.int (nI b)), some (.int q.1), some (.int q.2), some (.int (nI (i1 + 1))), some (.ref (lay (20, i1))), some (.int (K_leads μ i1 (nI a)))]) X (xdec_at tX2_firstLegOf_1 5 rfl) rfl (nI_1 _) (by decide) rfl ?_
        refine v_goto (tgt := 9) X (xdec_at tX2_firstLegOf_1 6 rfl) (by decide) ?_
        refine v_le (lv' := [some (.ref (lay (3, 0))), some (.int (nI a)), some (.int (nI b)), some (.int (K_fl1 μ tb.1 a b (i1 + 1)).1), some (.int (K_fl1 μ tb.1 a b (i1 + 1)).2), some (.int (nI (i1 + 1))), none, none]) (by simp [xle, K_fl1, ← hq, K_fls, (eq_true c_38)]) ?_
        exact ih1
      · refine v_iload X (xdec_at tX2_firstLegOf_0 22 rfl) rfl ?_
        refine v_iload X (xdec_at tX2_firstLegOf_0 23 rfl) rfl ?_
        refine v_icmp_ge (tgt := 85) X (xdec_at tX2_firstLegOf_0 24 rfl) (by decide) (fun c_45 => ?_) (fun c_45 => ?_)
        · refine v_iinc (v := (nI (i1 + 1))) (lv' := [some (.ref (lay (3, 0))), some (.int (nI a)), some (.int (nI b)), some (.int q.1), some (.int q.2), some (.int (nI (i1 + 1))), some (.ref (lay (20, i1))), some (.int (K_leads μ i1 (nI a)))]) X (xdec_at tX2_firstLegOf_1 5 rfl) rfl (nI_1 _) (by decide) rfl ?_
          refine v_goto (tgt := 9) X (xdec_at tX2_firstLegOf_1 6 rfl) (by decide) ?_
          refine v_le (lv' := [some (.ref (lay (3, 0))), some (.int (nI a)), some (.int (nI b)), some (.int (K_fl1 μ tb.1 a b (i1 + 1)).1), some (.int (K_fl1 μ tb.1 a b (i1 + 1)).2), some (.int (nI (i1 + 1))), none, none]) (by simp [xle, K_fl1, ← hq, K_fls, c_38, c_45]) ?_
          exact ih1
        · refine v_aload X (xdec_at tX2_firstLegOf_0 25 rfl) rfl ?_
          refine x_get (v := .int (μ.1 13 i1)) X hinX0 (20, i1) (cY_G (μ := μ) (show i1 < nG μ by rw [hGn]; exact hi1)) rfl 2 (by decide) (xw_at tW_8 38 rfl) rfl rfl rfl (xdec_at tX2_firstLegOf_0 26 rfl) ?_
          refine v_aload_n X (xdec_at tX2_firstLegOf_0 27 rfl) rfl rfl ?_
          refine x_get (v := .ref (lay (6, 0))) X hinX2 (3, 0) cY_R rfl 2 (by decide) (xw_at tW_2 4 rfl) rfl rfl rfl (xdec_at tX2_firstLegOf_0 28 rfl) ?_
          refine v_iload X (xdec_at tX2_firstLegOf_0 29 rfl) rfl ?_
          refine v_iload_n X (xdec_at tX2_firstLegOf_0 30 rfl) rfl rfl ?_
          refine v_callS X myX2_cell [.int (K_leads μ i1 (nI a)), .int (nI b)] [.ref (lay (6, 0)), .int (μ.1 13 i1)] (kyX2_cell l Z B0 lay (cY Z lay μ tb r) (K_leads μ i1 (nI a)) (nI b)) (xw_at tW_1 20 rfl) rfl rfl (by rfl) (Nat.le_of_ble_eq_true rfl) (xdec_at tX2_firstLegOf_0 31 rfl) ⟨(Nat.le_of_ble_eq_true rfl), (Nat.le_of_ble_eq_true rfl)⟩ ⟨(Nat.le_of_ble_eq_true rfl), (Nat.le_of_ble_eq_true rfl)⟩ ?_
          rintro v9 lay9 C9 ⟨rfl, rfl, rfl⟩
          refine x_iald (v := (tb.1 1 (ix ((K_leads μ i1 (nI a)) * 8 + (nI b))))) X (6, 0) (cY_t1 (tb := tb)) (leads_cell hI hL (show i1 < nG μ by rw [hGn]; exact hi1) c_38 hb) rfl rfl (xdec_at tX2_firstLegOf_0 32 rfl) ?_
          refine v_iadd X (xdec_at tX2_firstLegOf_0 33 rfl) ?_
          refine v_aload_n X (xdec_at tX2_firstLegOf_0 34 rfl) rfl rfl ?_
          refine x_get (v := .ref (lay (6, 0))) X hinX2 (3, 0) cY_R rfl 2 (by decide) (xw_at tW_2 4 rfl) rfl rfl rfl (xdec_at tX2_firstLegOf_0 35 rfl) ?_
          refine v_iload_n X (xdec_at tX2_firstLegOf_0 36 rfl) rfl rfl ?_
          refine v_iload_n X (xdec_at tX2_firstLegOf_0 37 rfl) rfl rfl ?_
          refine v_callS X myX2_cell [.int (nI a), .int (nI b)] [.ref (lay (6, 0)), .int ((μ.1 13 i1) + (tb.1 1 (ix ((K_leads μ i1 (nI a)) * 8 + (nI b)))))] (kyX2_cell l Z B0 lay (cY Z lay μ tb r) (nI a) (nI b)) (xw_at tW_1 20 rfl) rfl rfl (by rfl) (Nat.le_of_ble_eq_true rfl) (xdec_at tX2_firstLegOf_0 38 rfl) ⟨(Nat.le_of_ble_eq_true rfl), (Nat.le_of_ble_eq_true rfl)⟩ ⟨(Nat.le_of_ble_eq_true rfl), (Nat.le_of_ble_eq_true rfl)⟩ ?_
          rintro v9 lay9 C9 ⟨rfl, rfl, rfl⟩
          rw [cell_nI a b]
          refine x_iald (v := (tb.1 1 (8 * a + b))) X (6, 0) (cY_t1 (tb := tb)) (vp_in_nI (by omega) (by decide)) rfl (congrArg (tb.1 1) (ix_nI (by omega))) (xdec_at tX2_firstLegOf_0 39 rfl) ?_
          refine v_icmp_ne (tgt := 85) X (xdec_at tX2_firstLegOf_1 0 rfl) (by decide) (fun c_75 => ?_) (fun c_75 => ?_)
          · refine v_iinc (v := (nI (i1 + 1))) (lv' := [some (.ref (lay (3, 0))), some (.int (nI a)), some (.int (nI b)), some (.int q.1), some (.int q.2), some (.int (nI (i1 + 1))), some (.ref (lay (20, i1))), some (.int (K_leads μ i1 (nI a)))]) X (xdec_at tX2_firstLegOf_1 5 rfl) rfl (nI_1 _) (by decide) rfl ?_
            refine v_goto (tgt := 9) X (xdec_at tX2_firstLegOf_1 6 rfl) (by decide) ?_
            refine v_le (lv' := [some (.ref (lay (3, 0))), some (.int (nI a)), some (.int (nI b)), some (.int (K_fl1 μ tb.1 a b (i1 + 1)).1), some (.int (K_fl1 μ tb.1 a b (i1 + 1)).2), some (.int (nI (i1 + 1))), none, none]) (by simp [xle, K_fl1, ← hq, K_fls, c_38, c_45, c_75]) ?_
            exact ih1
          · refine v_iload X (xdec_at tX2_firstLegOf_1 1 rfl) rfl ?_
            refine v_istore_n (lv' := [some (.ref (lay (3, 0))), some (.int (nI a)), some (.int (nI b)), some (.int (nI i1)), some (.int q.2), some (.int (nI i1)), some (.ref (lay (20, i1))), some (.int (K_leads μ i1 (nI a)))]) X (xdec_at tX2_firstLegOf_1 2 rfl) rfl (by decide) rfl ?_
            refine v_iload X (xdec_at tX2_firstLegOf_1 3 rfl) rfl ?_
            refine v_istore (lv' := [some (.ref (lay (3, 0))), some (.int (nI a)), some (.int (nI b)), some (.int (nI i1)), some (.int (K_leads μ i1 (nI a))), some (.int (nI i1)), some (.ref (lay (20, i1))), some (.int (K_leads μ i1 (nI a)))]) X (xdec_at tX2_firstLegOf_1 4 rfl) (by decide) rfl ?_
            refine v_iinc (v := (nI (i1 + 1))) (lv' := [some (.ref (lay (3, 0))), some (.int (nI a)), some (.int (nI b)), some (.int (nI i1)), some (.int (K_leads μ i1 (nI a))), some (.int (nI (i1 + 1))), some (.ref (lay (20, i1))), some (.int (K_leads μ i1 (nI a)))]) X (xdec_at tX2_firstLegOf_1 5 rfl) rfl (nI_1 _) (by decide) rfl ?_
            refine v_goto (tgt := 9) X (xdec_at tX2_firstLegOf_1 6 rfl) (by decide) ?_
            refine v_le (lv' := [some (.ref (lay (3, 0))), some (.int (nI a)), some (.int (nI b)), some (.int (K_fl1 μ tb.1 a b (i1 + 1)).1), some (.int (K_fl1 μ tb.1 a b (i1 + 1)).2), some (.int (nI (i1 + 1))), none, none]) (by simp [xle, K_fl1, ← hq, K_fls, c_38, c_45, (eq_true c_75)]) ?_
            exact ih1
  · obtain ⟨q, hq⟩ : ∃ q, q = K_fl1 μ tb.1 a b G := ⟨_, rfl⟩
    refine v_le (lv' := [some (.ref (lay (3, 0))), some (.int (nI a)), some (.int (nI b)), some (.int q.1), some (.int q.2), some (.int (nI G)), none, none]) (by simp [xle, hq]) ?_
    refine v_iload X (xdec_at tX2_firstLegOf_0 6 rfl) rfl ?_
    refine v_aload_n X (xdec_at tX2_firstLegOf_0 7 rfl) rfl rfl ?_
    refine x_get (v := .int (μ.1 10 0)) X hinX2 (3, 0) cY_R rfl 4 (by decide) (xw_at tW_2 6 rfl) rfl rfl rfl (xdec_at tX2_firstLegOf_0 8 rfl) ?_
    refine v_icmp_ge (tgt := 91) X (xdec_at tX2_firstLegOf_0 9 rfl) (by decide) (fun c_15 => ?_) (fun c_15 => ?_)
    · refine v_iload_n X (xdec_at tX2_firstLegOf_1 7 rfl) rfl rfl ?_
      exact v_iret X hr (xdec_at tX2_firstLegOf_1 8 rfl) (Nat.le_of_ble_eq_true rfl) (Nat.le_of_ble_eq_true rfl) ⟨rfl, by rw [hGn, hq], rfl⟩
    · exact absurd (show μ.1 10 0 ≤ nI G by rw [eG]; exact Int32.le_refl _) c_15

set_option maxRecDepth 100000 in
set_option maxHeartbeats 4000000 in
theorem kzX2_reckonDirect (l : Launch) (Z : xZ) (B0 : Nat) (lay : xK → Nat) (μ : Mu) (tb : Tb) (r : xK → Option xE) (hI : RI μ) (hL : KL μ) : YM l yX2_reckonDirect cX2_reckonDirect 3 ((none : Option FieldType)) 2 63 0 0 Z B0 [.ref (lay (3, 0))] lay (cY Z lay μ tb r) (fun v lay' C' => lay = lay' ∧ v = none ∧ C' = (cY Z lay μ (K_dir μ tb.1, tb.2) r)) := by
  refine YM_of myX2_reckonDirect.2.2 RX2 rfl [some (.ref (lay (3, 0))), none, none] rfl (Nat.le_of_ble_eq_true rfl) ?_
  intro P1 P2 P3 P4 P5 P6 P7 P8 X hr hnm
  obtain ⟨G, hG20, eG⟩ := hI.2.1
  have hGn := nG_of hG20 eG
  refine v_aload_n X (xdec_at tX2_reckonDirect_0 0 rfl) rfl rfl ?_
  refine x_get (v := .ref (lay (5, 0))) X hinX2 (3, 0) cY_R rfl 1 (by decide) (xw_at tW_2 3 rfl) rfl rfl rfl (xdec_at tX2_reckonDirect_0 1 rfl) ?_
  refine v_ldc (v := 1000000) X (xw_at tW_1 13 rfl) (xdec_at tX2_reckonDirect_0 2 rfl) ?_
  refine v_callSO X mJfill [.ref (lay (5, 0)), .int 1000000] [] (kyJ7_fill_53178 l Z B0 lay (cY Z lay μ tb r) (5, 0) 64 (by decide) (tb.1 0) cY_t0 1000000) (xw_at tW_1 14 rfl) rfl (by rfl) (Nat.le_of_ble_eq_true rfl) (xdec_at tX2_reckonDirect_0 3 rfl) ⟨(Nat.le_of_ble_eq_true rfl), (Nat.le_of_ble_eq_true rfl)⟩ ⟨(Nat.le_of_ble_eq_true rfl), (Nat.le_of_ble_eq_true rfl)⟩ ?_
  rintro v9 lay9 C9 ⟨rfl, rfl, rfl⟩
  rw [fill_worldY]
  refine v_iconst (v := 0) X (xdec_at tX2_reckonDirect_0 4 rfl) (by decide) ?_
  refine v_istore_n (lv' := [some (.ref (lay (3, 0))), some (.int 0), none]) X (xdec_at tX2_reckonDirect_0 5 rfl) rfl (by decide) rfl ?_
  refine v_for G (fun j9 => (cY Z lay μ ((K_d1 μ j9 (T_fill tb.1 1000000)), tb.2) r)) (fun j9 => [some (.ref (lay (3, 0))), some (.int (nI j9)), none]) 11 [] (fun i1 hi1 ih1 => ?_) ?_
  · obtain ⟨T, hT⟩ : ∃ z, z = (K_d1 μ i1 (T_fill tb.1 1000000)) := ⟨_, rfl⟩
    refine v_c (C' := (cY Z lay μ (T, tb.2) r)) (by rw [hT]) ?_
    have hg1 : i1 < nG μ := by rw [hGn]; exact hi1
    refine v_iload_n X (xdec_at tX2_reckonDirect_0 6 rfl) rfl rfl ?_
    refine v_aload_n X (xdec_at tX2_reckonDirect_0 7 rfl) rfl rfl ?_
    refine x_get (v := .int (μ.1 10 0)) X hinX2 (3, 0) cY_R rfl 4 (by decide) (xw_at tW_2 6 rfl) rfl rfl rfl (xdec_at tX2_reckonDirect_0 8 rfl) ?_
    refine v_icmp_ge (tgt := 83) X (xdec_at tX2_reckonDirect_0 9 rfl) (by decide) (fun c_16 => ?_) (fun c_16 => ?_)
    · exact absurd c_16 (by rw [eG]; exact nI_ge hi1 (by omega))
    · refine v_aload_n X (xdec_at tX2_reckonDirect_0 10 rfl) rfl rfl ?_
      refine x_get (v := .ref (lay (4, 0))) X hinX2 (3, 0) cY_R rfl 0 (by decide) (xw_at tW_2 2 rfl) rfl rfl rfl (xdec_at tX2_reckonDirect_0 11 rfl) ?_
      refine v_iload_n X (xdec_at tX2_reckonDirect_0 12 rfl) rfl rfl ?_
      refine x_aald5 (v := .ref (lay (20, i1))) X (4, 0) cY_gs (vp_in_nI (n := i1) (N := 20) (by omega) (by decide)) rfl (aq_rf (f := fun i => lay (20, i)) (ix_nI (by omega)) hg1) (xdec_at tX2_reckonDirect_0 13 rfl) ?_
      refine v_astore_n (lv' := [some (.ref (lay (3, 0))), some (.int (nI i1)), some (.ref (lay (20, i1)))]) X (xdec_at tX2_reckonDirect_0 14 rfl) rfl (by decide) rfl ?_
      refine v_aload_n X (xdec_at tX2_reckonDirect_0 15 rfl) rfl rfl ?_
      refine x_get (v := .int (μ.1 14 i1)) X hinX0 (20, i1) (cY_G (μ := μ) hg1) rfl 3 (by decide) (xw_at tW_9 0 rfl) rfl rfl rfl (xdec_at tX2_reckonDirect_0 16 rfl) ?_
      refine v_if_ne (tgt := 77) X (xdec_at tX2_reckonDirect_0 17 rfl) (by decide) (fun c_30 => ?_) (fun c_30 => ?_)
      · refine v_iinc (v := (nI (i1 + 1))) (lv' := [some (.ref (lay (3, 0))), some (.int (nI (i1 + 1))), some (.ref (lay (20, i1)))]) X (xdec_at tX2_reckonDirect_0 38 rfl) rfl (nI_1 _) (by decide) rfl ?_
        refine v_goto (tgt := 11) X (xdec_at tX2_reckonDirect_0 39 rfl) (by decide) ?_
        refine v_le (lv' := [some (.ref (lay (3, 0))), some (.int (nI (i1 + 1))), none]) (by simp [xle]) ?_
        exact v_c (C' := (cY Z lay μ ((K_d1 μ (i1 + 1) (T_fill tb.1 1000000)), tb.2) r)) (by rw [K_d1, ← hT]; simp [K_ds, c_30]) ih1
      · refine v_aload_n X (xdec_at tX2_reckonDirect_0 18 rfl) rfl rfl ?_
        refine v_aload_n X (xdec_at tX2_reckonDirect_0 19 rfl) rfl rfl ?_
        refine x_get (v := .ref (lay (10, ix (μ.1 11 i1)))) X hinX0 (20, i1) (cY_G (μ := μ) hg1) rfl 0 (by decide) (xw_at tW_8 31 rfl) rfl rfl rfl (xdec_at tX2_reckonDirect_0 20 rfl) ?_
        refine x_get (v := .int (nI (ix (μ.1 11 i1)))) X hinX1 (10, ix (μ.1 11 i1)) (cY_P (μ := μ) (hL i1 hg1).1) rfl 0 (by decide) (xw_at tW_7 4 rfl) rfl rfl rfl (xdec_at tX2_reckonDirect_0 21 rfl) ?_
        refine v_aload_n X (xdec_at tX2_reckonDirect_0 22 rfl) rfl rfl ?_
        refine x_get (v := .ref (lay (10, ix (μ.1 12 i1)))) X hinX0 (20, i1) (cY_G (μ := μ) hg1) rfl 1 (by decide) (xw_at tW_8 34 rfl) rfl rfl rfl (xdec_at tX2_reckonDirect_0 23 rfl) ?_
        refine x_get (v := .int (nI (ix (μ.1 12 i1)))) X hinX1 (10, ix (μ.1 12 i1)) (cY_P (μ := μ) (hL i1 hg1).2.1) rfl 0 (by decide) (xw_at tW_7 4 rfl) rfl rfl rfl (xdec_at tX2_reckonDirect_0 24 rfl) ?_
        refine v_aload_n X (xdec_at tX2_reckonDirect_0 25 rfl) rfl rfl ?_
        refine x_get (v := .int (μ.1 13 i1)) X hinX0 (20, i1) (cY_G (μ := μ) hg1) rfl 2 (by decide) (xw_at tW_8 38 rfl) rfl rfl rfl (xdec_at tX2_reckonDirect_0 26 rfl) ?_
        refine v_callV X myX2_shorten [.int (nI (ix (μ.1 11 i1))), .int (nI (ix (μ.1 12 i1))), .int (μ.1 13 i1)] [] (kzX2_shorten l Z B0 lay μ (T, tb.2) r (ix (μ.1 11 i1)) (ix (μ.1 12 i1)) (by have h1 := (hL i1 hg1).1; have h2 := (hL i1 hg1).2.1; have h3 := nP8 hI; omega) (by have h1 := (hL i1 hg1).1; have h2 := (hL i1 hg1).2.1; have h3 := nP8 hI; omega) (μ.1 13 i1)) (xw_at tW_1 17 rfl) (3, 0) cY_R rfl rfl rfl rfl (by rfl) (Nat.le_of_ble_eq_true rfl) (xdec_at tX2_reckonDirect_0 27 rfl) ⟨(Nat.le_of_ble_eq_true rfl), (Nat.le_of_ble_eq_true rfl)⟩ ⟨(Nat.le_of_ble_eq_true rfl), (Nat.le_of_ble_eq_true rfl)⟩ ?_
        rintro v9 lay9 C9 ⟨rfl, rfl, rfl⟩
        refine v_aload_n X (xdec_at tX2_reckonDirect_0 28 rfl) rfl rfl ?_
        refine v_aload_n X (xdec_at tX2_reckonDirect_0 29 rfl) rfl rfl ?_
        refine x_get (v := .ref (lay (10, ix (μ.1 12 i1)))) X hinX0 (20, i1) (cY_G (μ := μ) hg1) rfl 1 (by decide) (xw_at tW_8 34 rfl) rfl rfl rfl (xdec_at tX2_reckonDirect_0 30 rfl) ?_
        refine x_get (v := .int (nI (ix (μ.1 12 i1)))) X hinX1 (10, ix (μ.1 12 i1)) (cY_P (μ := μ) (hL i1 hg1).2.1) rfl 0 (by decide) (xw_at tW_7 4 rfl) rfl rfl rfl (xdec_at tX2_reckonDirect_0 31 rfl) ?_
        refine v_aload_n X (xdec_at tX2_reckonDirect_0 32 rfl) rfl rfl ?_
        refine x_get (v := .ref (lay (10, ix (μ.1 11 i1)))) X hinX0 (20, i1) (cY_G (μ := μ) hg1) rfl 0 (by decide) (xw_at tW_8 31 rfl) rfl rfl rfl (xdec_at tX2_reckonDirect_0 33 rfl) ?_
        refine x_get (v := .int (nI (ix (μ.1 11 i1)))) X hinX1 (10, ix (μ.1 11 i1)) (cY_P (μ := μ) (hL i1 hg1).1) rfl 0 (by decide) (xw_at tW_7 4 rfl) rfl rfl rfl (xdec_at tX2_reckonDirect_0 34 rfl) ?_
        refine v_aload_n X (xdec_at tX2_reckonDirect_0 35 rfl) rfl rfl ?_
        refine x_get (v := .int (μ.1 13 i1)) X hinX0 (20, i1) (cY_G (μ := μ) hg1) rfl 2 (by decide) (xw_at tW_8 38 rfl) rfl rfl rfl (xdec_at tX2_reckonDirect_0 36 rfl) ?_
        refine v_callV X myX2_shorten [.int (nI (ix (μ.1 12 i1))), .int (nI (ix (μ.1 11 i1))), .int (μ.1 13 i1)] [] (kzX2_shorten l Z B0 lay μ ((K_sh T (ix (μ.1 11 i1)) (ix (μ.1 12 i1)) (μ.1 13 i1)), tb.2) r (ix (μ.1 12 i1)) (ix (μ.1 11 i1)) (by have h1 := (hL i1 hg1).1; have h2 := (hL i1 hg1).2.1; have h3 := nP8 hI; omega) (by have h1 := (hL i1 hg1).1; have h2 := (hL i1 hg1).2.1; have h3 := nP8 hI; omega) (μ.1 13 i1)) (xw_at tW_1 17 rfl) (3, 0) cY_R rfl rfl rfl rfl (by rfl) (Nat.le_of_ble_eq_true rfl) (xdec_at tX2_reckonDirect_0 37 rfl) ⟨(Nat.le_of_ble_eq_true rfl), (Nat.le_of_ble_eq_true rfl)⟩ ⟨(Nat.le_of_ble_eq_true rfl), (Nat.le_of_ble_eq_true rfl)⟩ ?_
        rintro v9 lay9 C9 ⟨rfl, rfl, rfl⟩
        refine v_iinc (v := (nI (i1 + 1))) (lv' := [some (.ref (lay (3, 0))), some (.int (nI (i1 + 1))), some (.ref (lay (20, i1)))]) X (xdec_at tX2_reckonDirect_0 38 rfl) rfl (nI_1 _) (by decide) rfl ?_
        refine v_goto (tgt := 11) X (xdec_at tX2_reckonDirect_0 39 rfl) (by decide) ?_
        refine v_le (lv' := [some (.ref (lay (3, 0))), some (.int (nI (i1 + 1))), none]) (by simp [xle]) ?_
        exact v_c (C' := (cY Z lay μ ((K_d1 μ (i1 + 1) (T_fill tb.1 1000000)), tb.2) r)) (by rw [K_d1, ← hT]; simp [K_ds, (eq_true c_30)]) ih1
  · obtain ⟨T, hT⟩ : ∃ z, z = (K_d1 μ G (T_fill tb.1 1000000)) := ⟨_, rfl⟩
    refine v_c (C' := (cY Z lay μ (T, tb.2) r)) (by rw [hT]) ?_
    refine v_iload_n X (xdec_at tX2_reckonDirect_0 6 rfl) rfl rfl ?_
    refine v_aload_n X (xdec_at tX2_reckonDirect_0 7 rfl) rfl rfl ?_
    refine x_get (v := .int (μ.1 10 0)) X hinX2 (3, 0) cY_R rfl 4 (by decide) (xw_at tW_2 6 rfl) rfl rfl rfl (xdec_at tX2_reckonDirect_0 8 rfl) ?_
    refine v_icmp_ge (tgt := 83) X (xdec_at tX2_reckonDirect_0 9 rfl) (by decide) (fun c_16 => ?_) (fun c_16 => ?_)
    · exact v_vret X hr (xdec_at tX2_reckonDirect_1 0 rfl) (Nat.le_of_ble_eq_true rfl) (Nat.le_of_ble_eq_true rfl) ⟨rfl, rfl, by rw [hT, K_dir, hGn]⟩
    · exact absurd (show μ.1 10 0 ≤ nI G by rw [eG]; exact Int32.le_refl _) c_16
set_option maxRecDepth 100000 in
set_option maxHeartbeats 4000000 in
theorem kzX2_reckonLeast (l : Launch) (Z : xZ) (B0 : Nat) (lay : xK → Nat) (μ : Mu) (tb : Tb) (r : xK → Option xE)  : YM l yX2_reckonLeast cX2_reckonLeast 5 ((none : Option FieldType)) 2 60 0 0 Z B0 [.ref (lay (3, 0))] lay (cY Z lay μ tb r) (fun v lay' C' => lay = lay' ∧ v = none ∧ C' = (cY Z lay μ (K_least tb.1, tb.2) r)) := by
  refine YM_of myX2_reckonLeast.2.2 RX2 rfl [some (.ref (lay (3, 0))), none, none, none, none] rfl (Nat.le_of_ble_eq_true rfl) ?_
  intro P1 P2 P3 P4 P5 P6 P7 P8 X hr hnm
  refine v_aload_n X (xdec_at tX2_reckonLeast_0 0 rfl) rfl rfl ?_
  refine x_get (v := .ref (lay (5, 0))) X hinX2 (3, 0) cY_R rfl 1 (by decide) (xw_at tW_2 3 rfl) rfl rfl rfl (xdec_at tX2_reckonLeast_0 1 rfl) ?_
  refine v_iconst (v := 0) X (xdec_at tX2_reckonLeast_0 2 rfl) (by decide) ?_
  refine v_aload_n X (xdec_at tX2_reckonLeast_0 3 rfl) rfl rfl ?_
  refine x_get (v := .ref (lay (6, 0))) X hinX2 (3, 0) cY_R rfl 2 (by decide) (xw_at tW_2 4 rfl) rfl rfl rfl (xdec_at tX2_reckonLeast_0 4 rfl) ?_
  refine v_iconst (v := 0) X (xdec_at tX2_reckonLeast_0 5 rfl) (by decide) ?_
  refine v_aload_n X (xdec_at tX2_reckonLeast_0 6 rfl) rfl rfl ?_
  refine x_get (v := .ref (lay (5, 0))) X hinX2 (3, 0) cY_R rfl 1 (by decide) (xw_at tW_2 3 rfl) rfl rfl rfl (xdec_at tX2_reckonLeast_0 7 rfl) ?_
  refine x_alen (v := 64) X (5, 0) 0 (cY_t0 (tb := tb)) rfl rfl rfl (xdec_at tX2_reckonLeast_0 8 rfl) ?_
  refine x_copyi (C' := (cY Z lay μ (T_copy tb.1, tb.2) r)) X (xw_at tW_1 29 rfl) (5, 0) (6, 0) cY_t0 cY_t1 rfl rfl (by decide) (by decide) (by decide) (fun j => by rw [copy_worldY]; rfl) (Nat.le_of_ble_eq_true rfl) (Nat.le_of_ble_eq_true rfl) (xdec_at tX2_reckonLeast_0 9 rfl) ?_
  refine v_iconst (v := 0) X (xdec_at tX2_reckonLeast_0 10 rfl) (by decide) ?_
  refine v_istore_n (lv' := [some (.ref (lay (3, 0))), some (.int 0), none, none, none]) X (xdec_at tX2_reckonLeast_0 11 rfl) rfl (by decide) rfl ?_
  refine v_for 8 (fun j9 => (cY Z lay μ ((K_l1 j9 (T_copy tb.1)), tb.2) r)) (fun j9 => [some (.ref (lay (3, 0))), some (.int (nI j9)), none, none, none]) 20 [] (fun i1 hi1 ih1 => ?_) ?_
  · obtain ⟨A, hA⟩ : ∃ z, z = (K_l1 i1 (T_copy tb.1)) := ⟨_, rfl⟩
    refine v_c (C' := (cY Z lay μ (A, tb.2) r)) (by rw [hA]) ?_
    refine v_iload_n X (xdec_at tX2_reckonLeast_0 12 rfl) rfl rfl ?_
    refine v_bipush (v := 8) X (xdec_at tX2_reckonLeast_0 13 rfl) (by decide) ?_
    refine v_icmp_ge (tgt := 43) X (xdec_at tX2_reckonLeast_0 14 rfl) (by decide) (fun c_23 => ?_) (fun c_23 => ?_)
    · exact absurd c_23 (nI_ge (b := 8) hi1 (by decide))
    · refine v_aload_n X (xdec_at tX2_reckonLeast_0 15 rfl) rfl rfl ?_
      refine x_get (v := .ref (lay (6, 0))) X hinX2 (3, 0) cY_R rfl 2 (by decide) (xw_at tW_2 4 rfl) rfl rfl rfl (xdec_at tX2_reckonLeast_0 16 rfl) ?_
      refine v_iload_n X (xdec_at tX2_reckonLeast_0 17 rfl) rfl rfl ?_
      refine v_iload_n X (xdec_at tX2_reckonLeast_0 18 rfl) rfl rfl ?_
      refine v_callS X myX2_cell [.int (nI i1), .int (nI i1)] [.ref (lay (6, 0))] (kyX2_cell l Z B0 lay (cY Z lay μ (A, tb.2) r) (nI i1) (nI i1)) (xw_at tW_1 20 rfl) rfl rfl (by rfl) (Nat.le_of_ble_eq_true rfl) (xdec_at tX2_reckonLeast_0 19 rfl) ⟨(Nat.le_of_ble_eq_true rfl), (Nat.le_of_ble_eq_true rfl)⟩ ⟨(Nat.le_of_ble_eq_true rfl), (Nat.le_of_ble_eq_true rfl)⟩ ?_
      rintro v9 lay9 C9 ⟨rfl, rfl, rfl⟩
      rw [cell_nI i1 i1]
      refine v_iconst (v := 0) X (xdec_at tX2_reckonLeast_0 20 rfl) (by decide) ?_
      refine x_iast (C' := (cY Z lay μ ((up2 A 1 (8 * i1 + i1) 0), tb.2) r)) X (6, 0) (cY_t1 (tb := (A, tb.2))) (vp_in_nI (by omega) (by decide)) rfl (by rw [show (nI (8 * i1 + i1)).toNatClampNeg = (8 * i1 + i1) from ix_nI (by omega)]; exact cwY_t1 (tb := (A, tb.2))) (xdec_at tX2_reckonLeast_0 21 rfl) ?_
      refine v_iinc (v := (nI (i1 + 1))) (lv' := [some (.ref (lay (3, 0))), some (.int (nI (i1 + 1))), none, none, none]) X (xdec_at tX2_reckonLeast_0 22 rfl) rfl (nI_1 _) (by decide) rfl ?_
      refine v_goto (tgt := 20) X (xdec_at tX2_reckonLeast_0 23 rfl) (by decide) ?_
      refine v_le (lv' := [some (.ref (lay (3, 0))), some (.int (nI (i1 + 1))), none, none, none]) (by simp [xle]) ?_
      exact v_c (C' := (cY Z lay μ ((K_l1 (i1 + 1) (T_copy tb.1)), tb.2) r)) (by rw [K_l1, ← hA]) ih1
  · refine v_iload_n X (xdec_at tX2_reckonLeast_0 12 rfl) rfl rfl ?_
    refine v_bipush (v := 8) X (xdec_at tX2_reckonLeast_0 13 rfl) (by decide) ?_
    refine v_icmp_ge (tgt := 43) X (xdec_at tX2_reckonLeast_0 14 rfl) (by decide) (fun c_23 => ?_) (fun c_23 => ?_)
    · refine v_iconst (v := 0) X (xdec_at tX2_reckonLeast_0 24 rfl) (by decide) ?_
      refine v_istore_n (lv' := [some (.ref (lay (3, 0))), some (.int 0), none, none, none]) X (xdec_at tX2_reckonLeast_0 25 rfl) rfl (by decide) rfl ?_
      refine v_for 8 (fun j9 => (cY Z lay μ ((K_f3 j9 (K_l1 8 (T_copy tb.1))), tb.2) r)) (fun j9 => [some (.ref (lay (3, 0))), some (.int (nI j9)), none, none, none]) 45 [] (fun i2 hi2 ih2 => ?_) ?_
      · obtain ⟨A, hA⟩ : ∃ z, z = (K_f3 i2 (K_l1 8 (T_copy tb.1))) := ⟨_, rfl⟩
        refine v_c (C' := (cY Z lay μ (A, tb.2) r)) (by rw [hA]) ?_
        refine v_iload_n X (xdec_at tX2_reckonLeast_0 26 rfl) rfl rfl ?_
        refine v_bipush (v := 8) X (xdec_at tX2_reckonLeast_0 27 rfl) (by decide) ?_
        refine v_icmp_ge (tgt := 133) X (xdec_at tX2_reckonLeast_0 28 rfl) (by decide) (fun c_48 => ?_) (fun c_48 => ?_)
        · exact absurd c_48 (nI_ge (b := 8) hi2 (by decide))
        · refine v_iconst (v := 0) X (xdec_at tX2_reckonLeast_0 29 rfl) (by decide) ?_
          refine v_istore_n (lv' := [some (.ref (lay (3, 0))), some (.int (nI i2)), some (.int 0), none, none]) X (xdec_at tX2_reckonLeast_0 30 rfl) rfl (by decide) rfl ?_
          refine v_for 8 (fun j9 => (cY Z lay μ ((K_f2 i2 j9 A), tb.2) r)) (fun j9 => [some (.ref (lay (3, 0))), some (.int (nI i2)), some (.int (nI j9)), none, none]) 53 [] (fun i3 hi3 ih3 => ?_) ?_
          · obtain ⟨B, hB⟩ : ∃ z, z = (K_f2 i2 i3 A) := ⟨_, rfl⟩
            refine v_c (C' := (cY Z lay μ (B, tb.2) r)) (by rw [hB]) ?_
            refine v_iload_n X (xdec_at tX2_reckonLeast_0 31 rfl) rfl rfl ?_
            refine v_bipush (v := 8) X (xdec_at tX2_reckonLeast_0 32 rfl) (by decide) ?_
            refine v_icmp_ge (tgt := 127) X (xdec_at tX2_reckonLeast_0 33 rfl) (by decide) (fun c_56 => ?_) (fun c_56 => ?_)
            · exact absurd c_56 (nI_ge (b := 8) hi3 (by decide))
            · refine v_iconst (v := 0) X (xdec_at tX2_reckonLeast_0 34 rfl) (by decide) ?_
              refine v_istore_n (lv' := [some (.ref (lay (3, 0))), some (.int (nI i2)), some (.int (nI i3)), some (.int 0), none]) X (xdec_at tX2_reckonLeast_0 35 rfl) rfl (by decide) rfl ?_
              refine v_for 8 (fun j9 => (cY Z lay μ ((K_f1 i2 i3 j9 B), tb.2) r)) (fun j9 => [some (.ref (lay (3, 0))), some (.int (nI i2)), some (.int (nI i3)), some (.int (nI j9)), none]) 61 [] (fun i4 hi4 ih4 => ?_) ?_
              · obtain ⟨D, hD⟩ : ∃ z, z = (K_f1 i2 i3 i4 B) := ⟨_, rfl⟩
                refine v_c (C' := (cY Z lay μ (D, tb.2) r)) (by rw [hD]) ?_
                refine v_iload_n X (xdec_at tX2_reckonLeast_0 36 rfl) rfl rfl ?_
                refine v_bipush (v := 8) X (xdec_at tX2_reckonLeast_0 37 rfl) (by decide) ?_
                refine v_icmp_ge (tgt := 121) X (xdec_at tX2_reckonLeast_0 38 rfl) (by decide) (fun c_64 => ?_) (fun c_64 => ?_)
                · exact absurd c_64 (nI_ge (b := 8) hi4 (by decide))
                · refine v_aload_n X (xdec_at tX2_reckonLeast_0 39 rfl) rfl rfl ?_
                  refine x_get (v := .ref (lay (6, 0))) X hinX2 (3, 0) cY_R rfl 2 (by decide) (xw_at tW_2 4 rfl) rfl rfl rfl (xdec_at tX2_reckonLeast_1 0 rfl) ?_
                  refine v_iload_n X (xdec_at tX2_reckonLeast_1 1 rfl) rfl rfl ?_
                  refine v_iload_n X (xdec_at tX2_reckonLeast_1 2 rfl) rfl rfl ?_
                  refine v_callS X myX2_cell [.int (nI i3), .int (nI i2)] [.ref (lay (6, 0))] (kyX2_cell l Z B0 lay (cY Z lay μ (D, tb.2) r) (nI i3) (nI i2)) (xw_at tW_1 20 rfl) rfl rfl (by rfl) (Nat.le_of_ble_eq_true rfl) (xdec_at tX2_reckonLeast_1 3 rfl) ⟨(Nat.le_of_ble_eq_true rfl), (Nat.le_of_ble_eq_true rfl)⟩ ⟨(Nat.le_of_ble_eq_true rfl), (Nat.le_of_ble_eq_true rfl)⟩ ?_
                  rintro v9 lay9 C9 ⟨rfl, rfl, rfl⟩
                  rw [cell_nI i3 i2]
                  refine x_iald (v := (D 1 (8 * i3 + i2))) X (6, 0) (cY_t1 (tb := (D, tb.2))) (vp_in_nI (by omega) (by decide)) rfl (congrArg (D 1) (ix_nI (by omega))) (xdec_at tX2_reckonLeast_1 4 rfl) ?_
                  refine v_aload_n X (xdec_at tX2_reckonLeast_1 5 rfl) rfl rfl ?_
                  refine x_get (v := .ref (lay (6, 0))) X hinX2 (3, 0) cY_R rfl 2 (by decide) (xw_at tW_2 4 rfl) rfl rfl rfl (xdec_at tX2_reckonLeast_1 6 rfl) ?_
                  refine v_iload_n X (xdec_at tX2_reckonLeast_1 7 rfl) rfl rfl ?_
                  refine v_iload_n X (xdec_at tX2_reckonLeast_1 8 rfl) rfl rfl ?_
                  refine v_callS X myX2_cell [.int (nI i2), .int (nI i4)] [.ref (lay (6, 0)), .int (D 1 (8 * i3 + i2))] (kyX2_cell l Z B0 lay (cY Z lay μ (D, tb.2) r) (nI i2) (nI i4)) (xw_at tW_1 20 rfl) rfl rfl (by rfl) (Nat.le_of_ble_eq_true rfl) (xdec_at tX2_reckonLeast_1 9 rfl) ⟨(Nat.le_of_ble_eq_true rfl), (Nat.le_of_ble_eq_true rfl)⟩ ⟨(Nat.le_of_ble_eq_true rfl), (Nat.le_of_ble_eq_true rfl)⟩ ?_
                  rintro v9 lay9 C9 ⟨rfl, rfl, rfl⟩
                  rw [cell_nI i2 i4]
                  refine x_iald (v := (D 1 (8 * i2 + i4))) X (6, 0) (cY_t1 (tb := (D, tb.2))) (vp_in_nI (by omega) (by decide)) rfl (congrArg (D 1) (ix_nI (by omega))) (xdec_at tX2_reckonLeast_1 10 rfl) ?_
                  refine v_iadd X (xdec_at tX2_reckonLeast_1 11 rfl) ?_
                  refine v_istore (lv' := [some (.ref (lay (3, 0))), some (.int (nI i2)), some (.int (nI i3)), some (.int (nI i4)), some (.int ((D 1 (8 * i3 + i2)) + (D 1 (8 * i2 + i4))))]) X (xdec_at tX2_reckonLeast_1 12 rfl) (by decide) rfl ?_
                  refine v_aload_n X (xdec_at tX2_reckonLeast_1 13 rfl) rfl rfl ?_
                  refine x_get (v := .ref (lay (6, 0))) X hinX2 (3, 0) cY_R rfl 2 (by decide) (xw_at tW_2 4 rfl) rfl rfl rfl (xdec_at tX2_reckonLeast_1 14 rfl) ?_
                  refine v_iload_n X (xdec_at tX2_reckonLeast_1 15 rfl) rfl rfl ?_
                  refine v_iload_n X (xdec_at tX2_reckonLeast_1 16 rfl) rfl rfl ?_
                  refine v_callS X myX2_cell [.int (nI i3), .int (nI i4)] [.ref (lay (6, 0))] (kyX2_cell l Z B0 lay (cY Z lay μ (D, tb.2) r) (nI i3) (nI i4)) (xw_at tW_1 20 rfl) rfl rfl (by rfl) (Nat.le_of_ble_eq_true rfl) (xdec_at tX2_reckonLeast_1 17 rfl) ⟨(Nat.le_of_ble_eq_true rfl), (Nat.le_of_ble_eq_true rfl)⟩ ⟨(Nat.le_of_ble_eq_true rfl), (Nat.le_of_ble_eq_true rfl)⟩ ?_
                  rintro v9 lay9 C9 ⟨rfl, rfl, rfl⟩
                  rw [cell_nI i3 i4]
                  refine v_aload_n X (xdec_at tX2_reckonLeast_1 18 rfl) rfl rfl ?_
                  refine x_get (v := .ref (lay (6, 0))) X hinX2 (3, 0) cY_R rfl 2 (by decide) (xw_at tW_2 4 rfl) rfl rfl rfl (xdec_at tX2_reckonLeast_1 19 rfl) ?_
                  refine v_iload_n X (xdec_at tX2_reckonLeast_1 20 rfl) rfl rfl ?_
                  refine v_iload_n X (xdec_at tX2_reckonLeast_1 21 rfl) rfl rfl ?_
                  refine v_callS X myX2_cell [.int (nI i3), .int (nI i4)] [.ref (lay (6, 0)), .int (nI (8 * i3 + i4)), .ref (lay (6, 0))] (kyX2_cell l Z B0 lay (cY Z lay μ (D, tb.2) r) (nI i3) (nI i4)) (xw_at tW_1 20 rfl) rfl rfl (by rfl) (Nat.le_of_ble_eq_true rfl) (xdec_at tX2_reckonLeast_1 22 rfl) ⟨(Nat.le_of_ble_eq_true rfl), (Nat.le_of_ble_eq_true rfl)⟩ ⟨(Nat.le_of_ble_eq_true rfl), (Nat.le_of_ble_eq_true rfl)⟩ ?_
                  rintro v9 lay9 C9 ⟨rfl, rfl, rfl⟩
                  rw [cell_nI i3 i4]
                  refine x_iald (v := (D 1 (8 * i3 + i4))) X (6, 0) (cY_t1 (tb := (D, tb.2))) (vp_in_nI (by omega) (by decide)) rfl (congrArg (D 1) (ix_nI (by omega))) (xdec_at tX2_reckonLeast_1 23 rfl) ?_
                  refine v_iload X (xdec_at tX2_reckonLeast_1 24 rfl) rfl ?_
                  refine v_min X (xw_at tW_1 23 rfl) ⟨(Nat.le_of_ble_eq_true rfl), (Nat.le_of_ble_eq_true rfl)⟩ ⟨(Nat.le_of_ble_eq_true rfl), (Nat.le_of_ble_eq_true rfl)⟩ (xdec_at tX2_reckonLeast_1 25 rfl) ?_
                  refine x_iast (C' := (cY Z lay μ ((up2 D 1 (8 * i3 + i4) (K_min (D 1 (8 * i3 + i4)) ((D 1 (8 * i3 + i2)) + (D 1 (8 * i2 + i4))))), tb.2) r)) X (6, 0) (cY_t1 (tb := (D, tb.2))) (vp_in_nI (by omega) (by decide)) rfl (by rw [show (nI (8 * i3 + i4)).toNatClampNeg = (8 * i3 + i4) from ix_nI (by omega)]; exact cwY_t1 (tb := (D, tb.2))) (xdec_at tX2_reckonLeast_1 26 rfl) ?_
                  refine v_iinc (v := (nI (i4 + 1))) (lv' := [some (.ref (lay (3, 0))), some (.int (nI i2)), some (.int (nI i3)), some (.int (nI (i4 + 1))), some (.int ((D 1 (8 * i3 + i2)) + (D 1 (8 * i2 + i4))))]) X (xdec_at tX2_reckonLeast_1 27 rfl) rfl (nI_1 _) (by decide) rfl ?_
                  refine v_goto (tgt := 61) X (xdec_at tX2_reckonLeast_1 28 rfl) (by decide) ?_
                  refine v_le (lv' := [some (.ref (lay (3, 0))), some (.int (nI i2)), some (.int (nI i3)), some (.int (nI (i4 + 1))), none]) (by simp [xle]) ?_
                  exact v_c (C' := (cY Z lay μ ((K_f1 i2 i3 (i4 + 1) B), tb.2) r)) (by rw [K_f1, ← hD]) ih4
              · refine v_iload_n X (xdec_at tX2_reckonLeast_0 36 rfl) rfl rfl ?_
                refine v_bipush (v := 8) X (xdec_at tX2_reckonLeast_0 37 rfl) (by decide) ?_
                refine v_icmp_ge (tgt := 121) X (xdec_at tX2_reckonLeast_0 38 rfl) (by decide) (fun _ => ?_) (fun h9 => absurd c_23 h9)
                refine v_iinc (v := (nI (i3 + 1))) (lv' := [some (.ref (lay (3, 0))), some (.int (nI i2)), some (.int (nI (i3 + 1))), some (.int (nI 8)), none]) X (xdec_at tX2_reckonLeast_1 29 rfl) rfl (nI_1 _) (by decide) rfl ?_
                refine v_goto (tgt := 53) X (xdec_at tX2_reckonLeast_1 30 rfl) (by decide) ?_
                refine v_le (lv' := [some (.ref (lay (3, 0))), some (.int (nI i2)), some (.int (nI (i3 + 1))), none, none]) (by simp [xle]) ?_
                exact v_c (C' := (cY Z lay μ ((K_f2 i2 (i3 + 1) A), tb.2) r)) (by rw [K_f2, ← hB]) ih3
          · refine v_iload_n X (xdec_at tX2_reckonLeast_0 31 rfl) rfl rfl ?_
            refine v_bipush (v := 8) X (xdec_at tX2_reckonLeast_0 32 rfl) (by decide) ?_
            refine v_icmp_ge (tgt := 127) X (xdec_at tX2_reckonLeast_0 33 rfl) (by decide) (fun _ => ?_) (fun h9 => absurd c_23 h9)
            refine v_iinc (v := (nI (i2 + 1))) (lv' := [some (.ref (lay (3, 0))), some (.int (nI (i2 + 1))), some (.int (nI 8)), none, none]) X (xdec_at tX2_reckonLeast_1 31 rfl) rfl (nI_1 _) (by decide) rfl ?_
            refine v_goto (tgt := 45) X (xdec_at tX2_reckonLeast_1 32 rfl) (by decide) ?_
            refine v_le (lv' := [some (.ref (lay (3, 0))), some (.int (nI (i2 + 1))), none, none, none]) (by simp [xle]) ?_
            exact v_c (C' := (cY Z lay μ ((K_f3 (i2 + 1) (K_l1 8 (T_copy tb.1))), tb.2) r)) (by rw [K_f3, ← hA]) ih2
      · refine v_iload_n X (xdec_at tX2_reckonLeast_0 26 rfl) rfl rfl ?_
        refine v_bipush (v := 8) X (xdec_at tX2_reckonLeast_0 27 rfl) (by decide) ?_
        refine v_icmp_ge (tgt := 133) X (xdec_at tX2_reckonLeast_0 28 rfl) (by decide) (fun _ => ?_) (fun h9 => absurd c_23 h9)
        exact v_vret X hr (xdec_at tX2_reckonLeast_1 33 rfl) (Nat.le_of_ble_eq_true rfl) (Nat.le_of_ble_eq_true rfl) ⟨rfl, rfl, rfl⟩
    · exact absurd (show (8 : Int32) ≤ nI 8 by decide) c_23
set_option maxRecDepth 100000 in
set_option maxHeartbeats 4000000 in
theorem kzX2_reckonOnward (l : Launch) (Z : xZ) (B0 : Nat) (lay : xK → Nat) (μ : Mu) (tb : Tb) (r : xK → Option xE) (hI : RI μ) (hL : KL μ) : YM l yX2_reckonOnward cX2_reckonOnward 3 ((none : Option FieldType)) 2 48 0 0 Z B0 [.ref (lay (3, 0))] lay (cY Z lay μ tb r) (fun v lay' C' => lay = lay' ∧ v = none ∧ C' = (cY Z lay μ (K_o2 μ 8 tb.1, tb.2) r)) := by
  refine YM_of myX2_reckonOnward.2.2 RX2 rfl [some (.ref (lay (3, 0))), none, none] rfl (Nat.le_of_ble_eq_true rfl) ?_
  intro P1 P2 P3 P4 P5 P6 P7 P8 X hr hnm
  refine v_iconst (v := 0) X (xdec_at tX2_reckonOnward_0 0 rfl) (by decide) ?_
  refine v_istore_n (lv' := [some (.ref (lay (3, 0))), some (.int 0), none]) X (xdec_at tX2_reckonOnward_0 1 rfl) rfl (by decide) rfl ?_
  refine v_for 8 (fun j9 => (cY Z lay μ ((K_o2 μ j9 tb.1), tb.2) r)) (fun j9 => [some (.ref (lay (3, 0))), some (.int (nI j9)), none]) 2 [] (fun i1 hi1 ih1 => ?_) ?_
  · obtain ⟨A, hA⟩ : ∃ z, z = (K_o2 μ i1 tb.1) := ⟨_, rfl⟩
    refine v_c (C' := (cY Z lay μ (A, tb.2) r)) (by rw [hA]) ?_
    refine v_iload_n X (xdec_at tX2_reckonOnward_0 2 rfl) rfl rfl ?_
    refine v_bipush (v := 8) X (xdec_at tX2_reckonOnward_0 3 rfl) (by decide) ?_
    refine v_icmp_ge (tgt := 44) X (xdec_at tX2_reckonOnward_0 4 rfl) (by decide) (fun c_5 => ?_) (fun c_5 => ?_)
    · exact absurd c_5 (nI_ge (b := 8) hi1 (by decide))
    · refine v_iconst (v := 0) X (xdec_at tX2_reckonOnward_0 5 rfl) (by decide) ?_
      refine v_istore_n (lv' := [some (.ref (lay (3, 0))), some (.int (nI i1)), some (.int 0)]) X (xdec_at tX2_reckonOnward_0 6 rfl) rfl (by decide) rfl ?_
      refine v_for 8 (fun j9 => (cY Z lay μ ((K_o1 μ i1 j9 A), tb.2) r)) (fun j9 => [some (.ref (lay (3, 0))), some (.int (nI i1)), some (.int (nI j9))]) 10 [] (fun i2 hi2 ih2 => ?_) ?_
      · obtain ⟨B, hB⟩ : ∃ z, z = (K_o1 μ i1 i2 A) := ⟨_, rfl⟩
        refine v_c (C' := (cY Z lay μ (B, tb.2) r)) (by rw [hB]) ?_
        refine v_iload_n X (xdec_at tX2_reckonOnward_0 7 rfl) rfl rfl ?_
        refine v_bipush (v := 8) X (xdec_at tX2_reckonOnward_0 8 rfl) (by decide) ?_
        refine v_icmp_ge (tgt := 38) X (xdec_at tX2_reckonOnward_0 9 rfl) (by decide) (fun c_13 => ?_) (fun c_13 => ?_)
        · exact absurd c_13 (nI_ge (b := 8) hi2 (by decide))
        · refine v_aload_n X (xdec_at tX2_reckonOnward_0 10 rfl) rfl rfl ?_
          refine x_get (v := .ref (lay (7, 0))) X hinX2 (3, 0) cY_R rfl 3 (by decide) (xw_at tW_2 5 rfl) rfl rfl rfl (xdec_at tX2_reckonOnward_0 11 rfl) ?_
          refine v_iload_n X (xdec_at tX2_reckonOnward_0 12 rfl) rfl rfl ?_
          refine v_iload_n X (xdec_at tX2_reckonOnward_0 13 rfl) rfl rfl ?_
          refine v_callS X myX2_cell [.int (nI i1), .int (nI i2)] [.ref (lay (7, 0))] (kyX2_cell l Z B0 lay (cY Z lay μ (B, tb.2) r) (nI i1) (nI i2)) (xw_at tW_1 20 rfl) rfl rfl (by rfl) (Nat.le_of_ble_eq_true rfl) (xdec_at tX2_reckonOnward_0 14 rfl) ⟨(Nat.le_of_ble_eq_true rfl), (Nat.le_of_ble_eq_true rfl)⟩ ⟨(Nat.le_of_ble_eq_true rfl), (Nat.le_of_ble_eq_true rfl)⟩ ?_
          rintro v9 lay9 C9 ⟨rfl, rfl, rfl⟩
          rw [cell_nI i1 i2]
          refine v_aload_n X (xdec_at tX2_reckonOnward_0 15 rfl) rfl rfl ?_
          refine v_iload_n X (xdec_at tX2_reckonOnward_0 16 rfl) rfl rfl ?_
          refine v_iload_n X (xdec_at tX2_reckonOnward_0 17 rfl) rfl rfl ?_
          refine v_callV X myX2_firstLegOf [.int (nI i1), .int (nI i2)] [.int (nI (8 * i1 + i2)), .ref (lay (7, 0))] (kzX2_firstLegOf l Z B0 lay μ (B, tb.2) r hI hL i1 i2 hi1 hi2) (xw_at tW_1 35 rfl) (3, 0) cY_R rfl rfl rfl rfl (by rfl) (Nat.le_of_ble_eq_true rfl) (xdec_at tX2_reckonOnward_0 18 rfl) ⟨(Nat.le_of_ble_eq_true rfl), (Nat.le_of_ble_eq_true rfl)⟩ ⟨(Nat.le_of_ble_eq_true rfl), (Nat.le_of_ble_eq_true rfl)⟩ ?_
          rintro v9 lay9 C9 ⟨rfl, rfl, rfl⟩
          refine x_iast (C' := (cY Z lay μ ((up2 B 2 (8 * i1 + i2) ((K_fl1 μ B i1 i2 (nG μ)).1)), tb.2) r)) X (7, 0) (cY_t2 (tb := (B, tb.2))) (vp_in_nI (by omega) (by decide)) rfl (by rw [show (nI (8 * i1 + i2)).toNatClampNeg = (8 * i1 + i2) from ix_nI (by omega)]; exact cwY_t2 (tb := (B, tb.2))) (xdec_at tX2_reckonOnward_0 19 rfl) ?_
          refine v_iinc (v := (nI (i2 + 1))) (lv' := [some (.ref (lay (3, 0))), some (.int (nI i1)), some (.int (nI (i2 + 1)))]) X (xdec_at tX2_reckonOnward_0 20 rfl) rfl (nI_1 _) (by decide) rfl ?_
          refine v_goto (tgt := 10) X (xdec_at tX2_reckonOnward_0 21 rfl) (by decide) ?_
          refine v_le (lv' := [some (.ref (lay (3, 0))), some (.int (nI i1)), some (.int (nI (i2 + 1)))]) (by simp [xle]) ?_
          exact v_c (C' := (cY Z lay μ ((K_o1 μ i1 (i2 + 1) A), tb.2) r)) (by rw [K_o1, ← hB]) ih2
      · refine v_iload_n X (xdec_at tX2_reckonOnward_0 7 rfl) rfl rfl ?_
        refine v_bipush (v := 8) X (xdec_at tX2_reckonOnward_0 8 rfl) (by decide) ?_
        refine v_icmp_ge (tgt := 38) X (xdec_at tX2_reckonOnward_0 9 rfl) (by decide) (fun c_13 => ?_) (fun c_13 => ?_)
        · refine v_iinc (v := (nI (i1 + 1))) (lv' := [some (.ref (lay (3, 0))), some (.int (nI (i1 + 1))), some (.int (nI 8))]) X (xdec_at tX2_reckonOnward_0 22 rfl) rfl (nI_1 _) (by decide) rfl ?_
          refine v_goto (tgt := 2) X (xdec_at tX2_reckonOnward_0 23 rfl) (by decide) ?_
          refine v_le (lv' := [some (.ref (lay (3, 0))), some (.int (nI (i1 + 1))), none]) (by simp [xle]) ?_
          exact v_c (C' := (cY Z lay μ ((K_o2 μ (i1 + 1) tb.1), tb.2) r)) (by rw [K_o2, ← hA]) ih1
        · exact absurd (show (8 : Int32) ≤ nI 8 by decide) c_13
  · refine v_iload_n X (xdec_at tX2_reckonOnward_0 2 rfl) rfl rfl ?_
    refine v_bipush (v := 8) X (xdec_at tX2_reckonOnward_0 3 rfl) (by decide) ?_
    refine v_icmp_ge (tgt := 44) X (xdec_at tX2_reckonOnward_0 4 rfl) (by decide) (fun c_5 => ?_) (fun c_5 => ?_)
    · exact v_vret X hr (xdec_at tX2_reckonOnward_0 24 rfl) (Nat.le_of_ble_eq_true rfl) (Nat.le_of_ble_eq_true rfl) ⟨rfl, rfl, rfl⟩
    · exact absurd (show (8 : Int32) ≤ nI 8 by decide) c_5
set_option maxRecDepth 100000 in
set_option maxHeartbeats 4000000 in
theorem kzX2_reckon (l : Launch) (Z : xZ) (B0 : Nat) (lay : xK → Nat) (μ : Mu) (tb : Tb) (r : xK → Option xE) (hI : RI μ) (hL : KL μ) : YM l yX2_reckon cX2_reckon 1 ((none : Option FieldType)) 3 85 0 0 Z B0 [.ref (lay (3, 0))] lay (cY Z lay μ tb r) (fun v lay' C' => lay = lay' ∧ v = none ∧ C' = (cY Z lay μ (K_reckon μ tb.1, tb.2) r)) := by
  refine YM_of myX2_reckon.2.2 RX2 rfl [some (.ref (lay (3, 0)))] rfl (Nat.le_of_ble_eq_true rfl) ?_
  intro P1 P2 P3 P4 P5 P6 P7 P8 X hr hnm
  refine v_aload_n X (xdec_at tX2_reckon_0 0 rfl) rfl rfl ?_
  refine v_callV X myX2_reckonDirect [] [] (kzX2_reckonDirect l Z B0 lay μ tb r hI hL) (xw_at tW_1 10 rfl) (3, 0) cY_R rfl rfl rfl rfl (by rfl) (Nat.le_of_ble_eq_true rfl) (xdec_at tX2_reckon_0 1 rfl) ⟨(Nat.le_of_ble_eq_true rfl), (Nat.le_of_ble_eq_true rfl)⟩ ⟨(Nat.le_of_ble_eq_true rfl), (Nat.le_of_ble_eq_true rfl)⟩ ?_
  rintro v9 lay9 C9 ⟨rfl, rfl, rfl⟩
  refine v_aload_n X (xdec_at tX2_reckon_0 2 rfl) rfl rfl ?_
  refine v_callV X myX2_reckonLeast [] [] (kzX2_reckonLeast l Z B0 lay μ ((K_dir μ tb.1), tb.2) r) (xw_at tW_1 26 rfl) (3, 0) cY_R rfl rfl rfl rfl (by rfl) (Nat.le_of_ble_eq_true rfl) (xdec_at tX2_reckon_0 3 rfl) ⟨(Nat.le_of_ble_eq_true rfl), (Nat.le_of_ble_eq_true rfl)⟩ ⟨(Nat.le_of_ble_eq_true rfl), (Nat.le_of_ble_eq_true rfl)⟩ ?_
  rintro v9 lay9 C9 ⟨rfl, rfl, rfl⟩
  refine v_aload_n X (xdec_at tX2_reckon_0 4 rfl) rfl rfl ?_
  refine v_callV X myX2_reckonOnward [] [] (kzX2_reckonOnward l Z B0 lay μ ((K_least (K_dir μ tb.1)), tb.2) r hI hL) (xw_at tW_1 32 rfl) (3, 0) cY_R rfl rfl rfl rfl (by rfl) (Nat.le_of_ble_eq_true rfl) (xdec_at tX2_reckon_0 5 rfl) ⟨(Nat.le_of_ble_eq_true rfl), (Nat.le_of_ble_eq_true rfl)⟩ ⟨(Nat.le_of_ble_eq_true rfl), (Nat.le_of_ble_eq_true rfl)⟩ ?_
  rintro v9 lay9 C9 ⟨rfl, rfl, rfl⟩
  exact v_vret X hr (xdec_at tX2_reckon_0 6 rfl) (Nat.le_of_ble_eq_true rfl) (Nat.le_of_ble_eq_true rfl) ⟨rfl, rfl, rfl⟩

