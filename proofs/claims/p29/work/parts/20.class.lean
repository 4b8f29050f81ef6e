/-! the class's world: what its objects hold, in the reference's numbers (the fields that both have), the routes' tables tb, the hands hd and their rows' lengths cp -/
abbrev nP (μ : Mu) : Nat := ix (μ.1 0 0)
abbrev nG (μ : Mu) : Nat := ix (μ.1 10 0)
abbrev nT (μ : Mu) : Nat := ix (μ.1 16 0)
def fX (lay : xK → Nat) (μ : Mu) : Nat → Value := fun j => match j with
  | 0 => .ref (lay (1, 0))
  | 1 => .ref (lay (2, 0))
  | 2 => .ref (lay (3, 0))
  | 3 => .int (μ.1 0 0)
  | 4 => .int (μ.1 16 0)
  | 5 => .int (μ.1 36 0)
  | _ => .null
def fR (lay : xK → Nat) (μ : Mu) : Nat → Value := fun j => match j with
  | 0 => .ref (lay (4, 0))
  | 1 => .ref (lay (5, 0))
  | 2 => .ref (lay (6, 0))
  | 3 => .ref (lay (7, 0))
  | 4 => .int (μ.1 10 0)
  | _ => .null
def fP (lay : xK → Nat) (μ : Mu) (i : Nat) : Nat → Value := fun j => match j with
  | 0 => .int (nI i)
  | 1 => .ref (lay (11, i))
  | 2 => .ref (lay (12, i))
  | 3 => .ref (lay (13, i))
  | 4 => .ref (lay (14, i))
  | 5 => .int (μ.1 4 i)
  | 6 => .int (μ.1 5 i)
  | 7 => .int (μ.1 6 i)
  | 8 => .long (μ.2 7 i)
  | 9 => .long (μ.2 8 i)
  | _ => .null
def fG (lay : xK → Nat) (μ : Mu) (g : Nat) : Nat → Value := fun j => match j with
  | 0 => .ref (lay (10, ix (μ.1 11 g)))
  | 1 => .ref (lay (10, ix (μ.1 12 g)))
  | 2 => .int (μ.1 13 g)
  | 3 => .int (μ.1 14 g)
  | _ => .null
/-- a thing's leg, if it has one -/
def tLeg (lay : xK → Nat) (v : Int32) : Value := if v = -1 then .null else .ref (lay (20, ix v))
def fT (lay : xK → Nat) (μ : Mu) (t : Nat) : Nat → Value := fun j => match j with
  | 0 => .int (μ.1 17 t)
  | 1 => .ref (lay (10, ix (μ.1 18 t)))
  | 2 => .int (μ.1 20 t)
  | 3 => .int (μ.1 22 t)
  | 4 => .int (μ.1 21 t)
  | 5 => .ref (lay (10, ix (μ.1 19 t)))
  | 6 => .ref (lay (10, ix (μ.1 24 t)))
  | 7 => tLeg lay (μ.1 25 t)
  | 8 => .int (μ.1 23 t)
  | 9 => .int (μ.1 26 t)
  | 10 => .int (μ.1 28 t)
  | 11 => .int (μ.1 27 t)
  | 12 => .int (μ.1 29 t)
  | 13 => .ref (lay (31, t))
  | 14 => .int (μ.1 35 t)
  | _ => .null
def aQ (Z : xZ) (ty n m : Nat) (f : Nat → Nat) : xE := .inl (Z.2 ty, n, .inr (.inr (.inr (.inr (fun i => if i < m then some (f i) else none)))))
def aI (Z : xZ) (n : Nat) (f : Nat → Int32) : xE := .inl (Z.2 0, n, .inl f)
def aL (Z : xZ) (n : Nat) (f : Nat → Int64) : xE := .inl (Z.2 1, n, .inr (.inl f))
def row3 (A : Nat → Nat → Int32) (j i : Nat) : Nat → Int32 := fun k => if k < 3 then A j (3 * i + k) else 0
def row8 (J : Nat → Nat → Int64) (i : Nat) : Nat → Int64 := fun k => if k < 8 then J 9 (8 * i + k) else 0
/-- what the class has beside the reference's numbers: the tables of its routes, the hands, their rows' lengths -/
abbrev Tb : Type := (Nat → Nat → Int32) × (Nat → Nat → Int32) × (Nat → Nat)
def cX (Z : xZ) (lay : xK → Nat) (μ : Mu) (tb : Tb) (r : xK → Option xE) : xK → Option xE := fun k =>
  if k.1 = 0 then (if k.2 = 0 then some (.inr (4, fX lay μ)) else none)
  else if k.1 = 1 then (if k.2 = 0 then some (aQ Z 3 8 (nP μ) (fun i => lay (10, i))) else none)
  else if k.1 = 2 then (if k.2 = 0 then some (aQ Z 4 40 (nT μ) (fun i => lay (30, i))) else none)
  else if k.1 = 3 then (if k.2 = 0 then some (.inr (2, fR lay μ)) else none)
  else if k.1 = 4 then (if k.2 = 0 then some (aQ Z 5 20 (nG μ) (fun i => lay (20, i))) else none)
  else if k.1 = 5 then (if k.2 = 0 then some (aI Z 64 (tb.1 0)) else none)
  else if k.1 = 6 then (if k.2 = 0 then some (aI Z 64 (tb.1 1)) else none)
  else if k.1 = 7 then (if k.2 = 0 then some (aI Z 64 (tb.1 2)) else none)
  else if k.1 = 10 then (if k.2 < nP μ then some (.inr (1, fP lay μ k.2)) else none)
  else if k.1 = 11 then (if k.2 < nP μ then some (aI Z 3 (row3 μ.1 1 k.2)) else none)
  else if k.1 = 12 then (if k.2 < nP μ then some (aI Z 3 (row3 μ.1 2 k.2)) else none)
  else if k.1 = 13 then (if k.2 < nP μ then some (aI Z 3 (row3 μ.1 3 k.2)) else none)
  else if k.1 = 14 then (if k.2 < nP μ then some (aL Z 8 (row8 μ.2 k.2)) else none)
  else if k.1 = 20 then (if k.2 < nG μ then some (.inr (0, fG lay μ k.2)) else none)
  else if k.1 = 30 then (if k.2 < nT μ then some (.inr (3, fT lay μ k.2)) else none)
  else if k.1 = 31 then (if k.2 < nT μ then some (aI Z (tb.2.2 k.2) (tb.2.1 k.2)) else none)
  else r k
theorem cX_X {Z : xZ} {lay : xK → Nat} {μ : Mu} {tb : Tb} {r : xK → Option xE} : cX Z lay μ tb r (0, 0) = some (.inr (4, fX lay μ)) := rfl
theorem cX_ps {Z : xZ} {lay : xK → Nat} {μ : Mu} {tb : Tb} {r : xK → Option xE} : cX Z lay μ tb r (1, 0) = some (aQ Z 3 8 (nP μ) (fun i => lay (10, i))) := rfl
theorem cX_ts {Z : xZ} {lay : xK → Nat} {μ : Mu} {tb : Tb} {r : xK → Option xE} : cX Z lay μ tb r (2, 0) = some (aQ Z 4 40 (nT μ) (fun i => lay (30, i))) := rfl
theorem cX_R {Z : xZ} {lay : xK → Nat} {μ : Mu} {tb : Tb} {r : xK → Option xE} : cX Z lay μ tb r (3, 0) = some (.inr (2, fR lay μ)) := rfl
theorem cX_gs {Z : xZ} {lay : xK → Nat} {μ : Mu} {tb : Tb} {r : xK → Option xE} : cX Z lay μ tb r (4, 0) = some (aQ Z 5 20 (nG μ) (fun i => lay (20, i))) := rfl
theorem cX_t0 {Z : xZ} {lay : xK → Nat} {μ : Mu} {tb : Tb} {r : xK → Option xE} : cX Z lay μ tb r (5, 0) = some (aI Z 64 (tb.1 0)) := rfl
theorem cX_t1 {Z : xZ} {lay : xK → Nat} {μ : Mu} {tb : Tb} {r : xK → Option xE} : cX Z lay μ tb r (6, 0) = some (aI Z 64 (tb.1 1)) := rfl
theorem cX_t2 {Z : xZ} {lay : xK → Nat} {μ : Mu} {tb : Tb} {r : xK → Option xE} : cX Z lay μ tb r (7, 0) = some (aI Z 64 (tb.1 2)) := rfl
theorem cX_P {Z : xZ} {lay : xK → Nat} {μ : Mu} {tb : Tb} {r : xK → Option xE} {i : Nat} (h : i < nP μ) : cX Z lay μ tb r (10, i) = some (.inr (1, fP lay μ i)) := if_pos h
theorem cX_r1 {Z : xZ} {lay : xK → Nat} {μ : Mu} {tb : Tb} {r : xK → Option xE} {i : Nat} (h : i < nP μ) : cX Z lay μ tb r (11, i) = some (aI Z 3 (row3 μ.1 1 i)) := if_pos h
theorem cX_r2 {Z : xZ} {lay : xK → Nat} {μ : Mu} {tb : Tb} {r : xK → Option xE} {i : Nat} (h : i < nP μ) : cX Z lay μ tb r (12, i) = some (aI Z 3 (row3 μ.1 2 i)) := if_pos h
theorem cX_r3 {Z : xZ} {lay : xK → Nat} {μ : Mu} {tb : Tb} {r : xK → Option xE} {i : Nat} (h : i < nP μ) : cX Z lay μ tb r (13, i) = some (aI Z 3 (row3 μ.1 3 i)) := if_pos h
theorem cX_c {Z : xZ} {lay : xK → Nat} {μ : Mu} {tb : Tb} {r : xK → Option xE} {i : Nat} (h : i < nP μ) : cX Z lay μ tb r (14, i) = some (aL Z 8 (row8 μ.2 i)) := if_pos h
theorem cX_G {Z : xZ} {lay : xK → Nat} {μ : Mu} {tb : Tb} {r : xK → Option xE} {i : Nat} (h : i < nG μ) : cX Z lay μ tb r (20, i) = some (.inr (0, fG lay μ i)) := if_pos h
theorem cX_T {Z : xZ} {lay : xK → Nat} {μ : Mu} {tb : Tb} {r : xK → Option xE} {i : Nat} (h : i < nT μ) : cX Z lay μ tb r (30, i) = some (.inr (3, fT lay μ i)) := if_pos h
theorem cX_h {Z : xZ} {lay : xK → Nat} {μ : Mu} {tb : Tb} {r : xK → Option xE} {i : Nat} (h : i < nT μ) : cX Z lay μ tb r (31, i) = some (aI Z (tb.2.2 i) (tb.2.1 i)) := if_pos h
theorem cX_r {Z : xZ} {lay : xK → Nat} {μ : Mu} {tb : Tb} {r : xK → Option xE} {k : xK} (h0 : k.1 ≠ 0) (h1 : k.1 ≠ 1) (h2 : k.1 ≠ 2) (h3 : k.1 ≠ 3) (h4 : k.1 ≠ 4) (h5 : k.1 ≠ 5) (h6 : k.1 ≠ 6) (h7 : k.1 ≠ 7) (h10 : k.1 ≠ 10) (h11 : k.1 ≠ 11) (h12 : k.1 ≠ 12) (h13 : k.1 ≠ 13) (h14 : k.1 ≠ 14) (h20 : k.1 ≠ 20) (h30 : k.1 ≠ 30) (h31 : k.1 ≠ 31) : cX Z lay μ tb r k = r k := by
  unfold cX
  rw [if_neg h0, if_neg h1, if_neg h2, if_neg h3, if_neg h4, if_neg h5, if_neg h6, if_neg h7, if_neg h10, if_neg h11, if_neg h12, if_neg h13, if_neg h14, if_neg h20, if_neg h30, if_neg h31]
theorem cXk_0 {Z : xZ} {lay : xK → Nat} {μ : Mu} {tb : Tb} {r : xK → Option xE} {b : Nat} : cX Z lay μ tb r (0, b) = (if b = 0 then some (Sum.inr (4, fX lay μ) : xE) else none) := rfl
theorem cXk_1 {Z : xZ} {lay : xK → Nat} {μ : Mu} {tb : Tb} {r : xK → Option xE} {b : Nat} : cX Z lay μ tb r (1, b) = (if b = 0 then some (aQ Z 3 8 (nP μ) (fun i => lay (10, i))) else none) := rfl
theorem cXk_2 {Z : xZ} {lay : xK → Nat} {μ : Mu} {tb : Tb} {r : xK → Option xE} {b : Nat} : cX Z lay μ tb r (2, b) = (if b = 0 then some (aQ Z 4 40 (nT μ) (fun i => lay (30, i))) else none) := rfl
theorem cXk_3 {Z : xZ} {lay : xK → Nat} {μ : Mu} {tb : Tb} {r : xK → Option xE} {b : Nat} : cX Z lay μ tb r (3, b) = (if b = 0 then some (Sum.inr (2, fR lay μ) : xE) else none) := rfl
theorem cXk_4 {Z : xZ} {lay : xK → Nat} {μ : Mu} {tb : Tb} {r : xK → Option xE} {b : Nat} : cX Z lay μ tb r (4, b) = (if b = 0 then some (aQ Z 5 20 (nG μ) (fun i => lay (20, i))) else none) := rfl
theorem cXk_5 {Z : xZ} {lay : xK → Nat} {μ : Mu} {tb : Tb} {r : xK → Option xE} {b : Nat} : cX Z lay μ tb r (5, b) = (if b = 0 then some (aI Z 64 (tb.1 0)) else none) := rfl
theorem cXk_6 {Z : xZ} {lay : xK → Nat} {μ : Mu} {tb : Tb} {r : xK → Option xE} {b : Nat} : cX Z lay μ tb r (6, b) = (if b = 0 then some (aI Z 64 (tb.1 1)) else none) := rfl
theorem cXk_7 {Z : xZ} {lay : xK → Nat} {μ : Mu} {tb : Tb} {r : xK → Option xE} {b : Nat} : cX Z lay μ tb r (7, b) = (if b = 0 then some (aI Z 64 (tb.1 2)) else none) := rfl
theorem cXk_10 {Z : xZ} {lay : xK → Nat} {μ : Mu} {tb : Tb} {r : xK → Option xE} {b : Nat} : cX Z lay μ tb r (10, b) = (if b < nP μ then some (Sum.inr (1, fP lay μ b) : xE) else none) := rfl
theorem cXk_11 {Z : xZ} {lay : xK → Nat} {μ : Mu} {tb : Tb} {r : xK → Option xE} {b : Nat} : cX Z lay μ tb r (11, b) = (if b < nP μ then some (aI Z 3 (row3 μ.1 1 b)) else none) := rfl
theorem cXk_12 {Z : xZ} {lay : xK → Nat} {μ : Mu} {tb : Tb} {r : xK → Option xE} {b : Nat} : cX Z lay μ tb r (12, b) = (if b < nP μ then some (aI Z 3 (row3 μ.1 2 b)) else none) := rfl
theorem cXk_13 {Z : xZ} {lay : xK → Nat} {μ : Mu} {tb : Tb} {r : xK → Option xE} {b : Nat} : cX Z lay μ tb r (13, b) = (if b < nP μ then some (aI Z 3 (row3 μ.1 3 b)) else none) := rfl
theorem cXk_14 {Z : xZ} {lay : xK → Nat} {μ : Mu} {tb : Tb} {r : xK → Option xE} {b : Nat} : cX Z lay μ tb r (14, b) = (if b < nP μ then some (aL Z 8 (row8 μ.2 b)) else none) := rfl
theorem cXk_20 {Z : xZ} {lay : xK → Nat} {μ : Mu} {tb : Tb} {r : xK → Option xE} {b : Nat} : cX Z lay μ tb r (20, b) = (if b < nG μ then some (Sum.inr (0, fG lay μ b) : xE) else none) := rfl
theorem cXk_30 {Z : xZ} {lay : xK → Nat} {μ : Mu} {tb : Tb} {r : xK → Option xE} {b : Nat} : cX Z lay μ tb r (30, b) = (if b < nT μ then some (Sum.inr (3, fT lay μ b) : xE) else none) := rfl
theorem cXk_31 {Z : xZ} {lay : xK → Nat} {μ : Mu} {tb : Tb} {r : xK → Option xE} {b : Nat} : cX Z lay μ tb r (31, b) = (if b < nT μ then some (aI Z (tb.2.2 b) (tb.2.1 b)) else none) := rfl
set_option maxRecDepth 100000 in
set_option maxHeartbeats 60000 in
theorem cw_X5 {Z : xZ} {lay : xK → Nat} {μ : Mu} {tb : Tb} {r : xK → Option xE} {v : Int32} : ∀ y9, cX Z lay (up2 μ.1 36 0 v, μ.2) tb r y9 = xup (cX Z lay μ tb r) (0, 0) (.inr (4, updV (fX lay μ) 5 (.int v))) y9 := by
  rintro ⟨a, b⟩
  by_cases hk : (a, b) = ((0, 0) : xK)
  · rw [xup, if_pos hk]
    obtain ⟨rfl, rfl⟩ := Prod.mk.inj hk
    show some (Sum.inr (4, fX lay (up2 μ.1 36 0 v, μ.2)) : xE) = _
    refine congrArg (fun f => some (Sum.inr (4, f) : xE)) (funext fun j => ?_)
    unfold updV
    by_cases hj : j = 5
    · subst hj; simp [fX, up2]
    · rw [if_neg hj]
      unfold fX
      split <;> first | rfl | exact absurd rfl hj | simp [up2]
  · rw [xup, if_neg hk]
    by_cases h0 : a = 0
    · subst h0
      have hb : b ≠ 0 := fun z => hk (by rw [z])
      show (if b = 0 then some _ else none) = (if b = 0 then some _ else none)
      rw [if_neg hb, if_neg hb]
    by_cases h1 : a = 1
    · subst h1
      rw [cXk_1, cXk_1] <;> rfl
    by_cases h2 : a = 2
    · subst h2
      rw [cXk_2, cXk_2] <;> rfl
    by_cases h3 : a = 3
    · subst h3
      rw [cXk_3, cXk_3] <;> rfl
    by_cases h4 : a = 4
    · subst h4
      rw [cXk_4, cXk_4] <;> rfl
    by_cases h5 : a = 5
    · subst h5
      rw [cXk_5, cXk_5] <;> rfl
    by_cases h6 : a = 6
    · subst h6
      rw [cXk_6, cXk_6] <;> rfl
    by_cases h7 : a = 7
    · subst h7
      rw [cXk_7, cXk_7] <;> rfl
    by_cases h10 : a = 10
    · subst h10
      rw [cXk_10, cXk_10] <;> rfl
    by_cases h11 : a = 11
    · subst h11
      rw [cXk_11, cXk_11] <;> rfl
    by_cases h12 : a = 12
    · subst h12
      rw [cXk_12, cXk_12] <;> rfl
    by_cases h13 : a = 13
    · subst h13
      rw [cXk_13, cXk_13] <;> rfl
    by_cases h14 : a = 14
    · subst h14
      rw [cXk_14, cXk_14] <;> rfl
    by_cases h20 : a = 20
    · subst h20
      rw [cXk_20, cXk_20] <;> rfl
    by_cases h30 : a = 30
    · subst h30
      rw [cXk_30, cXk_30] <;> rfl
    by_cases h31 : a = 31
    · subst h31
      rw [cXk_31, cXk_31] <;> rfl
    rw [cX_r h0 h1 h2 h3 h4 h5 h6 h7 h10 h11 h12 h13 h14 h20 h30 h31, cX_r h0 h1 h2 h3 h4 h5 h6 h7 h10 h11 h12 h13 h14 h20 h30 h31]
set_option maxRecDepth 100000 in
set_option maxHeartbeats 60000 in
theorem cw_P5 {Z : xZ} {lay : xK → Nat} {μ : Mu} {tb : Tb} {r : xK → Option xE} {i : Nat} (h : i < nP μ) {v : Int32} : ∀ y9, cX Z lay (up2 μ.1 4 i v, μ.2) tb r y9 = xup (cX Z lay μ tb r) (10, i) (.inr (1, updV (fP lay μ i) 5 (.int v))) y9 := by
  rintro ⟨a, b⟩
  by_cases hk : (a, b) = ((10, i) : xK)
  · rw [xup, if_pos hk]
    obtain ⟨rfl, rfl⟩ := Prod.mk.inj hk
    show (if b < nP (up2 μ.1 4 b v, μ.2) then some (Sum.inr (1, fP lay (up2 μ.1 4 b v, μ.2) b) : xE) else none) = _
    refine Eq.trans (if_pos h) ?_
    refine congrArg (fun f => some (Sum.inr (1, f) : xE)) (funext fun j => ?_)
    unfold updV
    by_cases hj : j = 5
    · subst hj; simp [fP, up2]
    · rw [if_neg hj]
      unfold fP
      split <;> first | rfl | exact absurd rfl hj | simp [up2]
  · rw [xup, if_neg hk]
    by_cases h0 : a = 0
    · subst h0
      rw [cXk_0, cXk_0] <;> rfl
    by_cases h1 : a = 1
    · subst h1
      rw [cXk_1, cXk_1] <;> rfl
    by_cases h2 : a = 2
    · subst h2
      rw [cXk_2, cXk_2] <;> rfl
    by_cases h3 : a = 3
    · subst h3
      rw [cXk_3, cXk_3] <;> rfl
    by_cases h4 : a = 4
    · subst h4
      rw [cXk_4, cXk_4] <;> rfl
    by_cases h5 : a = 5
    · subst h5
      rw [cXk_5, cXk_5] <;> rfl
    by_cases h6 : a = 6
    · subst h6
      rw [cXk_6, cXk_6] <;> rfl
    by_cases h7 : a = 7
    · subst h7
      rw [cXk_7, cXk_7] <;> rfl
    by_cases h10 : a = 10
    · subst h10
      have hb : b ≠ i := fun z => hk (by rw [z])
      show (if b < nP (up2 μ.1 4 i v, μ.2) then some (Sum.inr (1, fP lay (up2 μ.1 4 i v, μ.2) b) : xE) else none) = (if b < nP μ then some (Sum.inr (1, fP lay μ b) : xE) else none)
      rw [show fP lay (up2 μ.1 4 i v, μ.2) b = fP lay μ b from funext fun j => by unfold fP; split <;> first | rfl | simp [up2, hb]] <;> rfl
    by_cases h11 : a = 11
    · subst h11
      rw [cXk_11, cXk_11] <;> rfl
    by_cases h12 : a = 12
    · subst h12
      rw [cXk_12, cXk_12] <;> rfl
    by_cases h13 : a = 13
    · subst h13
      rw [cXk_13, cXk_13] <;> rfl
    by_cases h14 : a = 14
    · subst h14
      rw [cXk_14, cXk_14] <;> rfl
    by_cases h20 : a = 20
    · subst h20
      rw [cXk_20, cXk_20] <;> rfl
    by_cases h30 : a = 30
    · subst h30
      rw [cXk_30, cXk_30] <;> rfl
    by_cases h31 : a = 31
    · subst h31
      rw [cXk_31, cXk_31] <;> rfl
    rw [cX_r h0 h1 h2 h3 h4 h5 h6 h7 h10 h11 h12 h13 h14 h20 h30 h31, cX_r h0 h1 h2 h3 h4 h5 h6 h7 h10 h11 h12 h13 h14 h20 h30 h31]
set_option maxRecDepth 100000 in
set_option maxHeartbeats 60000 in
theorem cw_P6 {Z : xZ} {lay : xK → Nat} {μ : Mu} {tb : Tb} {r : xK → Option xE} {i : Nat} (h : i < nP μ) {v : Int32} : ∀ y9, cX Z lay (up2 μ.1 5 i v, μ.2) tb r y9 = xup (cX Z lay μ tb r) (10, i) (.inr (1, updV (fP lay μ i) 6 (.int v))) y9 := by
  rintro ⟨a, b⟩
  by_cases hk : (a, b) = ((10, i) : xK)
  · rw [xup, if_pos hk]
    obtain ⟨rfl, rfl⟩ := Prod.mk.inj hk
    show (if b < nP (up2 μ.1 5 b v, μ.2) then some (Sum.inr (1, fP lay (up2 μ.1 5 b v, μ.2) b) : xE) else none) = _
    refine Eq.trans (if_pos h) ?_
    refine congrArg (fun f => some (Sum.inr (1, f) : xE)) (funext fun j => ?_)
    unfold updV
    by_cases hj : j = 6
    · subst hj; simp [fP, up2]
    · rw [if_neg hj]
      unfold fP
      split <;> first | rfl | exact absurd rfl hj | simp [up2]
  · rw [xup, if_neg hk]
    by_cases h0 : a = 0
    · subst h0
      rw [cXk_0, cXk_0] <;> rfl
    by_cases h1 : a = 1
    · subst h1
      rw [cXk_1, cXk_1] <;> rfl
    by_cases h2 : a = 2
    · subst h2
      rw [cXk_2, cXk_2] <;> rfl
    by_cases h3 : a = 3
    · subst h3
      rw [cXk_3, cXk_3] <;> rfl
    by_cases h4 : a = 4
    · subst h4
      rw [cXk_4, cXk_4] <;> rfl
    by_cases h5 : a = 5
    · subst h5
      rw [cXk_5, cXk_5] <;> rfl
    by_cases h6 : a = 6
    · subst h6
      rw [cXk_6, cXk_6] <;> rfl
    by_cases h7 : a = 7
    · subst h7
      rw [cXk_7, cXk_7] <;> rfl
    by_cases h10 : a = 10
    · subst h10
      have hb : b ≠ i := fun z => hk (by rw [z])
      show (if b < nP (up2 μ.1 5 i v, μ.2) then some (Sum.inr (1, fP lay (up2 μ.1 5 i v, μ.2) b) : xE) else none) = (if b < nP μ then some (Sum.inr (1, fP lay μ b) : xE) else none)
      rw [show fP lay (up2 μ.1 5 i v, μ.2) b = fP lay μ b from funext fun j => by unfold fP; split <;> first | rfl | simp [up2, hb]] <;> rfl
    by_cases h11 : a = 11
    · subst h11
      rw [cXk_11, cXk_11] <;> rfl
    by_cases h12 : a = 12
    · subst h12
      rw [cXk_12, cXk_12] <;> rfl
    by_cases h13 : a = 13
    · subst h13
      rw [cXk_13, cXk_13] <;> rfl
    by_cases h14 : a = 14
    · subst h14
      rw [cXk_14, cXk_14] <;> rfl
    by_cases h20 : a = 20
    · subst h20
      rw [cXk_20, cXk_20] <;> rfl
    by_cases h30 : a = 30
    · subst h30
      rw [cXk_30, cXk_30] <;> rfl
    by_cases h31 : a = 31
    · subst h31
      rw [cXk_31, cXk_31] <;> rfl
    rw [cX_r h0 h1 h2 h3 h4 h5 h6 h7 h10 h11 h12 h13 h14 h20 h30 h31, cX_r h0 h1 h2 h3 h4 h5 h6 h7 h10 h11 h12 h13 h14 h20 h30 h31]
set_option maxRecDepth 100000 in
set_option maxHeartbeats 60000 in
theorem cw_P7 {Z : xZ} {lay : xK → Nat} {μ : Mu} {tb : Tb} {r : xK → Option xE} {i : Nat} (h : i < nP μ) {v : Int32} : ∀ y9, cX Z lay (up2 μ.1 6 i v, μ.2) tb r y9 = xup (cX Z lay μ tb r) (10, i) (.inr (1, updV (fP lay μ i) 7 (.int v))) y9 := by
  rintro ⟨a, b⟩
  by_cases hk : (a, b) = ((10, i) : xK)
  · rw [xup, if_pos hk]
    obtain ⟨rfl, rfl⟩ := Prod.mk.inj hk
    show (if b < nP (up2 μ.1 6 b v, μ.2) then some (Sum.inr (1, fP lay (up2 μ.1 6 b v, μ.2) b) : xE) else none) = _
    refine Eq.trans (if_pos h) ?_
    refine congrArg (fun f => some (Sum.inr (1, f) : xE)) (funext fun j => ?_)
    unfold updV
    by_cases hj : j = 7
    · subst hj; simp [fP, up2]
    · rw [if_neg hj]
      unfold fP
      split <;> first | rfl | exact absurd rfl hj | simp [up2]
  · rw [xup, if_neg hk]
    by_cases h0 : a = 0
    · subst h0
      rw [cXk_0, cXk_0] <;> rfl
    by_cases h1 : a = 1
    · subst h1
      rw [cXk_1, cXk_1] <;> rfl
    by_cases h2 : a = 2
    · subst h2
      rw [cXk_2, cXk_2] <;> rfl
    by_cases h3 : a = 3
    · subst h3
      rw [cXk_3, cXk_3] <;> rfl
    by_cases h4 : a = 4
    · subst h4
      rw [cXk_4, cXk_4] <;> rfl
    by_cases h5 : a = 5
    · subst h5
      rw [cXk_5, cXk_5] <;> rfl
    by_cases h6 : a = 6
    · subst h6
      rw [cXk_6, cXk_6] <;> rfl
    by_cases h7 : a = 7
    · subst h7
      rw [cXk_7, cXk_7] <;> rfl
    by_cases h10 : a = 10
    · subst h10
      have hb : b ≠ i := fun z => hk (by rw [z])
      show (if b < nP (up2 μ.1 6 i v, μ.2) then some (Sum.inr (1, fP lay (up2 μ.1 6 i v, μ.2) b) : xE) else none) = (if b < nP μ then some (Sum.inr (1, fP lay μ b) : xE) else none)
      rw [show fP lay (up2 μ.1 6 i v, μ.2) b = fP lay μ b from funext fun j => by unfold fP; split <;> first | rfl | simp [up2, hb]] <;> rfl
    by_cases h11 : a = 11
    · subst h11
      rw [cXk_11, cXk_11] <;> rfl
    by_cases h12 : a = 12
    · subst h12
      rw [cXk_12, cXk_12] <;> rfl
    by_cases h13 : a = 13
    · subst h13
      rw [cXk_13, cXk_13] <;> rfl
    by_cases h14 : a = 14
    · subst h14
      rw [cXk_14, cXk_14] <;> rfl
    by_cases h20 : a = 20
    · subst h20
      rw [cXk_20, cXk_20] <;> rfl
    by_cases h30 : a = 30
    · subst h30
      rw [cXk_30, cXk_30] <;> rfl
    by_cases h31 : a = 31
    · subst h31
      rw [cXk_31, cXk_31] <;> rfl
    rw [cX_r h0 h1 h2 h3 h4 h5 h6 h7 h10 h11 h12 h13 h14 h20 h30 h31, cX_r h0 h1 h2 h3 h4 h5 h6 h7 h10 h11 h12 h13 h14 h20 h30 h31]
set_option maxRecDepth 100000 in
set_option maxHeartbeats 60000 in
theorem cw_P8 {Z : xZ} {lay : xK → Nat} {μ : Mu} {tb : Tb} {r : xK → Option xE} {i : Nat} (h : i < nP μ) {v : Int64} : ∀ y9, cX Z lay (μ.1, up2 μ.2 7 i v) tb r y9 = xup (cX Z lay μ tb r) (10, i) (.inr (1, updV (fP lay μ i) 8 (.long v))) y9 := by
  rintro ⟨a, b⟩
  by_cases hk : (a, b) = ((10, i) : xK)
  · rw [xup, if_pos hk]
    obtain ⟨rfl, rfl⟩ := Prod.mk.inj hk
    show (if b < nP (μ.1, up2 μ.2 7 b v) then some (Sum.inr (1, fP lay (μ.1, up2 μ.2 7 b v) b) : xE) else none) = _
    refine Eq.trans (if_pos h) ?_
    refine congrArg (fun f => some (Sum.inr (1, f) : xE)) (funext fun j => ?_)
    unfold updV
    by_cases hj : j = 8
    · subst hj; simp [fP, up2]
    · rw [if_neg hj]
      unfold fP
      split <;> first | rfl | exact absurd rfl hj | simp [up2]
  · rw [xup, if_neg hk]
    by_cases h0 : a = 0
    · subst h0
      rw [cXk_0, cXk_0] <;> rfl
    by_cases h1 : a = 1
    · subst h1
      rw [cXk_1, cXk_1] <;> rfl
    by_cases h2 : a = 2
    · subst h2
      rw [cXk_2, cXk_2] <;> rfl
    by_cases h3 : a = 3
    · subst h3
      rw [cXk_3, cXk_3] <;> rfl
    by_cases h4 : a = 4
    · subst h4
      rw [cXk_4, cXk_4] <;> rfl
    by_cases h5 : a = 5
    · subst h5
      rw [cXk_5, cXk_5] <;> rfl
    by_cases h6 : a = 6
    · subst h6
      rw [cXk_6, cXk_6] <;> rfl
    by_cases h7 : a = 7
    · subst h7
      rw [cXk_7, cXk_7] <;> rfl
    by_cases h10 : a = 10
    · subst h10
      have hb : b ≠ i := fun z => hk (by rw [z])
      show (if b < nP (μ.1, up2 μ.2 7 i v) then some (Sum.inr (1, fP lay (μ.1, up2 μ.2 7 i v) b) : xE) else none) = (if b < nP μ then some (Sum.inr (1, fP lay μ b) : xE) else none)
      rw [show fP lay (μ.1, up2 μ.2 7 i v) b = fP lay μ b from funext fun j => by unfold fP; split <;> first | rfl | simp [up2, hb]] <;> rfl
    by_cases h11 : a = 11
    · subst h11
      rw [cXk_11, cXk_11] <;> rfl
    by_cases h12 : a = 12
    · subst h12
      rw [cXk_12, cXk_12] <;> rfl
    by_cases h13 : a = 13
    · subst h13
      rw [cXk_13, cXk_13] <;> rfl
    by_cases h14 : a = 14
    · subst h14
      rw [cXk_14, cXk_14] <;> rfl
    by_cases h20 : a = 20
    · subst h20
      rw [cXk_20, cXk_20] <;> rfl
    by_cases h30 : a = 30
    · subst h30
      rw [cXk_30, cXk_30] <;> rfl
    by_cases h31 : a = 31
    · subst h31
      rw [cXk_31, cXk_31] <;> rfl
    rw [cX_r h0 h1 h2 h3 h4 h5 h6 h7 h10 h11 h12 h13 h14 h20 h30 h31, cX_r h0 h1 h2 h3 h4 h5 h6 h7 h10 h11 h12 h13 h14 h20 h30 h31]
set_option maxRecDepth 100000 in
set_option maxHeartbeats 60000 in
theorem cw_P9 {Z : xZ} {lay : xK → Nat} {μ : Mu} {tb : Tb} {r : xK → Option xE} {i : Nat} (h : i < nP μ) {v : Int64} : ∀ y9, cX Z lay (μ.1, up2 μ.2 8 i v) tb r y9 = xup (cX Z lay μ tb r) (10, i) (.inr (1, updV (fP lay μ i) 9 (.long v))) y9 := by
  rintro ⟨a, b⟩
  by_cases hk : (a, b) = ((10, i) : xK)
  · rw [xup, if_pos hk]
    obtain ⟨rfl, rfl⟩ := Prod.mk.inj hk
    show (if b < nP (μ.1, up2 μ.2 8 b v) then some (Sum.inr (1, fP lay (μ.1, up2 μ.2 8 b v) b) : xE) else none) = _
    refine Eq.trans (if_pos h) ?_
    refine congrArg (fun f => some (Sum.inr (1, f) : xE)) (funext fun j => ?_)
    unfold updV
    by_cases hj : j = 9
    · subst hj; simp [fP, up2]
    · rw [if_neg hj]
      unfold fP
      split <;> first | rfl | exact absurd rfl hj | simp [up2]
  · rw [xup, if_neg hk]
    by_cases h0 : a = 0
    · subst h0
      rw [cXk_0, cXk_0] <;> rfl
    by_cases h1 : a = 1
    · subst h1
      rw [cXk_1, cXk_1] <;> rfl
    by_cases h2 : a = 2
    · subst h2
      rw [cXk_2, cXk_2] <;> rfl
    by_cases h3 : a = 3
    · subst h3
      rw [cXk_3, cXk_3] <;> rfl
    by_cases h4 : a = 4
    · subst h4
      rw [cXk_4, cXk_4] <;> rfl
    by_cases h5 : a = 5
    · subst h5
      rw [cXk_5, cXk_5] <;> rfl
    by_cases h6 : a = 6
    · subst h6
      rw [cXk_6, cXk_6] <;> rfl
    by_cases h7 : a = 7
    · subst h7
      rw [cXk_7, cXk_7] <;> rfl
    by_cases h10 : a = 10
    · subst h10
      have hb : b ≠ i := fun z => hk (by rw [z])
      show (if b < nP (μ.1, up2 μ.2 8 i v) then some (Sum.inr (1, fP lay (μ.1, up2 μ.2 8 i v) b) : xE) else none) = (if b < nP μ then some (Sum.inr (1, fP lay μ b) : xE) else none)
      rw [show fP lay (μ.1, up2 μ.2 8 i v) b = fP lay μ b from funext fun j => by unfold fP; split <;> first | rfl | simp [up2, hb]] <;> rfl
    by_cases h11 : a = 11
    · subst h11
      rw [cXk_11, cXk_11] <;> rfl
    by_cases h12 : a = 12
    · subst h12
      rw [cXk_12, cXk_12] <;> rfl
    by_cases h13 : a = 13
    · subst h13
      rw [cXk_13, cXk_13] <;> rfl
    by_cases h14 : a = 14
    · subst h14
      rw [cXk_14, cXk_14] <;> rfl
    by_cases h20 : a = 20
    · subst h20
      rw [cXk_20, cXk_20] <;> rfl
    by_cases h30 : a = 30
    · subst h30
      rw [cXk_30, cXk_30] <;> rfl
    by_cases h31 : a = 31
    · subst h31
      rw [cXk_31, cXk_31] <;> rfl
    rw [cX_r h0 h1 h2 h3 h4 h5 h6 h7 h10 h11 h12 h13 h14 h20 h30 h31, cX_r h0 h1 h2 h3 h4 h5 h6 h7 h10 h11 h12 h13 h14 h20 h30 h31]
set_option maxRecDepth 100000 in
set_option maxHeartbeats 60000 in
theorem cw_G3 {Z : xZ} {lay : xK → Nat} {μ : Mu} {tb : Tb} {r : xK → Option xE} {i : Nat} (h : i < nG μ) {v : Int32} : ∀ y9, cX Z lay (up2 μ.1 14 i v, μ.2) tb r y9 = xup (cX Z lay μ tb r) (20, i) (.inr (0, updV (fG lay μ i) 3 (.int v))) y9 := by
  rintro ⟨a, b⟩
  by_cases hk : (a, b) = ((20, i) : xK)
  · rw [xup, if_pos hk]
    obtain ⟨rfl, rfl⟩ := Prod.mk.inj hk
    show (if b < nG (up2 μ.1 14 b v, μ.2) then some (Sum.inr (0, fG lay (up2 μ.1 14 b v, μ.2) b) : xE) else none) = _
    refine Eq.trans (if_pos h) ?_
    refine congrArg (fun f => some (Sum.inr (0, f) : xE)) (funext fun j => ?_)
    unfold updV
    by_cases hj : j = 3
    · subst hj; simp [fG, up2]
    · rw [if_neg hj]
      unfold fG
      split <;> first | rfl | exact absurd rfl hj | simp [up2]
  · rw [xup, if_neg hk]
    by_cases h0 : a = 0
    · subst h0
      rw [cXk_0, cXk_0] <;> rfl
    by_cases h1 : a = 1
    · subst h1
      rw [cXk_1, cXk_1] <;> rfl
    by_cases h2 : a = 2
    · subst h2
      rw [cXk_2, cXk_2] <;> rfl
    by_cases h3 : a = 3
    · subst h3
      rw [cXk_3, cXk_3] <;> rfl
    by_cases h4 : a = 4
    · subst h4
      rw [cXk_4, cXk_4] <;> rfl
    by_cases h5 : a = 5
    · subst h5
      rw [cXk_5, cXk_5] <;> rfl
    by_cases h6 : a = 6
    · subst h6
      rw [cXk_6, cXk_6] <;> rfl
    by_cases h7 : a = 7
    · subst h7
      rw [cXk_7, cXk_7] <;> rfl
    by_cases h10 : a = 10
    · subst h10
      rw [cXk_10, cXk_10] <;> rfl
    by_cases h11 : a = 11
    · subst h11
      rw [cXk_11, cXk_11] <;> rfl
    by_cases h12 : a = 12
    · subst h12
      rw [cXk_12, cXk_12] <;> rfl
    by_cases h13 : a = 13
    · subst h13
      rw [cXk_13, cXk_13] <;> rfl
    by_cases h14 : a = 14
    · subst h14
      rw [cXk_14, cXk_14] <;> rfl
    by_cases h20 : a = 20
    · subst h20
      have hb : b ≠ i := fun z => hk (by rw [z])
      show (if b < nG (up2 μ.1 14 i v, μ.2) then some (Sum.inr (0, fG lay (up2 μ.1 14 i v, μ.2) b) : xE) else none) = (if b < nG μ then some (Sum.inr (0, fG lay μ b) : xE) else none)
      rw [show fG lay (up2 μ.1 14 i v, μ.2) b = fG lay μ b from funext fun j => by unfold fG; split <;> first | rfl | simp [up2, hb]] <;> rfl
    by_cases h30 : a = 30
    · subst h30
      rw [cXk_30, cXk_30] <;> rfl
    by_cases h31 : a = 31
    · subst h31
      rw [cXk_31, cXk_31] <;> rfl
    rw [cX_r h0 h1 h2 h3 h4 h5 h6 h7 h10 h11 h12 h13 h14 h20 h30 h31, cX_r h0 h1 h2 h3 h4 h5 h6 h7 h10 h11 h12 h13 h14 h20 h30 h31]
set_option maxRecDepth 100000 in
set_option maxHeartbeats 60000 in
theorem cw_T8 {Z : xZ} {lay : xK → Nat} {μ : Mu} {tb : Tb} {r : xK → Option xE} {i : Nat} (h : i < nT μ) {v : Int32} : ∀ y9, cX Z lay (up2 μ.1 23 i v, μ.2) tb r y9 = xup (cX Z lay μ tb r) (30, i) (.inr (3, updV (fT lay μ i) 8 (.int v))) y9 := by
  rintro ⟨a, b⟩
  by_cases hk : (a, b) = ((30, i) : xK)
  · rw [xup, if_pos hk]
    obtain ⟨rfl, rfl⟩ := Prod.mk.inj hk
    show (if b < nT (up2 μ.1 23 b v, μ.2) then some (Sum.inr (3, fT lay (up2 μ.1 23 b v, μ.2) b) : xE) else none) = _
    refine Eq.trans (if_pos h) ?_
    refine congrArg (fun f => some (Sum.inr (3, f) : xE)) (funext fun j => ?_)
    unfold updV
    by_cases hj : j = 8
    · subst hj; simp [fT, up2]
    · rw [if_neg hj]
      unfold fT
      split <;> first | rfl | exact absurd rfl hj | simp [up2]
  · rw [xup, if_neg hk]
    by_cases h0 : a = 0
    · subst h0
      rw [cXk_0, cXk_0] <;> rfl
    by_cases h1 : a = 1
    · subst h1
      rw [cXk_1, cXk_1] <;> rfl
    by_cases h2 : a = 2
    · subst h2
      rw [cXk_2, cXk_2] <;> rfl
    by_cases h3 : a = 3
    · subst h3
      rw [cXk_3, cXk_3] <;> rfl
    by_cases h4 : a = 4
    · subst h4
      rw [cXk_4, cXk_4] <;> rfl
    by_cases h5 : a = 5
    · subst h5
      rw [cXk_5, cXk_5] <;> rfl
    by_cases h6 : a = 6
    · subst h6
      rw [cXk_6, cXk_6] <;> rfl
    by_cases h7 : a = 7
    · subst h7
      rw [cXk_7, cXk_7] <;> rfl
    by_cases h10 : a = 10
    · subst h10
      rw [cXk_10, cXk_10] <;> rfl
    by_cases h11 : a = 11
    · subst h11
      rw [cXk_11, cXk_11] <;> rfl
    by_cases h12 : a = 12
    · subst h12
      rw [cXk_12, cXk_12] <;> rfl
    by_cases h13 : a = 13
    · subst h13
      rw [cXk_13, cXk_13] <;> rfl
    by_cases h14 : a = 14
    · subst h14
      rw [cXk_14, cXk_14] <;> rfl
    by_cases h20 : a = 20
    · subst h20
      rw [cXk_20, cXk_20] <;> rfl
    by_cases h30 : a = 30
    · subst h30
      have hb : b ≠ i := fun z => hk (by rw [z])
      show (if b < nT (up2 μ.1 23 i v, μ.2) then some (Sum.inr (3, fT lay (up2 μ.1 23 i v, μ.2) b) : xE) else none) = (if b < nT μ then some (Sum.inr (3, fT lay μ b) : xE) else none)
      rw [show fT lay (up2 μ.1 23 i v, μ.2) b = fT lay μ b from funext fun j => by unfold fT; split <;> first | rfl | simp [up2, hb]] <;> rfl
    by_cases h31 : a = 31
    · subst h31
      rw [cXk_31, cXk_31] <;> rfl
    rw [cX_r h0 h1 h2 h3 h4 h5 h6 h7 h10 h11 h12 h13 h14 h20 h30 h31, cX_r h0 h1 h2 h3 h4 h5 h6 h7 h10 h11 h12 h13 h14 h20 h30 h31]
set_option maxRecDepth 100000 in
set_option maxHeartbeats 60000 in
theorem cw_T9 {Z : xZ} {lay : xK → Nat} {μ : Mu} {tb : Tb} {r : xK → Option xE} {i : Nat} (h : i < nT μ) {v : Int32} : ∀ y9, cX Z lay (up2 μ.1 26 i v, μ.2) tb r y9 = xup (cX Z lay μ tb r) (30, i) (.inr (3, updV (fT lay μ i) 9 (.int v))) y9 := by
  rintro ⟨a, b⟩
  by_cases hk : (a, b) = ((30, i) : xK)
  · rw [xup, if_pos hk]
    obtain ⟨rfl, rfl⟩ := Prod.mk.inj hk
    show (if b < nT (up2 μ.1 26 b v, μ.2) then some (Sum.inr (3, fT lay (up2 μ.1 26 b v, μ.2) b) : xE) else none) = _
    refine Eq.trans (if_pos h) ?_
    refine congrArg (fun f => some (Sum.inr (3, f) : xE)) (funext fun j => ?_)
    unfold updV
    by_cases hj : j = 9
    · subst hj; simp [fT, up2]
    · rw [if_neg hj]
      unfold fT
      split <;> first | rfl | exact absurd rfl hj | simp [up2]
  · rw [xup, if_neg hk]
    by_cases h0 : a = 0
    · subst h0
      rw [cXk_0, cXk_0] <;> rfl
    by_cases h1 : a = 1
    · subst h1
      rw [cXk_1, cXk_1] <;> rfl
    by_cases h2 : a = 2
    · subst h2
      rw [cXk_2, cXk_2] <;> rfl
    by_cases h3 : a = 3
    · subst h3
      rw [cXk_3, cXk_3] <;> rfl
    by_cases h4 : a = 4
    · subst h4
      rw [cXk_4, cXk_4] <;> rfl
    by_cases h5 : a = 5
    · subst h5
      rw [cXk_5, cXk_5] <;> rfl
    by_cases h6 : a = 6
    · subst h6
      rw [cXk_6, cXk_6] <;> rfl
    by_cases h7 : a = 7
    · subst h7
      rw [cXk_7, cXk_7] <;> rfl
    by_cases h10 : a = 10
    · subst h10
      rw [cXk_10, cXk_10] <;> rfl
    by_cases h11 : a = 11
    · subst h11
      rw [cXk_11, cXk_11] <;> rfl
    by_cases h12 : a = 12
    · subst h12
      rw [cXk_12, cXk_12] <;> rfl
    by_cases h13 : a = 13
    · subst h13
      rw [cXk_13, cXk_13] <;> rfl
    by_cases h14 : a = 14
    · subst h14
      rw [cXk_14, cXk_14] <;> rfl
    by_cases h20 : a = 20
    · subst h20
      rw [cXk_20, cXk_20] <;> rfl
    by_cases h30 : a = 30
    · subst h30
      have hb : b ≠ i := fun z => hk (by rw [z])
      show (if b < nT (up2 μ.1 26 i v, μ.2) then some (Sum.inr (3, fT lay (up2 μ.1 26 i v, μ.2) b) : xE) else none) = (if b < nT μ then some (Sum.inr (3, fT lay μ b) : xE) else none)
      rw [show fT lay (up2 μ.1 26 i v, μ.2) b = fT lay μ b from funext fun j => by unfold fT; split <;> first | rfl | simp [up2, hb]] <;> rfl
    by_cases h31 : a = 31
    · subst h31
      rw [cXk_31, cXk_31] <;> rfl
    rw [cX_r h0 h1 h2 h3 h4 h5 h6 h7 h10 h11 h12 h13 h14 h20 h30 h31, cX_r h0 h1 h2 h3 h4 h5 h6 h7 h10 h11 h12 h13 h14 h20 h30 h31]
set_option maxRecDepth 100000 in
set_option maxHeartbeats 60000 in
theorem cw_T10 {Z : xZ} {lay : xK → Nat} {μ : Mu} {tb : Tb} {r : xK → Option xE} {i : Nat} (h : i < nT μ) {v : Int32} : ∀ y9, cX Z lay (up2 μ.1 28 i v, μ.2) tb r y9 = xup (cX Z lay μ tb r) (30, i) (.inr (3, updV (fT lay μ i) 10 (.int v))) y9 := by
  rintro ⟨a, b⟩
  by_cases hk : (a, b) = ((30, i) : xK)
  · rw [xup, if_pos hk]
    obtain ⟨rfl, rfl⟩ := Prod.mk.inj hk
    show (if b < nT (up2 μ.1 28 b v, μ.2) then some (Sum.inr (3, fT lay (up2 μ.1 28 b v, μ.2) b) : xE) else none) = _
    refine Eq.trans (if_pos h) ?_
    refine congrArg (fun f => some (Sum.inr (3, f) : xE)) (funext fun j => ?_)
    unfold updV
    by_cases hj : j = 10
    · subst hj; simp [fT, up2]
    · rw [if_neg hj]
      unfold fT
      split <;> first | rfl | exact absurd rfl hj | simp [up2]
  · rw [xup, if_neg hk]
    by_cases h0 : a = 0
    · subst h0
      rw [cXk_0, cXk_0] <;> rfl
    by_cases h1 : a = 1
    · subst h1
      rw [cXk_1, cXk_1] <;> rfl
    by_cases h2 : a = 2
    · subst h2
      rw [cXk_2, cXk_2] <;> rfl
    by_cases h3 : a = 3
    · subst h3
      rw [cXk_3, cXk_3] <;> rfl
    by_cases h4 : a = 4
    · subst h4
      rw [cXk_4, cXk_4] <;> rfl
    by_cases h5 : a = 5
    · subst h5
      rw [cXk_5, cXk_5] <;> rfl
    by_cases h6 : a = 6
    · subst h6
      rw [cXk_6, cXk_6] <;> rfl
    by_cases h7 : a = 7
    · subst h7
      rw [cXk_7, cXk_7] <;> rfl
    by_cases h10 : a = 10
    · subst h10
      rw [cXk_10, cXk_10] <;> rfl
    by_cases h11 : a = 11
    · subst h11
      rw [cXk_11, cXk_11] <;> rfl
    by_cases h12 : a = 12
    · subst h12
      rw [cXk_12, cXk_12] <;> rfl
    by_cases h13 : a = 13
    · subst h13
      rw [cXk_13, cXk_13] <;> rfl
    by_cases h14 : a = 14
    · subst h14
      rw [cXk_14, cXk_14] <;> rfl
    by_cases h20 : a = 20
    · subst h20
      rw [cXk_20, cXk_20] <;> rfl
    by_cases h30 : a = 30
    · subst h30
      have hb : b ≠ i := fun z => hk (by rw [z])
      show (if b < nT (up2 μ.1 28 i v, μ.2) then some (Sum.inr (3, fT lay (up2 μ.1 28 i v, μ.2) b) : xE) else none) = (if b < nT μ then some (Sum.inr (3, fT lay μ b) : xE) else none)
      rw [show fT lay (up2 μ.1 28 i v, μ.2) b = fT lay μ b from funext fun j => by unfold fT; split <;> first | rfl | simp [up2, hb]] <;> rfl
    by_cases h31 : a = 31
    · subst h31
      rw [cXk_31, cXk_31] <;> rfl
    rw [cX_r h0 h1 h2 h3 h4 h5 h6 h7 h10 h11 h12 h13 h14 h20 h30 h31, cX_r h0 h1 h2 h3 h4 h5 h6 h7 h10 h11 h12 h13 h14 h20 h30 h31]
set_option maxRecDepth 100000 in
set_option maxHeartbeats 60000 in
theorem cw_T11 {Z : xZ} {lay : xK → Nat} {μ : Mu} {tb : Tb} {r : xK → Option xE} {i : Nat} (h : i < nT μ) {v : Int32} : ∀ y9, cX Z lay (up2 μ.1 27 i v, μ.2) tb r y9 = xup (cX Z lay μ tb r) (30, i) (.inr (3, updV (fT lay μ i) 11 (.int v))) y9 := by
  rintro ⟨a, b⟩
  by_cases hk : (a, b) = ((30, i) : xK)
  · rw [xup, if_pos hk]
    obtain ⟨rfl, rfl⟩ := Prod.mk.inj hk
    show (if b < nT (up2 μ.1 27 b v, μ.2) then some (Sum.inr (3, fT lay (up2 μ.1 27 b v, μ.2) b) : xE) else none) = _
    refine Eq.trans (if_pos h) ?_
    refine congrArg (fun f => some (Sum.inr (3, f) : xE)) (funext fun j => ?_)
    unfold updV
    by_cases hj : j = 11
    · subst hj; simp [fT, up2]
    · rw [if_neg hj]
      unfold fT
      split <;> first | rfl | exact absurd rfl hj | simp [up2]
  · rw [xup, if_neg hk]
    by_cases h0 : a = 0
    · subst h0
      rw [cXk_0, cXk_0] <;> rfl
    by_cases h1 : a = 1
    · subst h1
      rw [cXk_1, cXk_1] <;> rfl
    by_cases h2 : a = 2
    · subst h2
      rw [cXk_2, cXk_2] <;> rfl
    by_cases h3 : a = 3
    · subst h3
      rw [cXk_3, cXk_3] <;> rfl
    by_cases h4 : a = 4
    · subst h4
      rw [cXk_4, cXk_4] <;> rfl
    by_cases h5 : a = 5
    · subst h5
      rw [cXk_5, cXk_5] <;> rfl
    by_cases h6 : a = 6
    · subst h6
      rw [cXk_6, cXk_6] <;> rfl
    by_cases h7 : a = 7
    · subst h7
      rw [cXk_7, cXk_7] <;> rfl
    by_cases h10 : a = 10
    · subst h10
      rw [cXk_10, cXk_10] <;> rfl
    by_cases h11 : a = 11
    · subst h11
      rw [cXk_11, cXk_11] <;> rfl
    by_cases h12 : a = 12
    · subst h12
      rw [cXk_12, cXk_12] <;> rfl
    by_cases h13 : a = 13
    · subst h13
      rw [cXk_13, cXk_13] <;> rfl
    by_cases h14 : a = 14
    · subst h14
      rw [cXk_14, cXk_14] <;> rfl
    by_cases h20 : a = 20
    · subst h20
      rw [cXk_20, cXk_20] <;> rfl
    by_cases h30 : a = 30
    · subst h30
      have hb : b ≠ i := fun z => hk (by rw [z])
      show (if b < nT (up2 μ.1 27 i v, μ.2) then some (Sum.inr (3, fT lay (up2 μ.1 27 i v, μ.2) b) : xE) else none) = (if b < nT μ then some (Sum.inr (3, fT lay μ b) : xE) else none)
      rw [show fT lay (up2 μ.1 27 i v, μ.2) b = fT lay μ b from funext fun j => by unfold fT; split <;> first | rfl | simp [up2, hb]] <;> rfl
    by_cases h31 : a = 31
    · subst h31
      rw [cXk_31, cXk_31] <;> rfl
    rw [cX_r h0 h1 h2 h3 h4 h5 h6 h7 h10 h11 h12 h13 h14 h20 h30 h31, cX_r h0 h1 h2 h3 h4 h5 h6 h7 h10 h11 h12 h13 h14 h20 h30 h31]
set_option maxRecDepth 100000 in
set_option maxHeartbeats 60000 in
theorem cw_T12 {Z : xZ} {lay : xK → Nat} {μ : Mu} {tb : Tb} {r : xK → Option xE} {i : Nat} (h : i < nT μ) {v : Int32} : ∀ y9, cX Z lay (up2 μ.1 29 i v, μ.2) tb r y9 = xup (cX Z lay μ tb r) (30, i) (.inr (3, updV (fT lay μ i) 12 (.int v))) y9 := by
  rintro ⟨a, b⟩
  by_cases hk : (a, b) = ((30, i) : xK)
  · rw [xup, if_pos hk]
    obtain ⟨rfl, rfl⟩ := Prod.mk.inj hk
    show (if b < nT (up2 μ.1 29 b v, μ.2) then some (Sum.inr (3, fT lay (up2 μ.1 29 b v, μ.2) b) : xE) else none) = _
    refine Eq.trans (if_pos h) ?_
    refine congrArg (fun f => some (Sum.inr (3, f) : xE)) (funext fun j => ?_)
    unfold updV
    by_cases hj : j = 12
    · subst hj; simp [fT, up2]
    · rw [if_neg hj]
      unfold fT
      split <;> first | rfl | exact absurd rfl hj | simp [up2]
  · rw [xup, if_neg hk]
    by_cases h0 : a = 0
    · subst h0
      rw [cXk_0, cXk_0] <;> rfl
    by_cases h1 : a = 1
    · subst h1
      rw [cXk_1, cXk_1] <;> rfl
    by_cases h2 : a = 2
    · subst h2
      rw [cXk_2, cXk_2] <;> rfl
    by_cases h3 : a = 3
    · subst h3
      rw [cXk_3, cXk_3] <;> rfl
    by_cases h4 : a = 4
    · subst h4
      rw [cXk_4, cXk_4] <;> rfl
    by_cases h5 : a = 5
    · subst h5
      rw [cXk_5, cXk_5] <;> rfl
    by_cases h6 : a = 6
    · subst h6
      rw [cXk_6, cXk_6] <;> rfl
    by_cases h7 : a = 7
    · subst h7
      rw [cXk_7, cXk_7] <;> rfl
    by_cases h10 : a = 10
    · subst h10
      rw [cXk_10, cXk_10] <;> rfl
    by_cases h11 : a = 11
    · subst h11
      rw [cXk_11, cXk_11] <;> rfl
    by_cases h12 : a = 12
    · subst h12
      rw [cXk_12, cXk_12] <;> rfl
    by_cases h13 : a = 13
    · subst h13
      rw [cXk_13, cXk_13] <;> rfl
    by_cases h14 : a = 14
    · subst h14
      rw [cXk_14, cXk_14] <;> rfl
    by_cases h20 : a = 20
    · subst h20
      rw [cXk_20, cXk_20] <;> rfl
    by_cases h30 : a = 30
    · subst h30
      have hb : b ≠ i := fun z => hk (by rw [z])
      show (if b < nT (up2 μ.1 29 i v, μ.2) then some (Sum.inr (3, fT lay (up2 μ.1 29 i v, μ.2) b) : xE) else none) = (if b < nT μ then some (Sum.inr (3, fT lay μ b) : xE) else none)
      rw [show fT lay (up2 μ.1 29 i v, μ.2) b = fT lay μ b from funext fun j => by unfold fT; split <;> first | rfl | simp [up2, hb]] <;> rfl
    by_cases h31 : a = 31
    · subst h31
      rw [cXk_31, cXk_31] <;> rfl
    rw [cX_r h0 h1 h2 h3 h4 h5 h6 h7 h10 h11 h12 h13 h14 h20 h30 h31, cX_r h0 h1 h2 h3 h4 h5 h6 h7 h10 h11 h12 h13 h14 h20 h30 h31]
set_option maxRecDepth 100000 in
set_option maxHeartbeats 60000 in
theorem cw_T14 {Z : xZ} {lay : xK → Nat} {μ : Mu} {tb : Tb} {r : xK → Option xE} {i : Nat} (h : i < nT μ) {v : Int32} : ∀ y9, cX Z lay (up2 μ.1 35 i v, μ.2) tb r y9 = xup (cX Z lay μ tb r) (30, i) (.inr (3, updV (fT lay μ i) 14 (.int v))) y9 := by
  rintro ⟨a, b⟩
  by_cases hk : (a, b) = ((30, i) : xK)
  · rw [xup, if_pos hk]
    obtain ⟨rfl, rfl⟩ := Prod.mk.inj hk
    show (if b < nT (up2 μ.1 35 b v, μ.2) then some (Sum.inr (3, fT lay (up2 μ.1 35 b v, μ.2) b) : xE) else none) = _
    refine Eq.trans (if_pos h) ?_
    refine congrArg (fun f => some (Sum.inr (3, f) : xE)) (funext fun j => ?_)
    unfold updV
    by_cases hj : j = 14
    · subst hj; simp [fT, up2]
    · rw [if_neg hj]
      unfold fT
      split <;> first | rfl | exact absurd rfl hj | simp [up2]
  · rw [xup, if_neg hk]
    by_cases h0 : a = 0
    · subst h0
      rw [cXk_0, cXk_0] <;> rfl
    by_cases h1 : a = 1
    · subst h1
      rw [cXk_1, cXk_1] <;> rfl
    by_cases h2 : a = 2
    · subst h2
      rw [cXk_2, cXk_2] <;> rfl
    by_cases h3 : a = 3
    · subst h3
      rw [cXk_3, cXk_3] <;> rfl
    by_cases h4 : a = 4
    · subst h4
      rw [cXk_4, cXk_4] <;> rfl
    by_cases h5 : a = 5
    · subst h5
      rw [cXk_5, cXk_5] <;> rfl
    by_cases h6 : a = 6
    · subst h6
      rw [cXk_6, cXk_6] <;> rfl
    by_cases h7 : a = 7
    · subst h7
      rw [cXk_7, cXk_7] <;> rfl
    by_cases h10 : a = 10
    · subst h10
      rw [cXk_10, cXk_10] <;> rfl
    by_cases h11 : a = 11
    · subst h11
      rw [cXk_11, cXk_11] <;> rfl
    by_cases h12 : a = 12
    · subst h12
      rw [cXk_12, cXk_12] <;> rfl
    by_cases h13 : a = 13
    · subst h13
      rw [cXk_13, cXk_13] <;> rfl
    by_cases h14 : a = 14
    · subst h14
      rw [cXk_14, cXk_14] <;> rfl
    by_cases h20 : a = 20
    · subst h20
      rw [cXk_20, cXk_20] <;> rfl
    by_cases h30 : a = 30
    · subst h30
      have hb : b ≠ i := fun z => hk (by rw [z])
      show (if b < nT (up2 μ.1 35 i v, μ.2) then some (Sum.inr (3, fT lay (up2 μ.1 35 i v, μ.2) b) : xE) else none) = (if b < nT μ then some (Sum.inr (3, fT lay μ b) : xE) else none)
      rw [show fT lay (up2 μ.1 35 i v, μ.2) b = fT lay μ b from funext fun j => by unfold fT; split <;> first | rfl | simp [up2, hb]] <;> rfl
    by_cases h31 : a = 31
    · subst h31
      rw [cXk_31, cXk_31] <;> rfl
    rw [cX_r h0 h1 h2 h3 h4 h5 h6 h7 h10 h11 h12 h13 h14 h20 h30 h31, cX_r h0 h1 h2 h3 h4 h5 h6 h7 h10 h11 h12 h13 h14 h20 h30 h31]
set_option maxRecDepth 100000 in
set_option maxHeartbeats 60000 in
theorem cw_T5 {Z : xZ} {lay : xK → Nat} {μ : Mu} {tb : Tb} {r : xK → Option xE} {i : Nat} (h : i < nT μ) {v : Int32} : ∀ y9, cX Z lay (up2 μ.1 19 i v, μ.2) tb r y9 = xup (cX Z lay μ tb r) (30, i) (.inr (3, updV (fT lay μ i) 5 (.ref (lay (10, ix v))))) y9 := by
  rintro ⟨a, b⟩
  by_cases hk : (a, b) = ((30, i) : xK)
  · rw [xup, if_pos hk]
    obtain ⟨rfl, rfl⟩ := Prod.mk.inj hk
    show (if b < nT (up2 μ.1 19 b v, μ.2) then some (Sum.inr (3, fT lay (up2 μ.1 19 b v, μ.2) b) : xE) else none) = _
    refine Eq.trans (if_pos h) ?_
    refine congrArg (fun f => some (Sum.inr (3, f) : xE)) (funext fun j => ?_)
    unfold updV
    by_cases hj : j = 5
    · subst hj; simp [fT, up2]
    · rw [if_neg hj]
      unfold fT
      split <;> first | exact absurd rfl hj | (simp [up2]; done) | rfl
  · rw [xup, if_neg hk]
    by_cases h0 : a = 0
    · subst h0
      rw [cXk_0, cXk_0] <;> rfl
    by_cases h1 : a = 1
    · subst h1
      rw [cXk_1, cXk_1] <;> rfl
    by_cases h2 : a = 2
    · subst h2
      rw [cXk_2, cXk_2] <;> rfl
    by_cases h3 : a = 3
    · subst h3
      rw [cXk_3, cXk_3] <;> rfl
    by_cases h4 : a = 4
    · subst h4
      rw [cXk_4, cXk_4] <;> rfl
    by_cases h5 : a = 5
    · subst h5
      rw [cXk_5, cXk_5] <;> rfl
    by_cases h6 : a = 6
    · subst h6
      rw [cXk_6, cXk_6] <;> rfl
    by_cases h7 : a = 7
    · subst h7
      rw [cXk_7, cXk_7] <;> rfl
    by_cases h10 : a = 10
    · subst h10
      rw [cXk_10, cXk_10] <;> rfl
    by_cases h11 : a = 11
    · subst h11
      rw [cXk_11, cXk_11] <;> rfl
    by_cases h12 : a = 12
    · subst h12
      rw [cXk_12, cXk_12] <;> rfl
    by_cases h13 : a = 13
    · subst h13
      rw [cXk_13, cXk_13] <;> rfl
    by_cases h14 : a = 14
    · subst h14
      rw [cXk_14, cXk_14] <;> rfl
    by_cases h20 : a = 20
    · subst h20
      rw [cXk_20, cXk_20] <;> rfl
    by_cases h30 : a = 30
    · subst h30
      have hb : b ≠ i := fun z => hk (by rw [z])
      show (if b < nT (up2 μ.1 19 i v, μ.2) then some (Sum.inr (3, fT lay (up2 μ.1 19 i v, μ.2) b) : xE) else none) = (if b < nT μ then some (Sum.inr (3, fT lay μ b) : xE) else none)
      rw [show fT lay (up2 μ.1 19 i v, μ.2) b = fT lay μ b from funext fun j => by unfold fT; split <;> first | (simp [up2, hb]; done) | rfl] <;> rfl
    by_cases h31 : a = 31
    · subst h31
      rw [cXk_31, cXk_31] <;> rfl
    rw [cX_r h0 h1 h2 h3 h4 h5 h6 h7 h10 h11 h12 h13 h14 h20 h30 h31, cX_r h0 h1 h2 h3 h4 h5 h6 h7 h10 h11 h12 h13 h14 h20 h30 h31]
set_option maxRecDepth 100000 in
set_option maxHeartbeats 60000 in
theorem cw_T6 {Z : xZ} {lay : xK → Nat} {μ : Mu} {tb : Tb} {r : xK → Option xE} {i : Nat} (h : i < nT μ) {v : Int32} : ∀ y9, cX Z lay (up2 μ.1 24 i v, μ.2) tb r y9 = xup (cX Z lay μ tb r) (30, i) (.inr (3, updV (fT lay μ i) 6 (.ref (lay (10, ix v))))) y9 := by
  rintro ⟨a, b⟩
  by_cases hk : (a, b) = ((30, i) : xK)
  · rw [xup, if_pos hk]
    obtain ⟨rfl, rfl⟩ := Prod.mk.inj hk
    show (if b < nT (up2 μ.1 24 b v, μ.2) then some (Sum.inr (3, fT lay (up2 μ.1 24 b v, μ.2) b) : xE) else none) = _
    refine Eq.trans (if_pos h) ?_
    refine congrArg (fun f => some (Sum.inr (3, f) : xE)) (funext fun j => ?_)
    unfold updV
    by_cases hj : j = 6
    · subst hj; simp [fT, up2]
    · rw [if_neg hj]
      unfold fT
      split <;> first | exact absurd rfl hj | (simp [up2]; done) | rfl
  · rw [xup, if_neg hk]
    by_cases h0 : a = 0
    · subst h0
      rw [cXk_0, cXk_0] <;> rfl
    by_cases h1 : a = 1
    · subst h1
      rw [cXk_1, cXk_1] <;> rfl
    by_cases h2 : a = 2
    · subst h2
      rw [cXk_2, cXk_2] <;> rfl
    by_cases h3 : a = 3
    · subst h3
      rw [cXk_3, cXk_3] <;> rfl
    by_cases h4 : a = 4
    · subst h4
      rw [cXk_4, cXk_4] <;> rfl
    by_cases h5 : a = 5
    · subst h5
      rw [cXk_5, cXk_5] <;> rfl
    by_cases h6 : a = 6
    · subst h6
      rw [cXk_6, cXk_6] <;> rfl
    by_cases h7 : a = 7
    · subst h7
      rw [cXk_7, cXk_7] <;> rfl
    by_cases h10 : a = 10
    · subst h10
      rw [cXk_10, cXk_10] <;> rfl
    by_cases h11 : a = 11
    · subst h11
      rw [cXk_11, cXk_11] <;> rfl
    by_cases h12 : a = 12
    · subst h12
      rw [cXk_12, cXk_12] <;> rfl
    by_cases h13 : a = 13
    · subst h13
      rw [cXk_13, cXk_13] <;> rfl
    by_cases h14 : a = 14
    · subst h14
      rw [cXk_14, cXk_14] <;> rfl
    by_cases h20 : a = 20
    · subst h20
      rw [cXk_20, cXk_20] <;> rfl
    by_cases h30 : a = 30
    · subst h30
      have hb : b ≠ i := fun z => hk (by rw [z])
      show (if b < nT (up2 μ.1 24 i v, μ.2) then some (Sum.inr (3, fT lay (up2 μ.1 24 i v, μ.2) b) : xE) else none) = (if b < nT μ then some (Sum.inr (3, fT lay μ b) : xE) else none)
      rw [show fT lay (up2 μ.1 24 i v, μ.2) b = fT lay μ b from funext fun j => by unfold fT; split <;> first | (simp [up2, hb]; done) | rfl] <;> rfl
    by_cases h31 : a = 31
    · subst h31
      rw [cXk_31, cXk_31] <;> rfl
    rw [cX_r h0 h1 h2 h3 h4 h5 h6 h7 h10 h11 h12 h13 h14 h20 h30 h31, cX_r h0 h1 h2 h3 h4 h5 h6 h7 h10 h11 h12 h13 h14 h20 h30 h31]
set_option maxRecDepth 100000 in
set_option maxHeartbeats 60000 in
theorem cw_T7 {Z : xZ} {lay : xK → Nat} {μ : Mu} {tb : Tb} {r : xK → Option xE} {i : Nat} (h : i < nT μ) {v : Int32} : ∀ y9, cX Z lay (up2 μ.1 25 i v, μ.2) tb r y9 = xup (cX Z lay μ tb r) (30, i) (.inr (3, updV (fT lay μ i) 7 (tLeg lay v))) y9 := by
  rintro ⟨a, b⟩
  by_cases hk : (a, b) = ((30, i) : xK)
  · rw [xup, if_pos hk]
    obtain ⟨rfl, rfl⟩ := Prod.mk.inj hk
    show (if b < nT (up2 μ.1 25 b v, μ.2) then some (Sum.inr (3, fT lay (up2 μ.1 25 b v, μ.2) b) : xE) else none) = _
    refine Eq.trans (if_pos h) ?_
    refine congrArg (fun f => some (Sum.inr (3, f) : xE)) (funext fun j => ?_)
    unfold updV
    by_cases hj : j = 7
    · subst hj; simp [fT, up2]
    · rw [if_neg hj]
      unfold fT
      split <;> first | exact absurd rfl hj | (simp [up2]; done) | rfl
  · rw [xup, if_neg hk]
    by_cases h0 : a = 0
    · subst h0
      rw [cXk_0, cXk_0] <;> rfl
    by_cases h1 : a = 1
    · subst h1
      rw [cXk_1, cXk_1] <;> rfl
    by_cases h2 : a = 2
    · subst h2
      rw [cXk_2, cXk_2] <;> rfl
    by_cases h3 : a = 3
    · subst h3
      rw [cXk_3, cXk_3] <;> rfl
    by_cases h4 : a = 4
    · subst h4
      rw [cXk_4, cXk_4] <;> rfl
    by_cases h5 : a = 5
    · subst h5
      rw [cXk_5, cXk_5] <;> rfl
    by_cases h6 : a = 6
    · subst h6
      rw [cXk_6, cXk_6] <;> rfl
    by_cases h7 : a = 7
    · subst h7
      rw [cXk_7, cXk_7] <;> rfl
    by_cases h10 : a = 10
    · subst h10
      rw [cXk_10, cXk_10] <;> rfl
    by_cases h11 : a = 11
    · subst h11
      rw [cXk_11, cXk_11] <;> rfl
    by_cases h12 : a = 12
    · subst h12
      rw [cXk_12, cXk_12] <;> rfl
    by_cases h13 : a = 13
    · subst h13
      rw [cXk_13, cXk_13] <;> rfl
    by_cases h14 : a = 14
    · subst h14
      rw [cXk_14, cXk_14] <;> rfl
    by_cases h20 : a = 20
    · subst h20
      rw [cXk_20, cXk_20] <;> rfl
    by_cases h30 : a = 30
    · subst h30
      have hb : b ≠ i := fun z => hk (by rw [z])
      show (if b < nT (up2 μ.1 25 i v, μ.2) then some (Sum.inr (3, fT lay (up2 μ.1 25 i v, μ.2) b) : xE) else none) = (if b < nT μ then some (Sum.inr (3, fT lay μ b) : xE) else none)
      rw [show fT lay (up2 μ.1 25 i v, μ.2) b = fT lay μ b from funext fun j => by unfold fT; split <;> first | (simp [up2, hb]; done) | rfl] <;> rfl
    by_cases h31 : a = 31
    · subst h31
      rw [cXk_31, cXk_31] <;> rfl
    rw [cX_r h0 h1 h2 h3 h4 h5 h6 h7 h10 h11 h12 h13 h14 h20 h30 h31, cX_r h0 h1 h2 h3 h4 h5 h6 h7 h10 h11 h12 h13 h14 h20 h30 h31]
set_option maxRecDepth 100000 in
set_option maxHeartbeats 60000 in
theorem cw_r1 {Z : xZ} {lay : xK → Nat} {μ : Mu} {tb : Tb} {r : xK → Option xE} {i k : Nat} (h : i < nP μ) (hk3 : k < 3) {v : Int32} : ∀ y9, cX Z lay (up2 μ.1 1 (3 * i + k) v, μ.2) tb r y9 = xup (cX Z lay μ tb r) (11, i) (.inl (Z.2 0, 3, .inl (upd (row3 μ.1 1 i) k v))) y9 := by
  rintro ⟨a, b⟩
  by_cases hk : (a, b) = ((11, i) : xK)
  · rw [xup, if_pos hk]
    obtain ⟨rfl, rfl⟩ := Prod.mk.inj hk
    show (if b < nP (up2 μ.1 1 (3 * b + k) v, μ.2) then some (aI Z 3 (row3 (up2 μ.1 1 (3 * b + k) v, μ.2).1 1 b)) else none) = _
    refine Eq.trans (if_pos h) ?_
    refine congrArg (fun f => some (aI Z 3 f)) (funext fun j => ?_)
    by_cases hj : j = k
    · subst hj; simp [row3, up2, upd, hk3]
    · simp [row3, up2, upd, hj]
  · rw [xup, if_neg hk]
    by_cases h0 : a = 0
    · subst h0
      rw [cXk_0, cXk_0] <;> rfl
    by_cases h1 : a = 1
    · subst h1
      rw [cXk_1, cXk_1] <;> rfl
    by_cases h2 : a = 2
    · subst h2
      rw [cXk_2, cXk_2] <;> rfl
    by_cases h3 : a = 3
    · subst h3
      rw [cXk_3, cXk_3] <;> rfl
    by_cases h4 : a = 4
    · subst h4
      rw [cXk_4, cXk_4] <;> rfl
    by_cases h5 : a = 5
    · subst h5
      rw [cXk_5, cXk_5] <;> rfl
    by_cases h6 : a = 6
    · subst h6
      rw [cXk_6, cXk_6] <;> rfl
    by_cases h7 : a = 7
    · subst h7
      rw [cXk_7, cXk_7] <;> rfl
    by_cases h10 : a = 10
    · subst h10
      rw [cXk_10, cXk_10] <;> rfl
    by_cases h11 : a = 11
    · subst h11
      have hb : b ≠ i := fun z => hk (by rw [z])
      show (if b < nP (up2 μ.1 1 (3 * i + k) v, μ.2) then some (aI Z 3 (row3 (up2 μ.1 1 (3 * i + k) v, μ.2).1 1 b)) else none) = (if b < nP μ then some (aI Z 3 (row3 μ.1 1 b)) else none)
      rw [show row3 (up2 μ.1 1 (3 * i + k) v, μ.2).1 1 b = row3 μ.1 1 b from funext fun j => by
        unfold row3
        by_cases hj : j < 3
        · rw [if_pos hj, if_pos hj]; simp [up2]; omega
        · rw [if_neg hj, if_neg hj]] <;> rfl
    by_cases h12 : a = 12
    · subst h12
      rw [cXk_12, cXk_12] <;> rfl
    by_cases h13 : a = 13
    · subst h13
      rw [cXk_13, cXk_13] <;> rfl
    by_cases h14 : a = 14
    · subst h14
      rw [cXk_14, cXk_14] <;> rfl
    by_cases h20 : a = 20
    · subst h20
      rw [cXk_20, cXk_20] <;> rfl
    by_cases h30 : a = 30
    · subst h30
      rw [cXk_30, cXk_30] <;> rfl
    by_cases h31 : a = 31
    · subst h31
      rw [cXk_31, cXk_31] <;> rfl
    rw [cX_r h0 h1 h2 h3 h4 h5 h6 h7 h10 h11 h12 h13 h14 h20 h30 h31, cX_r h0 h1 h2 h3 h4 h5 h6 h7 h10 h11 h12 h13 h14 h20 h30 h31]
set_option maxRecDepth 100000 in
set_option maxHeartbeats 60000 in
theorem cw_r2 {Z : xZ} {lay : xK → Nat} {μ : Mu} {tb : Tb} {r : xK → Option xE} {i k : Nat} (h : i < nP μ) (hk3 : k < 3) {v : Int32} : ∀ y9, cX Z lay (up2 μ.1 2 (3 * i + k) v, μ.2) tb r y9 = xup (cX Z lay μ tb r) (12, i) (.inl (Z.2 0, 3, .inl (upd (row3 μ.1 2 i) k v))) y9 := by
  rintro ⟨a, b⟩
  by_cases hk : (a, b) = ((12, i) : xK)
  · rw [xup, if_pos hk]
    obtain ⟨rfl, rfl⟩ := Prod.mk.inj hk
    show (if b < nP (up2 μ.1 2 (3 * b + k) v, μ.2) then some (aI Z 3 (row3 (up2 μ.1 2 (3 * b + k) v, μ.2).1 2 b)) else none) = _
    refine Eq.trans (if_pos h) ?_
    refine congrArg (fun f => some (aI Z 3 f)) (funext fun j => ?_)
    by_cases hj : j = k
    · subst hj; simp [row3, up2, upd, hk3]
    · simp [row3, up2, upd, hj]
  · rw [xup, if_neg hk]
    by_cases h0 : a = 0
    · subst h0
      rw [cXk_0, cXk_0] <;> rfl
    by_cases h1 : a = 1
    · subst h1
      rw [cXk_1, cXk_1] <;> rfl
    by_cases h2 : a = 2
    · subst h2
      rw [cXk_2, cXk_2] <;> rfl
    by_cases h3 : a = 3
    · subst h3
      rw [cXk_3, cXk_3] <;> rfl
    by_cases h4 : a = 4
    · subst h4
      rw [cXk_4, cXk_4] <;> rfl
    by_cases h5 : a = 5
    · subst h5
      rw [cXk_5, cXk_5] <;> rfl
    by_cases h6 : a = 6
    · subst h6
      rw [cXk_6, cXk_6] <;> rfl
    by_cases h7 : a = 7
    · subst h7
      rw [cXk_7, cXk_7] <;> rfl
    by_cases h10 : a = 10
    · subst h10
      rw [cXk_10, cXk_10] <;> rfl
    by_cases h11 : a = 11
    · subst h11
      rw [cXk_11, cXk_11] <;> rfl
    by_cases h12 : a = 12
    · subst h12
      have hb : b ≠ i := fun z => hk (by rw [z])
      show (if b < nP (up2 μ.1 2 (3 * i + k) v, μ.2) then some (aI Z 3 (row3 (up2 μ.1 2 (3 * i + k) v, μ.2).1 2 b)) else none) = (if b < nP μ then some (aI Z 3 (row3 μ.1 2 b)) else none)
      rw [show row3 (up2 μ.1 2 (3 * i + k) v, μ.2).1 2 b = row3 μ.1 2 b from funext fun j => by
        unfold row3
        by_cases hj : j < 3
        · rw [if_pos hj, if_pos hj]; simp [up2]; omega
        · rw [if_neg hj, if_neg hj]] <;> rfl
    by_cases h13 : a = 13
    · subst h13
      rw [cXk_13, cXk_13] <;> rfl
    by_cases h14 : a = 14
    · subst h14
      rw [cXk_14, cXk_14] <;> rfl
    by_cases h20 : a = 20
    · subst h20
      rw [cXk_20, cXk_20] <;> rfl
    by_cases h30 : a = 30
    · subst h30
      rw [cXk_30, cXk_30] <;> rfl
    by_cases h31 : a = 31
    · subst h31
      rw [cXk_31, cXk_31] <;> rfl
    rw [cX_r h0 h1 h2 h3 h4 h5 h6 h7 h10 h11 h12 h13 h14 h20 h30 h31, cX_r h0 h1 h2 h3 h4 h5 h6 h7 h10 h11 h12 h13 h14 h20 h30 h31]
set_option maxRecDepth 100000 in
set_option maxHeartbeats 60000 in
theorem cw_r3 {Z : xZ} {lay : xK → Nat} {μ : Mu} {tb : Tb} {r : xK → Option xE} {i k : Nat} (h : i < nP μ) (hk3 : k < 3) {v : Int32} : ∀ y9, cX Z lay (up2 μ.1 3 (3 * i + k) v, μ.2) tb r y9 = xup (cX Z lay μ tb r) (13, i) (.inl (Z.2 0, 3, .inl (upd (row3 μ.1 3 i) k v))) y9 := by
  rintro ⟨a, b⟩
  by_cases hk : (a, b) = ((13, i) : xK)
  · rw [xup, if_pos hk]
    obtain ⟨rfl, rfl⟩ := Prod.mk.inj hk
    show (if b < nP (up2 μ.1 3 (3 * b + k) v, μ.2) then some (aI Z 3 (row3 (up2 μ.1 3 (3 * b + k) v, μ.2).1 3 b)) else none) = _
    refine Eq.trans (if_pos h) ?_
    refine congrArg (fun f => some (aI Z 3 f)) (funext fun j => ?_)
    by_cases hj : j = k
    · subst hj; simp [row3, up2, upd, hk3]
    · simp [row3, up2, upd, hj]
  · rw [xup, if_neg hk]
    by_cases h0 : a = 0
    · subst h0
      rw [cXk_0, cXk_0] <;> rfl
    by_cases h1 : a = 1
    · subst h1
      rw [cXk_1, cXk_1] <;> rfl
    by_cases h2 : a = 2
    · subst h2
      rw [cXk_2, cXk_2] <;> rfl
    by_cases h3 : a = 3
    · subst h3
      rw [cXk_3, cXk_3] <;> rfl
    by_cases h4 : a = 4
    · subst h4
      rw [cXk_4, cXk_4] <;> rfl
    by_cases h5 : a = 5
    · subst h5
      rw [cXk_5, cXk_5] <;> rfl
    by_cases h6 : a = 6
    · subst h6
      rw [cXk_6, cXk_6] <;> rfl
    by_cases h7 : a = 7
    · subst h7
      rw [cXk_7, cXk_7] <;> rfl
    by_cases h10 : a = 10
    · subst h10
      rw [cXk_10, cXk_10] <;> rfl
    by_cases h11 : a = 11
    · subst h11
      rw [cXk_11, cXk_11] <;> rfl
    by_cases h12 : a = 12
    · subst h12
      rw [cXk_12, cXk_12] <;> rfl
    by_cases h13 : a = 13
    · subst h13
      have hb : b ≠ i := fun z => hk (by rw [z])
      show (if b < nP (up2 μ.1 3 (3 * i + k) v, μ.2) then some (aI Z 3 (row3 (up2 μ.1 3 (3 * i + k) v, μ.2).1 3 b)) else none) = (if b < nP μ then some (aI Z 3 (row3 μ.1 3 b)) else none)
      rw [show row3 (up2 μ.1 3 (3 * i + k) v, μ.2).1 3 b = row3 μ.1 3 b from funext fun j => by
        unfold row3
        by_cases hj : j < 3
        · rw [if_pos hj, if_pos hj]; simp [up2]; omega
        · rw [if_neg hj, if_neg hj]] <;> rfl
    by_cases h14 : a = 14
    · subst h14
      rw [cXk_14, cXk_14] <;> rfl
    by_cases h20 : a = 20
    · subst h20
      rw [cXk_20, cXk_20] <;> rfl
    by_cases h30 : a = 30
    · subst h30
      rw [cXk_30, cXk_30] <;> rfl
    by_cases h31 : a = 31
    · subst h31
      rw [cXk_31, cXk_31] <;> rfl
    rw [cX_r h0 h1 h2 h3 h4 h5 h6 h7 h10 h11 h12 h13 h14 h20 h30 h31, cX_r h0 h1 h2 h3 h4 h5 h6 h7 h10 h11 h12 h13 h14 h20 h30 h31]
set_option maxRecDepth 100000 in
set_option maxHeartbeats 60000 in
theorem cw_c {Z : xZ} {lay : xK → Nat} {μ : Mu} {tb : Tb} {r : xK → Option xE} {i k : Nat} (h : i < nP μ) (hk8 : k < 8) {v : Int64} : ∀ y9, cX Z lay (μ.1, up2 μ.2 9 (8 * i + k) v) tb r y9 = xup (cX Z lay μ tb r) (14, i) (.inl (Z.2 1, 8, .inr (.inl (vp_updL (row8 μ.2 i) k v)))) y9 := by
  rintro ⟨a, b⟩
  by_cases hk : (a, b) = ((14, i) : xK)
  · rw [xup, if_pos hk]
    obtain ⟨rfl, rfl⟩ := Prod.mk.inj hk
    show (if b < nP (μ.1, up2 μ.2 9 (8 * b + k) v) then some (aL Z 8 (row8 (μ.1, up2 μ.2 9 (8 * b + k) v).2 b)) else none) = _
    refine Eq.trans (if_pos h) ?_
    refine congrArg (fun f => some (aL Z 8 f)) (funext fun j => ?_)
    by_cases hj : j = k
    · subst hj; simp [row8, up2, vp_updL, hk8]
    · simp [row8, up2, vp_updL, hj]
  · rw [xup, if_neg hk]
    by_cases h0 : a = 0
    · subst h0
      rw [cXk_0, cXk_0] <;> rfl
    by_cases h1 : a = 1
    · subst h1
      rw [cXk_1, cXk_1] <;> rfl
    by_cases h2 : a = 2
    · subst h2
      rw [cXk_2, cXk_2] <;> rfl
    by_cases h3 : a = 3
    · subst h3
      rw [cXk_3, cXk_3] <;> rfl
    by_cases h4 : a = 4
    · subst h4
      rw [cXk_4, cXk_4] <;> rfl
    by_cases h5 : a = 5
    · subst h5
      rw [cXk_5, cXk_5] <;> rfl
    by_cases h6 : a = 6
    · subst h6
      rw [cXk_6, cXk_6] <;> rfl
    by_cases h7 : a = 7
    · subst h7
      rw [cXk_7, cXk_7] <;> rfl
    by_cases h10 : a = 10
    · subst h10
      rw [cXk_10, cXk_10] <;> rfl
    by_cases h11 : a = 11
    · subst h11
      rw [cXk_11, cXk_11] <;> rfl
    by_cases h12 : a = 12
    · subst h12
      rw [cXk_12, cXk_12] <;> rfl
    by_cases h13 : a = 13
    · subst h13
      rw [cXk_13, cXk_13] <;> rfl
    by_cases h14 : a = 14
    · subst h14
      have hb : b ≠ i := fun z => hk (by rw [z])
      show (if b < nP (μ.1, up2 μ.2 9 (8 * i + k) v) then some (aL Z 8 (row8 (μ.1, up2 μ.2 9 (8 * i + k) v).2 b)) else none) = (if b < nP μ then some (aL Z 8 (row8 μ.2 b)) else none)
      rw [show row8 (μ.1, up2 μ.2 9 (8 * i + k) v).2 b = row8 μ.2 b from funext fun j => by
        unfold row8
        by_cases hj : j < 8
        · rw [if_pos hj, if_pos hj]; simp [up2]; omega
        · rw [if_neg hj, if_neg hj]] <;> rfl
    by_cases h20 : a = 20
    · subst h20
      rw [cXk_20, cXk_20] <;> rfl
    by_cases h30 : a = 30
    · subst h30
      rw [cXk_30, cXk_30] <;> rfl
    by_cases h31 : a = 31
    · subst h31
      rw [cXk_31, cXk_31] <;> rfl
    rw [cX_r h0 h1 h2 h3 h4 h5 h6 h7 h10 h11 h12 h13 h14 h20 h30 h31, cX_r h0 h1 h2 h3 h4 h5 h6 h7 h10 h11 h12 h13 h14 h20 h30 h31]
set_option maxRecDepth 100000 in
set_option maxHeartbeats 60000 in
theorem cw_t0 {Z : xZ} {lay : xK → Nat} {μ : Mu} {tb : Tb} {r : xK → Option xE} {k : Nat} {v : Int32} : ∀ y9, cX Z lay μ (up2 tb.1 0 k v, tb.2) r y9 = xup (cX Z lay μ tb r) (5, 0) (.inl (Z.2 0, 64, .inl (upd (tb.1 0) k v))) y9 := by
  rintro ⟨a, b⟩
  by_cases hk : (a, b) = ((5, 0) : xK)
  · rw [xup, if_pos hk]
    obtain ⟨rfl, rfl⟩ := Prod.mk.inj hk
    show some (aI Z 64 (up2 tb.1 0 k v 0)) = _
    exact congrArg (fun f => some (aI Z 64 f)) (funext fun j => by simp [up2, upd])
  · rw [xup, if_neg hk]
    by_cases h0 : a = 0
    · subst h0
      rw [cXk_0, cXk_0] <;> rfl
    by_cases h1 : a = 1
    · subst h1
      rw [cXk_1, cXk_1] <;> rfl
    by_cases h2 : a = 2
    · subst h2
      rw [cXk_2, cXk_2] <;> rfl
    by_cases h3 : a = 3
    · subst h3
      rw [cXk_3, cXk_3] <;> rfl
    by_cases h4 : a = 4
    · subst h4
      rw [cXk_4, cXk_4] <;> rfl
    by_cases h5 : a = 5
    · subst h5
      have hb : b ≠ 0 := fun z => hk (by rw [z])
      show (if b = 0 then some _ else none) = (if b = 0 then some _ else none)
      rw [if_neg hb, if_neg hb]
    by_cases h6 : a = 6
    · subst h6
      show (if b = 0 then some (aI Z 64 (up2 tb.1 0 k v 1)) else none) = (if b = 0 then some (aI Z 64 (tb.1 1)) else none)
      rw [up2_ne _ _ _ _ _ (show (1 : Nat) ≠ 0 by decide)]
    by_cases h7 : a = 7
    · subst h7
      show (if b = 0 then some (aI Z 64 (up2 tb.1 0 k v 2)) else none) = (if b = 0 then some (aI Z 64 (tb.1 2)) else none)
      rw [up2_ne _ _ _ _ _ (show (2 : Nat) ≠ 0 by decide)]
    by_cases h10 : a = 10
    · subst h10
      rw [cXk_10, cXk_10] <;> rfl
    by_cases h11 : a = 11
    · subst h11
      rw [cXk_11, cXk_11] <;> rfl
    by_cases h12 : a = 12
    · subst h12
      rw [cXk_12, cXk_12] <;> rfl
    by_cases h13 : a = 13
    · subst h13
      rw [cXk_13, cXk_13] <;> rfl
    by_cases h14 : a = 14
    · subst h14
      rw [cXk_14, cXk_14] <;> rfl
    by_cases h20 : a = 20
    · subst h20
      rw [cXk_20, cXk_20] <;> rfl
    by_cases h30 : a = 30
    · subst h30
      rw [cXk_30, cXk_30] <;> rfl
    by_cases h31 : a = 31
    · subst h31
      rw [cXk_31, cXk_31] <;> rfl
    rw [cX_r h0 h1 h2 h3 h4 h5 h6 h7 h10 h11 h12 h13 h14 h20 h30 h31, cX_r h0 h1 h2 h3 h4 h5 h6 h7 h10 h11 h12 h13 h14 h20 h30 h31]
set_option maxRecDepth 100000 in
set_option maxHeartbeats 60000 in
theorem cw_t1 {Z : xZ} {lay : xK → Nat} {μ : Mu} {tb : Tb} {r : xK → Option xE} {k : Nat} {v : Int32} : ∀ y9, cX Z lay μ (up2 tb.1 1 k v, tb.2) r y9 = xup (cX Z lay μ tb r) (6, 0) (.inl (Z.2 0, 64, .inl (upd (tb.1 1) k v))) y9 := by
  rintro ⟨a, b⟩
  by_cases hk : (a, b) = ((6, 0) : xK)
  · rw [xup, if_pos hk]
    obtain ⟨rfl, rfl⟩ := Prod.mk.inj hk
    show some (aI Z 64 (up2 tb.1 1 k v 1)) = _
    exact congrArg (fun f => some (aI Z 64 f)) (funext fun j => by simp [up2, upd])
  · rw [xup, if_neg hk]
    by_cases h0 : a = 0
    · subst h0
      rw [cXk_0, cXk_0] <;> rfl
    by_cases h1 : a = 1
    · subst h1
      rw [cXk_1, cXk_1] <;> rfl
    by_cases h2 : a = 2
    · subst h2
      rw [cXk_2, cXk_2] <;> rfl
    by_cases h3 : a = 3
    · subst h3
      rw [cXk_3, cXk_3] <;> rfl
    by_cases h4 : a = 4
    · subst h4
      rw [cXk_4, cXk_4] <;> rfl
    by_cases h5 : a = 5
    · subst h5
      show (if b = 0 then some (aI Z 64 (up2 tb.1 1 k v 0)) else none) = (if b = 0 then some (aI Z 64 (tb.1 0)) else none)
      rw [up2_ne _ _ _ _ _ (show (0 : Nat) ≠ 1 by decide)]
    by_cases h6 : a = 6
    · subst h6
      have hb : b ≠ 0 := fun z => hk (by rw [z])
      show (if b = 0 then some _ else none) = (if b = 0 then some _ else none)
      rw [if_neg hb, if_neg hb]
    by_cases h7 : a = 7
    · subst h7
      show (if b = 0 then some (aI Z 64 (up2 tb.1 1 k v 2)) else none) = (if b = 0 then some (aI Z 64 (tb.1 2)) else none)
      rw [up2_ne _ _ _ _ _ (show (2 : Nat) ≠ 1 by decide)]
    by_cases h10 : a = 10
    · subst h10
      rw [cXk_10, cXk_10] <;> rfl
    by_cases h11 : a = 11
    · subst h11
      rw [cXk_11, cXk_11] <;> rfl
    by_cases h12 : a = 12
    · subst h12
      rw [cXk_12, cXk_12] <;> rfl
    by_cases h13 : a = 13
    · subst h13
      rw [cXk_13, cXk_13] <;> rfl
    by_cases h14 : a = 14
    · subst h14
      rw [cXk_14, cXk_14] <;> rfl
    by_cases h20 : a = 20
    · subst h20
      rw [cXk_20, cXk_20] <;> rfl
    by_cases h30 : a = 30
    · subst h30
      rw [cXk_30, cXk_30] <;> rfl
    by_cases h31 : a = 31
    · subst h31
      rw [cXk_31, cXk_31] <;> rfl
    rw [cX_r h0 h1 h2 h3 h4 h5 h6 h7 h10 h11 h12 h13 h14 h20 h30 h31, cX_r h0 h1 h2 h3 h4 h5 h6 h7 h10 h11 h12 h13 h14 h20 h30 h31]
set_option maxRecDepth 100000 in
set_option maxHeartbeats 60000 in
theorem cw_t2 {Z : xZ} {lay : xK → Nat} {μ : Mu} {tb : Tb} {r : xK → Option xE} {k : Nat} {v : Int32} : ∀ y9, cX Z lay μ (up2 tb.1 2 k v, tb.2) r y9 = xup (cX Z lay μ tb r) (7, 0) (.inl (Z.2 0, 64, .inl (upd (tb.1 2) k v))) y9 := by
  rintro ⟨a, b⟩
  by_cases hk : (a, b) = ((7, 0) : xK)
  · rw [xup, if_pos hk]
    obtain ⟨rfl, rfl⟩ := Prod.mk.inj hk
    show some (aI Z 64 (up2 tb.1 2 k v 2)) = _
    exact congrArg (fun f => some (aI Z 64 f)) (funext fun j => by simp [up2, upd])
  · rw [xup, if_neg hk]
    by_cases h0 : a = 0
    · subst h0
      rw [cXk_0, cXk_0] <;> rfl
    by_cases h1 : a = 1
    · subst h1
      rw [cXk_1, cXk_1] <;> rfl
    by_cases h2 : a = 2
    · subst h2
      rw [cXk_2, cXk_2] <;> rfl
    by_cases h3 : a = 3
    · subst h3
      rw [cXk_3, cXk_3] <;> rfl
    by_cases h4 : a = 4
    · subst h4
      rw [cXk_4, cXk_4] <;> rfl
    by_cases h5 : a = 5
    · subst h5
      show (if b = 0 then some (aI Z 64 (up2 tb.1 2 k v 0)) else none) = (if b = 0 then some (aI Z 64 (tb.1 0)) else none)
      rw [up2_ne _ _ _ _ _ (show (0 : Nat) ≠ 2 by decide)]
    by_cases h6 : a = 6
    · subst h6
      show (if b = 0 then some (aI Z 64 (up2 tb.1 2 k v 1)) else none) = (if b = 0 then some (aI Z 64 (tb.1 1)) else none)
      rw [up2_ne _ _ _ _ _ (show (1 : Nat) ≠ 2 by decide)]
    by_cases h7 : a = 7
    · subst h7
      have hb : b ≠ 0 := fun z => hk (by rw [z])
      show (if b = 0 then some _ else none) = (if b = 0 then some _ else none)
      rw [if_neg hb, if_neg hb]
    by_cases h10 : a = 10
    · subst h10
      rw [cXk_10, cXk_10] <;> rfl
    by_cases h11 : a = 11
    · subst h11
      rw [cXk_11, cXk_11] <;> rfl
    by_cases h12 : a = 12
    · subst h12
      rw [cXk_12, cXk_12] <;> rfl
    by_cases h13 : a = 13
    · subst h13
      rw [cXk_13, cXk_13] <;> rfl
    by_cases h14 : a = 14
    · subst h14
      rw [cXk_14, cXk_14] <;> rfl
    by_cases h20 : a = 20
    · subst h20
      rw [cXk_20, cXk_20] <;> rfl
    by_cases h30 : a = 30
    · subst h30
      rw [cXk_30, cXk_30] <;> rfl
    by_cases h31 : a = 31
    · subst h31
      rw [cXk_31, cXk_31] <;> rfl
    rw [cX_r h0 h1 h2 h3 h4 h5 h6 h7 h10 h11 h12 h13 h14 h20 h30 h31, cX_r h0 h1 h2 h3 h4 h5 h6 h7 h10 h11 h12 h13 h14 h20 h30 h31]
set_option maxRecDepth 100000 in
set_option maxHeartbeats 60000 in
theorem cw_h {Z : xZ} {lay : xK → Nat} {μ : Mu} {tb : Tb} {r : xK → Option xE} {i k : Nat} (h : i < nT μ) {v : Int32} : ∀ y9, cX Z lay μ (tb.1, up2 tb.2.1 i k v, tb.2.2) r y9 = xup (cX Z lay μ tb r) (31, i) (.inl (Z.2 0, tb.2.2 i, .inl (upd (tb.2.1 i) k v))) y9 := by
  rintro ⟨a, b⟩
  by_cases hk : (a, b) = ((31, i) : xK)
  · rw [xup, if_pos hk]
    obtain ⟨rfl, rfl⟩ := Prod.mk.inj hk
    show (if b < nT μ then some (aI Z (tb.2.2 b) (up2 tb.2.1 b k v b)) else none) = _
    refine Eq.trans (if_pos h) ?_
    exact congrArg (fun f => some (aI Z (tb.2.2 b) f)) (funext fun j => by simp [up2, upd])
  · rw [xup, if_neg hk]
    by_cases h0 : a = 0
    · subst h0
      rw [cXk_0, cXk_0] <;> rfl
    by_cases h1 : a = 1
    · subst h1
      rw [cXk_1, cXk_1] <;> rfl
    by_cases h2 : a = 2
    · subst h2
      rw [cXk_2, cXk_2] <;> rfl
    by_cases h3 : a = 3
    · subst h3
      rw [cXk_3, cXk_3] <;> rfl
    by_cases h4 : a = 4
    · subst h4
      rw [cXk_4, cXk_4] <;> rfl
    by_cases h5 : a = 5
    · subst h5
      rw [cXk_5, cXk_5] <;> rfl
    by_cases h6 : a = 6
    · subst h6
      rw [cXk_6, cXk_6] <;> rfl
    by_cases h7 : a = 7
    · subst h7
      rw [cXk_7, cXk_7] <;> rfl
    by_cases h10 : a = 10
    · subst h10
      rw [cXk_10, cXk_10] <;> rfl
    by_cases h11 : a = 11
    · subst h11
      rw [cXk_11, cXk_11] <;> rfl
    by_cases h12 : a = 12
    · subst h12
      rw [cXk_12, cXk_12] <;> rfl
    by_cases h13 : a = 13
    · subst h13
      rw [cXk_13, cXk_13] <;> rfl
    by_cases h14 : a = 14
    · subst h14
      rw [cXk_14, cXk_14] <;> rfl
    by_cases h20 : a = 20
    · subst h20
      rw [cXk_20, cXk_20] <;> rfl
    by_cases h30 : a = 30
    · subst h30
      rw [cXk_30, cXk_30] <;> rfl
    by_cases h31 : a = 31
    · subst h31
      have hb : b ≠ i := fun z => hk (by rw [z])
      show (if b < nT μ then some (aI Z (tb.2.2 b) (up2 tb.2.1 i k v b)) else none) = (if b < nT μ then some (aI Z (tb.2.2 b) (tb.2.1 b)) else none)
      rw [up2_ne _ _ _ _ _ hb]
    rw [cX_r h0 h1 h2 h3 h4 h5 h6 h7 h10 h11 h12 h13 h14 h20 h30 h31, cX_r h0 h1 h2 h3 h4 h5 h6 h7 h10 h11 h12 h13 h14 h20 h30 h31]
