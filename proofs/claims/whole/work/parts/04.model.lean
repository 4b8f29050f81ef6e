abbrev ix (x : Int32) : Nat := x.toNatClampNeg
abbrev Mu : Type := (Nat → Nat → Int32) × (Nat → Nat → Int64)
def up2 {α : Type} (f : Nat → Nat → α) (j i : Nat) (v : α) : Nat → Nat → α := fun a b => if a = j ∧ b = i then v else f a b
def mSc : Nat → Bool := fun j => match j with | 0 => true | 10 => true | 16 => true | 30 => true | 36 => true | 38 => true | _ => false
def mLen : Nat → Nat := fun j => match j with | 1 => 24 | 2 => 24 | 3 => 24 | 4 => 8 | 5 => 8 | 6 => 8 | 7 => 8 | 8 => 8 | 9 => 64 | 11 => 20 | 12 => 20 | 13 => 20 | 14 => 20 | 15 => 8 | 17 => 40 | 18 => 40 | 19 => 40 | 20 => 40 | 21 => 40 | 22 => 40 | 23 => 40 | 24 => 40 | 25 => 40 | 26 => 40 | 27 => 40 | 28 => 40 | 29 => 40 | 31 => 80000 | 32 => 80000 | 33 => 40 | 34 => 40 | 35 => 40 | 37 => 3 | _ => 0
def mTy : Nat → Nat := fun j => match j with | 6 => 2 | 7 => 1 | 8 => 1 | 9 => 1 | 14 => 2 | 21 => 2 | 27 => 2 | 28 => 2 | 29 => 2 | _ => 0
def mIx : Nat → Nat := fun j => match j with | 0 => 116 | 1 => 7 | 2 => 13 | 3 => 16 | 4 => 19 | 5 => 22 | 6 => 25 | 7 => 29 | 8 => 33 | 9 => 36 | 10 => 138 | 11 => 39 | 12 => 42 | 13 => 45 | 14 => 48 | 15 => 51 | 16 => 167 | 17 => 54 | 18 => 57 | 19 => 60 | 20 => 63 | 21 => 66 | 22 => 69 | 23 => 72 | 24 => 75 | 25 => 78 | 26 => 81 | 27 => 84 | 28 => 87 | 29 => 90 | 30 => 160 | 31 => 94 | 32 => 97 | 33 => 100 | 34 => 103 | 35 => 106 | 36 => 194 | 37 => 109 | 38 => 112 | _ => 0
theorem mLk : ∀ j, j < 39 → Cond.fieldLink RX5 (mIx j) "PostunionModel" (TX5 j).2.1 (TX5 j).2.2.1 ∈ BG := by
  intro j hj
  match j, hj with
  | 0, _ => exact xw_at tW_15 24 rfl
  | 1, _ => exact xw_at tW_15 25 rfl
  | 2, _ => exact xw_at tW_15 26 rfl
  | 3, _ => exact xw_at tW_15 27 rfl
  | 4, _ => exact xw_at tW_15 28 rfl
  | 5, _ => exact xw_at tW_15 29 rfl
  | 6, _ => exact xw_at tW_15 30 rfl
  | 7, _ => exact xw_at tW_15 31 rfl
  | 8, _ => exact xw_at tW_15 32 rfl
  | 9, _ => exact xw_at tW_15 33 rfl
  | 10, _ => exact xw_at tW_15 34 rfl
  | 11, _ => exact xw_at tW_15 35 rfl
  | 12, _ => exact xw_at tW_15 36 rfl
  | 13, _ => exact xw_at tW_15 37 rfl
  | 14, _ => exact xw_at tW_15 38 rfl
  | 15, _ => exact xw_at tW_15 39 rfl
  | 16, _ => exact xw_at tW_16 0 rfl
  | 17, _ => exact xw_at tW_16 1 rfl
  | 18, _ => exact xw_at tW_16 2 rfl
  | 19, _ => exact xw_at tW_16 3 rfl
  | 20, _ => exact xw_at tW_16 4 rfl
  | 21, _ => exact xw_at tW_16 5 rfl
  | 22, _ => exact xw_at tW_16 6 rfl
  | 23, _ => exact xw_at tW_16 7 rfl
  | 24, _ => exact xw_at tW_16 8 rfl
  | 25, _ => exact xw_at tW_16 9 rfl
  | 26, _ => exact xw_at tW_16 10 rfl
  | 27, _ => exact xw_at tW_16 11 rfl
  | 28, _ => exact xw_at tW_16 12 rfl
  | 29, _ => exact xw_at tW_16 13 rfl
  | 30, _ => exact xw_at tW_16 14 rfl
  | 31, _ => exact xw_at tW_16 15 rfl
  | 32, _ => exact xw_at tW_16 16 rfl
  | 33, _ => exact xw_at tW_16 17 rfl
  | 34, _ => exact xw_at tW_16 18 rfl
  | 35, _ => exact xw_at tW_16 19 rfl
  | 36, _ => exact xw_at tW_16 20 rfl
  | 37, _ => exact xw_at tW_16 21 rfl
  | 38, _ => exact xw_at tW_16 22 rfl
  | j + 39, hj => exact absurd hj (by omega)
theorem mRf : ∀ j, j < 39 → "PostunionModel" = (TX5 j).1 := by decide +kernel
theorem mFin : ∀ j, j < 39 → mSc j = true → (TX5 j).2.2.2 = false := by decide +kernel
theorem mFinA : ∀ j, j < 39 → mSc j = false → (TX5 j).2.2.2 = true := by decide +kernel
theorem mTyS : ∀ j, j < 39 → mSc j = true → j ≠ 36 → tyX5 j = .int := by decide +kernel
theorem mLen31 : ∀ j, mLen j < 2 ^ 31 := by
  intro j
  unfold mLen
  split <;> decide
def fM (lay : xK → Nat) (μ : Mu) : Nat → Value := fun j => if mSc j = true then .int (μ.1 j 0) else .ref (lay (100, j + 1))
def aM (Z : xZ) (μ : Mu) (j : Nat) : xE := if mTy j = 1 then .inl (Z.2 1, mLen j, .inr (.inl (μ.2 j))) else if mTy j = 2 then .inl (Z.2 2, mLen j, .inl (μ.1 j)) else .inl (Z.2 0, mLen j, .inl (μ.1 j))
/-- the reference's cells beside others -/
def cM (Z : xZ) (lay : xK → Nat) (μ : Mu) (r : xK → Option xE) : xK → Option xE := fun k => if k.1 = 100 then (if k.2 = 0 then some (.inr (5, fM lay μ)) else if k.2 ≤ 39 ∧ mSc (k.2 - 1) = false then some (aM Z μ (k.2 - 1)) else none) else r k
theorem cM_0 {Z : xZ} {lay : xK → Nat} {μ : Mu} {r : xK → Option xE} : cM Z lay μ r (100, 0) = some (.inr (5, fM lay μ)) := rfl
theorem cM_a {Z : xZ} {lay : xK → Nat} {μ : Mu} {r : xK → Option xE} {j : Nat} (hj : j < 39) (hs : mSc j = false) : cM Z lay μ r (100, j + 1) = some (aM Z μ j) := by
  unfold cM
  rw [if_pos rfl, if_neg (Nat.succ_ne_zero j), if_pos ⟨by show j + 1 ≤ 39; omega, by rw [Nat.add_sub_cancel]; exact hs⟩, Nat.add_sub_cancel]
theorem cM_i {Z : xZ} {lay : xK → Nat} {μ : Mu} {r : xK → Option xE} {j : Nat} (hj : j < 39) (hs : mSc j = false) (ht : mTy j = 0) : cM Z lay μ r (100, j + 1) = some (.inl (Z.2 0, mLen j, .inl (μ.1 j))) := by
  rw [cM_a hj hs, aM, if_neg (by rw [ht]; decide), if_neg (by rw [ht]; decide)]
theorem cM_z {Z : xZ} {lay : xK → Nat} {μ : Mu} {r : xK → Option xE} {j : Nat} (hj : j < 39) (hs : mSc j = false) (ht : mTy j = 2) : cM Z lay μ r (100, j + 1) = some (.inl (Z.2 2, mLen j, .inl (μ.1 j))) := by
  rw [cM_a hj hs, aM, if_neg (by rw [ht]; decide), if_pos ht]
theorem cM_l {Z : xZ} {lay : xK → Nat} {μ : Mu} {r : xK → Option xE} {j : Nat} (hj : j < 39) (hs : mSc j = false) (ht : mTy j = 1) : cM Z lay μ r (100, j + 1) = some (.inl (Z.2 1, mLen j, .inr (.inl (μ.2 j)))) := by
  rw [cM_a hj hs, aM, if_pos ht]
/-- a row of the reference written -/
theorem cM_upA {Z : xZ} {lay : xK → Nat} {μ μ' : Mu} {r : xK → Option xE} {j : Nat} {e : xE} (hj : j < 39) (hs : mSc j = false) (he : aM Z μ' j = e) (h1 : ∀ a, a ≠ j → μ'.1 a = μ.1 a) (h2 : ∀ a, a ≠ j → μ'.2 a = μ.2 a) : ∀ k, cM Z lay μ' r k = xup (cM Z lay μ r) (100, j + 1) e k := by
  rintro ⟨a, b⟩
  by_cases ha : a = 100
  · subst ha
    by_cases hb : b = 0
    · subst hb
      have hne : ((100, 0) : xK) ≠ (100, j + 1) := fun q => by cases q
      rw [xup, if_neg hne, cM_0, cM_0]
      congr 3
      funext i
      unfold fM
      by_cases hi : mSc i = true
      · rw [if_pos hi, if_pos hi, h1 i (fun q => by rw [q, hs] at hi; cases hi)]
      · rw [if_neg hi, if_neg hi]
    · by_cases hbj : b = j + 1
      · subst hbj
        rw [xup, if_pos rfl, cM_a hj hs, he]
      · have hne : ((100, b) : xK) ≠ (100, j + 1) := fun q => hbj (by injection q)
        rw [xup, if_neg hne]
        unfold cM
        rw [if_pos rfl, if_pos rfl, if_neg hb, if_neg hb]
        have h3 : b - 1 ≠ j := by omega
        unfold aM
        rw [h1 _ h3, h2 _ h3]
  · have hne : ((a, b) : xK) ≠ (100, j + 1) := fun q => ha (by injection q)
    rw [xup, if_neg hne]
    unfold cM
    rw [if_neg ha, if_neg ha]
theorem cM_upS {Z : xZ} {lay : xK → Nat} {μ : Mu} {r : xK → Option xE} {j : Nat} {v : Int32} (hj : j < 39) (hs : mSc j = true) : ∀ k, cM Z lay (up2 μ.1 j 0 v, μ.2) r k = xup (cM Z lay μ r) (100, 0) (.inr (5, updV (fM lay μ) j (.int v))) k := by
  rintro ⟨a, b⟩
  by_cases ha : a = 100
  · subst ha
    by_cases hb : b = 0
    · subst hb
      rw [xup, if_pos rfl, cM_0]
      congr 3
      funext i
      unfold fM updV up2
      by_cases hi : i = j
      · subst hi
        simp [hs]
      · simp [hi]
    · have hne : ((100, b) : xK) ≠ (100, 0) := fun q => hb (by injection q)
      rw [xup, if_neg hne]
      unfold cM
      rw [if_pos rfl, if_pos rfl, if_neg hb, if_neg hb]
      by_cases hm : b ≤ 39 ∧ mSc (b - 1) = false
      · rw [if_pos hm, if_pos hm]
        have h3 : b - 1 ≠ j := fun q => by rw [q, hs] at hm; exact absurd hm.2 (by decide)
        have h4 : up2 μ.1 j 0 v (b - 1) = μ.1 (b - 1) := by funext i; simp [up2, h3]
        unfold aM
        simp only [h4]
      · rw [if_neg hm, if_neg hm]
  · have hne : ((a, b) : xK) ≠ (100, 0) := fun q => ha (by injection q)
    rw [xup, if_neg hne]
    unfold cM
    rw [if_neg ha, if_neg ha]
theorem up2_row {α : Type} (f : Nat → Nat → α) (j i : Nat) (v : α) : up2 f j i v j = fun b => if b = i then v else f j b := by funext b; simp [up2]
theorem up2_ne {α : Type} (f : Nat → Nat → α) (j i : Nat) (v : α) (a : Nat) (h : a ≠ j) : up2 f j i v a = f a := by funext b; simp [up2, h]
section XM
variable {p : Program} {l : Launch} {e : Env} {R : Room} {s : State} {m : MethodId} {args : Array Value} {below : List Frame} {meth : Method} {c : Code} {Q : State → Prop} {Z : xZ} {B0 nL : Nat} {lay : xK → Nat} {μ : Mu} {r : xK → Option xE} {cells slots pc : Nat} {lv : List (Option Value)} {rest : List Value} {cc : ByteArray}
theorem r_S (X : Cx p m meth c cc nL s args RX5 Z B0) (j : Nat) (hj : j < 39) (hs : mSc j = true) {i : Nat} (hi : mIx j = i) {v : Int32} (hdg : decode cc pc = .ok (.getfield i, 3)) (hv : μ.1 j 0 = v) (kk : V p l e R s m args below meth c Q Z B0 nL lay (cM Z lay μ r) cells slots (pc + 3) lv (.int v :: rest)) : V p l e R s m args below meth c Q Z B0 nL lay (cM Z lay μ r) cells slots pc lv (.ref (lay (100, 0)) :: rest) := by
  subst hi
  subst hv
  exact x_get X hinX5 (100, 0) cM_0 rfl j hj (mLk j hj) (mRf j hj) rfl (if_pos hs) hdg kk
theorem r_A (X : Cx p m meth c cc nL s args RX5 Z B0) (j : Nat) (hj : j < 39) (hs : mSc j = false) {i : Nat} (hi : mIx j = i) (hdg : decode cc pc = .ok (.getfield i, 3)) (kk : V p l e R s m args below meth c Q Z B0 nL lay (cM Z lay μ r) cells slots (pc + 3) lv (.ref (lay (100, j + 1)) :: rest)) : V p l e R s m args below meth c Q Z B0 nL lay (cM Z lay μ r) cells slots pc lv (.ref (lay (100, 0)) :: rest) := by
  subst hi
  exact x_get X hinX5 (100, 0) cM_0 rfl j hj (mLk j hj) (mRf j hj) rfl (if_neg (by rw [hs]; decide)) hdg kk
theorem r_PS (X : Cx p m meth c cc nL s args RX5 Z B0) (j : Nat) (hj : j < 39) (hs : mSc j = true) (h36 : j ≠ 36) {i : Nat} (hi : mIx j = i) {v : Int32} (hdg : decode cc pc = .ok (.putfield i, 3)) (kk : V p l e R s m args below meth c Q Z B0 nL lay (cM Z lay (up2 μ.1 j 0 v, μ.2) r) cells slots (pc + 3) lv rest) : V p l e R s m args below meth c Q Z B0 nL lay (cM Z lay μ r) cells slots pc lv (.int v :: .ref (lay (100, 0)) :: rest) := by
  subst hi
  exact x_put X hinX5 tyX5 tyX5_ok nmX5 (100, 0) cM_0 rfl j hj (mLk j hj) (mRf j hj) (mFin j hj hs) (by rw [mTyS j hj hs h36]; rfl) (by rw [mTyS j hj hs h36]; rfl) rfl (cM_upS hj hs) hdg kk
theorem r_PB (X : Cx p m meth c cc nL s args RX5 Z B0) {v : Int32} (hb : v = 0 ∨ v = 1) (hdg : decode cc pc = .ok (.putfield (mIx 36), 3)) (kk : V p l e R s m args below meth c Q Z B0 nL lay (cM Z lay (up2 μ.1 36 0 v, μ.2) r) cells slots (pc + 3) lv rest) : V p l e R s m args below meth c Q Z B0 nL lay (cM Z lay μ r) cells slots pc lv (.int v :: .ref (lay (100, 0)) :: rest) :=
  x_put X hinX5 tyX5 tyX5_ok nmX5 (100, 0) cM_0 rfl 36 (by decide) (mLk 36 (by decide)) (mRf 36 (by decide)) (mFin 36 (by decide) rfl) (by rcases hb with rfl | rfl <;> rfl) (by rcases hb with rfl | rfl <;> rfl) rfl (cM_upS (by decide) rfl) hdg kk
theorem r_I (X : Cx p m meth c cc nL s args RX5 Z B0) (j : Nat) (hj : j < 39) (hs : mSc j = false) (ht : mTy j = 0) {x : Int32} (hin : vp_in x (mLen j)) {v : Int32} (hdg : decode cc pc = .ok (.iaload, 1)) (hv : μ.1 j (ix x) = v) (kk : V p l e R s m args below meth c Q Z B0 nL lay (cM Z lay μ r) cells slots (pc + 1) lv (.int v :: rest)) : V p l e R s m args below meth c Q Z B0 nL lay (cM Z lay μ r) cells slots pc lv (.int x :: .ref (lay (100, j + 1)) :: rest) :=
  x_iald X (100, j + 1) (cM_i hj hs ht) hin rfl hv hdg kk
theorem r_In (X : Cx p m meth c cc nL s args RX5 Z B0) (j : Nat) (hj : j < 39) (hs : mSc j = false) (ht : mTy j = 0) {x : Nat} (hin : x < mLen j) {v : Int32} (hdg : decode cc pc = .ok (.iaload, 1)) (hv : μ.1 j x = v) (kk : V p l e R s m args below meth c Q Z B0 nL lay (cM Z lay μ r) cells slots (pc + 1) lv (.int v :: rest)) : V p l e R s m args below meth c Q Z B0 nL lay (cM Z lay μ r) cells slots pc lv (.int (nI x) :: .ref (lay (100, j + 1)) :: rest) :=
  x_iald X (100, j + 1) (cM_i hj hs ht) (vp_in_nI hin (mLen31 j)) rfl (by rw [nI_clamp (Nat.lt_trans hin (mLen31 j))]; exact hv) hdg kk
theorem r_PI (X : Cx p m meth c cc nL s args RX5 Z B0) (j : Nat) (hj : j < 39) (hs : mSc j = false) (ht : mTy j = 0) {x : Int32} {v : Int32} (hin : vp_in x (mLen j)) (hdg : decode cc pc = .ok (.iastore, 1)) (kk : V p l e R s m args below meth c Q Z B0 nL lay (cM Z lay (up2 μ.1 j (ix x) v, μ.2) r) cells slots (pc + 1) lv rest) : V p l e R s m args below meth c Q Z B0 nL lay (cM Z lay μ r) cells slots pc lv (.int v :: .int x :: .ref (lay (100, j + 1)) :: rest) :=
  x_iast X (100, j + 1) (cM_i hj hs ht) hin rfl (cM_upA (μ' := (up2 μ.1 j (ix x) v, μ.2)) hj hs (by rw [aM, if_neg (by rw [ht]; decide), if_neg (by rw [ht]; decide)]; exact congrArg (fun f : Nat → Int32 => (Sum.inl (Z.2 0, (mLen j, Sum.inl f)) : xE)) (funext fun b => by simp [up2, upd])) (fun a h => up2_ne _ _ _ _ a h) (fun _ _ => rfl)) hdg kk
theorem r_PIn (X : Cx p m meth c cc nL s args RX5 Z B0) (j : Nat) (hj : j < 39) (hs : mSc j = false) (ht : mTy j = 0) {x : Nat} {v : Int32} (hin : x < mLen j) (hdg : decode cc pc = .ok (.iastore, 1)) (kk : V p l e R s m args below meth c Q Z B0 nL lay (cM Z lay (up2 μ.1 j x v, μ.2) r) cells slots (pc + 1) lv rest) : V p l e R s m args below meth c Q Z B0 nL lay (cM Z lay μ r) cells slots pc lv (.int v :: .int (nI x) :: .ref (lay (100, j + 1)) :: rest) := by
  refine r_PI X j hj hs ht (vp_in_nI hin (mLen31 j)) hdg ?_
  rw [ix, nI_clamp (Nat.lt_trans hin (mLen31 j))]
  exact kk
theorem r_Z (X : Cx p m meth c cc nL s args RX5 Z B0) (j : Nat) (hj : j < 39) (hs : mSc j = false) (ht : mTy j = 2) {x : Int32} (hin : vp_in x (mLen j)) {v : Int32} (hdg : decode cc pc = .ok (.baload, 1)) (hv : μ.1 j (ix x) = v) (kk : V p l e R s m args below meth c Q Z B0 nL lay (cM Z lay μ r) cells slots (pc + 1) lv (.int v :: rest)) : V p l e R s m args below meth c Q Z B0 nL lay (cM Z lay μ r) cells slots pc lv (.int x :: .ref (lay (100, j + 1)) :: rest) :=
  x_zald X (100, j + 1) (cM_z hj hs ht) hin rfl hv hdg kk
theorem r_Zn (X : Cx p m meth c cc nL s args RX5 Z B0) (j : Nat) (hj : j < 39) (hs : mSc j = false) (ht : mTy j = 2) {x : Nat} (hin : x < mLen j) {v : Int32} (hdg : decode cc pc = .ok (.baload, 1)) (hv : μ.1 j x = v) (kk : V p l e R s m args below meth c Q Z B0 nL lay (cM Z lay μ r) cells slots (pc + 1) lv (.int v :: rest)) : V p l e R s m args below meth c Q Z B0 nL lay (cM Z lay μ r) cells slots pc lv (.int (nI x) :: .ref (lay (100, j + 1)) :: rest) :=
  x_zald X (100, j + 1) (cM_z hj hs ht) (vp_in_nI hin (mLen31 j)) rfl (by rw [nI_clamp (Nat.lt_trans hin (mLen31 j))]; exact hv) hdg kk
theorem r_PZ (X : Cx p m meth c cc nL s args RX5 Z B0) (j : Nat) (hj : j < 39) (hs : mSc j = false) (ht : mTy j = 2) {x : Int32} {v : Int32} (hb : v = 0 ∨ v = 1) (hin : vp_in x (mLen j)) (hdg : decode cc pc = .ok (.bastore, 1)) (kk : V p l e R s m args below meth c Q Z B0 nL lay (cM Z lay (up2 μ.1 j (ix x) v, μ.2) r) cells slots (pc + 1) lv rest) : V p l e R s m args below meth c Q Z B0 nL lay (cM Z lay μ r) cells slots pc lv (.int v :: .int x :: .ref (lay (100, j + 1)) :: rest) :=
  x_zast X (100, j + 1) (cM_z hj hs ht) hin rfl (cM_upA (μ' := (up2 μ.1 j (ix x) v, μ.2)) hj hs (by rw [aM, if_neg (by rw [ht]; decide), if_pos ht]; exact congrArg (fun f : Nat → Int32 => (Sum.inl (Z.2 2, (mLen j, Sum.inl f)) : xE)) (funext fun b => by rcases hb with rfl | rfl <;> (simp [up2, upd]; try rfl))) (fun a h => up2_ne _ _ _ _ a h) (fun _ _ => rfl)) hdg kk
theorem r_PZn (X : Cx p m meth c cc nL s args RX5 Z B0) (j : Nat) (hj : j < 39) (hs : mSc j = false) (ht : mTy j = 2) {x : Nat} {v : Int32} (hb : v = 0 ∨ v = 1) (hin : x < mLen j) (hdg : decode cc pc = .ok (.bastore, 1)) (kk : V p l e R s m args below meth c Q Z B0 nL lay (cM Z lay (up2 μ.1 j x v, μ.2) r) cells slots (pc + 1) lv rest) : V p l e R s m args below meth c Q Z B0 nL lay (cM Z lay μ r) cells slots pc lv (.int v :: .int (nI x) :: .ref (lay (100, j + 1)) :: rest) := by
  refine r_PZ X j hj hs ht hb (vp_in_nI hin (mLen31 j)) hdg ?_
  rw [ix, nI_clamp (Nat.lt_trans hin (mLen31 j))]
  exact kk
theorem r_L (X : Cx p m meth c cc nL s args RX5 Z B0) (j : Nat) (hj : j < 39) (hs : mSc j = false) (ht : mTy j = 1) {x : Int32} (hin : vp_in x (mLen j)) {v : Int64} (hdg : decode cc pc = .ok (.laload, 1)) (hv : μ.2 j (ix x) = v) (kk : V p l e R s m args below meth c Q Z B0 nL lay (cM Z lay μ r) cells slots (pc + 1) lv (.long v :: rest)) : V p l e R s m args below meth c Q Z B0 nL lay (cM Z lay μ r) cells slots pc lv (.int x :: .ref (lay (100, j + 1)) :: rest) :=
  x_lald X (100, j + 1) (cM_l hj hs ht) hin rfl hv hdg kk
theorem r_Ln (X : Cx p m meth c cc nL s args RX5 Z B0) (j : Nat) (hj : j < 39) (hs : mSc j = false) (ht : mTy j = 1) {x : Nat} (hin : x < mLen j) {v : Int64} (hdg : decode cc pc = .ok (.laload, 1)) (hv : μ.2 j x = v) (kk : V p l e R s m args below meth c Q Z B0 nL lay (cM Z lay μ r) cells slots (pc + 1) lv (.long v :: rest)) : V p l e R s m args below meth c Q Z B0 nL lay (cM Z lay μ r) cells slots pc lv (.int (nI x) :: .ref (lay (100, j + 1)) :: rest) :=
  x_lald X (100, j + 1) (cM_l hj hs ht) (vp_in_nI hin (mLen31 j)) rfl (by rw [nI_clamp (Nat.lt_trans hin (mLen31 j))]; exact hv) hdg kk
theorem r_PL (X : Cx p m meth c cc nL s args RX5 Z B0) (j : Nat) (hj : j < 39) (hs : mSc j = false) (ht : mTy j = 1) {x : Int32} {v : Int64} (hin : vp_in x (mLen j)) (hdg : decode cc pc = .ok (.lastore, 1)) (kk : V p l e R s m args below meth c Q Z B0 nL lay (cM Z lay (μ.1, up2 μ.2 j (ix x) v) r) cells slots (pc + 1) lv rest) : V p l e R s m args below meth c Q Z B0 nL lay (cM Z lay μ r) cells slots pc lv (.long v :: .int x :: .ref (lay (100, j + 1)) :: rest) :=
  x_last X (100, j + 1) (cM_l hj hs ht) hin rfl (cM_upA (μ' := (μ.1, up2 μ.2 j (ix x) v)) hj hs (by rw [aM, if_pos ht]; exact congrArg (fun f : Nat → Int64 => (Sum.inl (Z.2 1, (mLen j, Sum.inr (Sum.inl f))) : xE)) (funext fun b => by simp [up2, vp_updL])) (fun _ _ => rfl) (fun a h => up2_ne _ _ _ _ a h)) hdg kk
theorem r_PLn (X : Cx p m meth c cc nL s args RX5 Z B0) (j : Nat) (hj : j < 39) (hs : mSc j = false) (ht : mTy j = 1) {x : Nat} {v : Int64} (hin : x < mLen j) (hdg : decode cc pc = .ok (.lastore, 1)) (kk : V p l e R s m args below meth c Q Z B0 nL lay (cM Z lay (μ.1, up2 μ.2 j x v) r) cells slots (pc + 1) lv rest) : V p l e R s m args below meth c Q Z B0 nL lay (cM Z lay μ r) cells slots pc lv (.long v :: .int (nI x) :: .ref (lay (100, j + 1)) :: rest) := by
  refine r_PL X j hj hs ht (vp_in_nI hin (mLen31 j)) hdg ?_
  rw [ix, nI_clamp (Nat.lt_trans hin (mLen31 j))]
  exact kk
theorem v_cutJ {lay' : xK → Nat} {C C' : xK → Option xE} {pc' : Nat} {lv' : List (Option Value)} {st st' : List Value} (J : V p l e R s m args below meth c Q Z B0 nL lay' C' cells slots pc' lv' st') (k : V p l e R s m args below meth c Q Z B0 nL lay' C' cells slots pc' lv' st' → V p l e R s m args below meth c Q Z B0 nL lay C cells slots pc lv st) : V p l e R s m args below meth c Q Z B0 nL lay C cells slots pc lv st := k J
theorem v_st {C : xK → Option xE} {st st' : List Value} (h : st = st') (k : V p l e R s m args below meth c Q Z B0 nL lay C cells slots pc lv st') : V p l e R s m args below meth c Q Z B0 nL lay C cells slots pc lv st := h ▸ k
theorem v_C {C C' : xK → Option xE} {st : List Value} (h : C = C') (k : V p l e R s m args below meth c Q Z B0 nL lay C' cells slots pc lv st) : V p l e R s m args below meth c Q Z B0 nL lay C cells slots pc lv st := h ▸ k
theorem v_mu {μ' : Mu} {st : List Value} (h : μ = μ') (k : V p l e R s m args below meth c Q Z B0 nL lay (cM Z lay μ' r) cells slots pc lv st) : V p l e R s m args below meth c Q Z B0 nL lay (cM Z lay μ r) cells slots pc lv st := h ▸ k
end XM
