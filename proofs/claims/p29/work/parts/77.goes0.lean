/-! what goes needs: its days, its own rows, sums of tills -/
def sN (x : Int32) (n : Nat) : Nat := (x.toBitVec.toNat / 2) % n
theorem sN_lt (x : Int32) {n : Nat} (h : 0 < n) : sN x n < n := Nat.mod_lt _ h
theorem some_N {x : Int32} {n : Nat} (h0 : 0 < n) (hn : n < 2 ^ 31) : ((x.toUInt32 >>> ((1 : Int32).toUInt32 &&& Int32.toUInt32 31)).toInt32 - (x.toUInt32 >>> ((1 : Int32).toUInt32 &&& Int32.toUInt32 31)).toInt32 / nI n * nI n) = nI (sN x n) := by
  have e : (x.toUInt32 >>> ((1 : Int32).toUInt32 &&& Int32.toUInt32 31)).toInt32 = nI (x.toBitVec.toNat / 2) := by
    apply Int32.toBitVec_inj.mp
    apply BitVec.eq_of_toNat_eq
    rw [pk_ushr x 1 1 (by decide)]
    rw [pk_tn (by have := x.toBitVec.isLt; omega)]
  rw [e]
  exact pk_rem (by have := x.toBitVec.isLt; omega) h0 hn
set_option maxRecDepth 100000 in
set_option maxHeartbeats 4000000 in
theorem c_someN {l : Launch} {Z : xZ} {B0 : Nat} {lay : xK → Nat} {C : xK → Option xE} (x : Int32) {n : Nat} (h0 : 0 < n) (hn : n < 2 ^ 31) : YL l yL_some cL_some 2 (some FieldType.int) 0 0 0 0 Z B0 [.int x, .int (nI n)] lay C (fun v lay' C' => lay = lay' ∧ C = C' ∧ v = some (.int (nI (sN x n)))) := by
  refine YL_of myL_some.2 RL rfl [some (.int x), some (.int (nI n))] rfl (Nat.le_of_ble_eq_true rfl) ?_
  intro P1 P2 P3 P4 P5 P6 P7 P8 X hr hE
  refine v_iload_n X (xdec_at tL_some_0 0 rfl) rfl rfl ?_
  refine v_iconst (v := 1) X (xdec_at tL_some_0 1 rfl) (by decide) ?_
  refine v_iushr X (xdec_at tL_some_0 2 rfl) rfl ?_
  refine v_iload_n X (xdec_at tL_some_0 3 rfl) rfl rfl ?_
  refine v_irem X (xdec_at tL_some_0 4 rfl) (nI_ne0 h0 hn) ?_
  exact v_xr (v_iret X hr (xdec_at tL_some_0 5 rfl) (Nat.le_of_ble_eq_true rfl) (Nat.le_of_ble_eq_true rfl) ⟨rfl, rfl, by rw [← some_N h0 hn]⟩)
/-- the days that goes draws -/
def gD (z : Int32) : Nat := 1 + sN z (if sN (z >>> (4 &&& 31)) 3 = 0 then 14 else 4)
theorem gD_b (z : Int32) : 1 ≤ gD z ∧ gD z ≤ 14 := by
  unfold gD
  split
  · have := sN_lt z (n := 14) (by decide); omega
  · have := sN_lt z (n := 4) (by decide); omega
section GX
variable {p : Program} {l : Launch} {e : Env} {R : Room} {s : State} {m : MethodId} {args : Array Value} {below : List Frame} {meth : Method} {c : Code} {Q : State → Prop} {Z : xZ} {B0 nL : Nat} {lay : xK → Nat} {C : xK → Option xE} {cells slots pc : Nat} {lv : List (Option Value)} {rest : List Value} {cc : ByteArray} {own : String}
theorem v_ishrN (X : Cx p m meth c cc nL s args own Z B0) {x y v : Int32} (hv : x >>> (y &&& 31) = v) (hdg : decode cc pc = .ok (.ishr, 1)) (k : V p l e R s m args below meth c Q Z B0 nL lay C cells slots (pc + 1) lv (.int v :: rest)) : V p l e R s m args below meth c Q Z B0 nL lay C cells slots pc lv (.int y :: .int x :: rest) := by
  subst hv
  exact fun ls H locs hl hP hS => lv_ishr X.1.1 X.1.2.1 hdg (k ls H locs hl hP hS)
end GX
section GW
variable {Z : xZ} {lay L : xK → Nat} {μ μ' : Mu} {tb tb' : Tb} {r : xK → Option xE}
theorem cXg_lay (h : ∀ q : xK, q.1 < 40 → L q = lay q) : cX Z L μ tb r = cX Z lay μ tb r := by
  have hLa : ∀ a i, a < 40 → L (a, i) = lay (a, i) := fun a i ha => h (a, i) ha
  have hX : fX L μ = fX lay μ := by
    funext j; unfold fX; split <;> first | rfl | rw [hLa _ _ (by decide)]
  have hR : fR L μ = fR lay μ := by
    funext j; unfold fR; split <;> first | rfl | rw [hLa _ _ (by decide)]
  have hP : ∀ i, fP L μ i = fP lay μ i := by
    intro i; funext j; unfold fP; split <;> first | rfl | rw [hLa _ _ (by decide)]
  have hG : ∀ i, fG L μ i = fG lay μ i := by
    intro i; funext j; unfold fG; split <;> first | rfl | rw [hLa _ _ (by decide)]
  have hl : ∀ q, tLeg L q = tLeg lay q := by
    intro q; unfold tLeg; rw [hLa _ _ (by decide)]
  have hT : ∀ i, fT L μ i = fT lay μ i := by
    intro i; funext j; unfold fT; split <;> first | rfl | rw [hLa _ _ (by decide)] | rw [hl]
  have h10 : (fun i => L (10, i)) = fun i => lay (10, i) := funext fun i => h _ (by show 10 < 40; decide)
  have h20 : (fun i => L (20, i)) = fun i => lay (20, i) := funext fun i => h _ (by show 20 < 40; decide)
  have h30 : (fun i => L (30, i)) = fun i => lay (30, i) := funext fun i => h _ (by show 30 < 40; decide)
  funext ⟨a, b⟩
  unfold cX
  rw [hX, hR, hP, hG, hT, h10, h20, h30]
theorem W2_lay (h : ∀ q : xK, q.1 < 40 ∨ (500 ≤ q.1 ∧ q.1 < 540) → L q = lay q) : W2 Z L μ tb μ' tb' r = W2 Z lay μ tb μ' tb' r := by
  have e : tw Z L μ' tb' r = tw Z lay μ' tb' r := by
    funext k
    unfold tw
    rw [cXg_lay (L := csw L) (lay := csw lay) (fun q hq => by
      obtain ⟨a, b⟩ := q
      show L (sw (a, b)) = lay (sw (a, b))
      rw [sw_o b hq]
      exact h (a + 500, b) (Or.inr ⟨by show 500 ≤ a + 500; omega, by show a + 500 < 540; have : a < 40 := hq; omega⟩))]
  unfold W2
  rw [e, cXg_lay (fun q hq => h q (Or.inl hq))]
theorem W2_new {k : xK} {a : Nat} {e : xE} (h1 : 40 ≤ k.1) (h2 : k.1 < 500) (j : xK) : W2 Z (xlay lay k a) μ tb μ' tb' (xup r k e) j = xup (W2 Z lay μ tb μ' tb' r) k e j := by
  rw [W2_lay (lay := lay) (fun q hq => xlay_ne _ _ (fun z => by rw [z] at hq; omega))]
  exact W2_xup h1 h2 j
/-- the law's rows beside goes' own -/
def gR (Z : xZ) (f w h : Nat → Int32) : xK → Option xE := xup (xup (dR Z f) (301, 0) (.inl (Z.2 0, 40, .inl w))) (302, 0) (.inl (Z.2 0, 40, .inl h))
theorem W2_gd {f w h : Nat → Int32} : W2 Z lay μ tb μ' tb' (gR Z f w h) (300, 0) = some (.inl (Z.2 0, 3, .inl f)) := rfl
theorem W2_g1 {f w h : Nat → Int32} : W2 Z lay μ tb μ' tb' (gR Z f w h) (301, 0) = some (.inl (Z.2 0, 40, .inl w)) := rfl
theorem W2_g2 {f w h : Nat → Int32} : W2 Z lay μ tb μ' tb' (gR Z f w h) (302, 0) = some (.inl (Z.2 0, 40, .inl h)) := rfl
theorem gR_1 {f w w' h : Nat → Int32} {i : Nat} {x : Int32} (hw : upd w i x = w') : ∀ j, W2 Z lay μ tb μ' tb' (gR Z f w' h) j = xup (W2 Z lay μ tb μ' tb' (gR Z f w h)) (301, 0) (.inl (Z.2 0, 40, .inl (upd w i x))) j := by
  intro j
  rw [← W2_xup (by decide) (by decide), hw]
  refine cX_rk (tw_rk ?_)
  unfold gR
  by_cases h1 : j = (301, 0)
  · rw [h1, xup_at, xup_ne _ _ (by decide), xup_at]
  · rw [xup_ne _ _ h1]
    by_cases h2 : j = (302, 0)
    · rw [h2, xup_at, xup_at]
    · rw [xup_ne _ _ h2, xup_ne _ _ h2, xup_ne _ _ h1, xup_ne _ _ h1]
theorem gR_2 {f w h h' : Nat → Int32} {i : Nat} {x : Int32} (hw : upd h i x = h') : ∀ j, W2 Z lay μ tb μ' tb' (gR Z f w h') j = xup (W2 Z lay μ tb μ' tb' (gR Z f w h)) (302, 0) (.inl (Z.2 0, 40, .inl (upd h i x))) j := by
  intro j
  rw [← W2_xup (by decide) (by decide), hw]
  refine cX_rk (tw_rk ?_)
  unfold gR
  rw [xup_xup]
/-- the first t of a row of the state's -/
def wF (μ : Mu) (j t : Nat) : Nat → Int32 := fun i => if i < t then μ.1 j i else 0
theorem wF_0 (μ : Mu) (j : Nat) : wF μ j 0 = fun _ => 0 := by
  funext i
  unfold wF
  rw [if_neg (by omega)]
theorem wF_up (μ : Mu) (j : Nat) {t : Nat} (ht : t < 2 ^ 31) : upd (wF μ j t) (nI t).toNatClampNeg (μ.1 j t) = wF μ j (t + 1) := by
  rw [show (nI t).toNatClampNeg = t from ix_nI ht]
  funext i
  unfold upd wF
  by_cases h : i = t
  · rw [if_pos h, if_pos (by omega), h]
  · rw [if_neg h]
    by_cases h2 : i < t
    · rw [if_pos h2, if_pos (by omega)]
    · rw [if_neg h2, if_neg (by omega)]
theorem wF_at {μ : Mu} {j t n : Nat} (h : t < n) (ht : t < 2 ^ 31) : wF μ j n (nI t).toNatClampNeg = μ.1 j t := by
  rw [show (nI t).toNatClampNeg = t from ix_nI ht]
  exact if_pos h
/-- goes' rows are dropped -/
def lyE (lay L : xK → Nat) : xK → Nat := fun k => if 300 ≤ k.1 ∧ k.1 < 400 then lay k else L k
theorem gE_C {f w h : Nat → Int32} (e : L (300, 0) = lay (300, 0)) : ∀ j, W2 Z (lyE lay L) μ tb μ' tb' (dR Z f) j = none ∨ W2 Z (lyE lay L) μ tb μ' tb' (dR Z f) j = W2 Z L μ tb μ' tb' (gR Z f w h) j := by
  intro j
  rw [W2_lay (L := lyE lay L) (lay := L) (fun q hq => if_neg (by omega))]
  by_cases h1 : j = (301, 0)
  · exact Or.inl (by rw [h1, W2_hi (by decide) (by decide)]; rfl)
  · by_cases h2 : j = (302, 0)
    · exact Or.inl (by rw [h2, W2_hi (by decide) (by decide)]; rfl)
    · exact Or.inr (cX_rk (tw_rk (by unfold gR; rw [xup_ne _ _ h2, xup_ne _ _ h1])))
theorem gE_L {f : Nat → Int32} (e : L (300, 0) = lay (300, 0)) : ∀ j, W2 Z (lyE lay L) μ tb μ' tb' (dR Z f) j ≠ none → lyE lay L j = L j := by
  intro j hj
  unfold lyE
  by_cases h : 300 ≤ j.1 ∧ j.1 < 400
  · rw [if_pos h]
    by_cases h1 : j = (300, 0)
    · rw [h1, e]
    · refine absurd ?_ hj
      rw [W2_hi (by omega) (by omega)]
      exact if_neg h1
  · exact if_neg h
end GW
theorem sm_mono {f g : Nat → Int64} (hf : ∀ p, -1000000000000000 ≤ (f p).toInt ∧ (f p).toInt ≤ 1000000000000000) (hg : ∀ p, (f p).toInt ≤ (g p).toInt ∧ (g p).toInt ≤ 2000000000000000) : ∀ n, n ≤ 8 → (sm f n).toInt ≤ (sm g n).toInt ∧ -((n : Int) * 1000000000000000) ≤ (sm f n).toInt ∧ (sm g n).toInt ≤ (n : Int) * 2000000000000000 := by
  intro n
  induction n with
  | zero =>
    intro _
    have z : (0 : Int64).toInt = 0 := by decide
    show (0 : Int64).toInt ≤ (0 : Int64).toInt ∧ _ ≤ (0 : Int64).toInt ∧ (0 : Int64).toInt ≤ _
    rw [z]
    omega
  | succ n ih =>
    intro hn
    obtain ⟨h1, h2, h3⟩ := ih (by omega)
    have a := hf n
    have b := hg n
    rw [sm, sm, i64_add (by omega) (by omega), i64_add (by omega) (by omega)]
    omega
theorem lcnl {a b : Int64} (h : b.toInt ≤ a.toInt) : ¬ lg_cmp a b < 0 := Int32.not_lt.mpr ((lg_cmp_ge a b).mpr (Int64.le_iff_toInt_le.mpr h))
theorem lcn0 {a b : Int32} (h : a ≠ b) : ¬ lg_cmp a.toInt64 b.toInt64 = 0 := by
  intro z
  unfold lg_cmp at z
  split at z
  · exact absurd z (by decide)
  · split at z
    · next e =>
      have := congrArg Int64.toInt32 e
      rw [Int32.toInt32_toInt64, Int32.toInt32_toInt64] at this
      exact h this
    · exact absurd z (by decide)
theorem lcgt {a : Int32} (h : ¬ a ≤ 0) : ¬ lg_cmp a.toInt64 0 ≤ 0 := by
  unfold lg_cmp
  rw [if_pos]
  · decide
  · show (0 : Int64) < a.toInt64
    rw [Int64.lt_iff_toInt_lt, Int32.toInt_toInt64]
    have := Int32.lt_iff_toInt_lt.mp (Int32.not_le.mp h)
    exact this
theorem lc0 {a : Int32} (h : a = 0) : lg_cmp a.toInt64 0 ≤ 0 := by
  rw [h]
  decide
/-- what goes comes to -/
def LPg (Z : xZ) (lay : xK → Nat) (tb : Tb) (k D : Nat) : Option Value → (xK → Nat) → (xK → Option xE) → Prop := fun v lay' C' => v = some (.int 1) ∧ lyL lay lay' ∧ ∃ μ' tb', C' = W2 Z lay' μ' tb' μ' tb' (dR Z (dv μ')) ∧ LJ μ' tb' (k + 2) ∧ (0 < nG μ' → 3 ≤ nP μ') ∧ Pp tb + D ≤ Pp tb'
