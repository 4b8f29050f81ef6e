/-! the law's world between its methods; calls of one object beside the other -/
def dv (μ : Mu) : Nat → Int32 := fun i => match i with
  | 0 => μ.1 0 0
  | 1 => μ.1 10 0
  | 2 => μ.1 16 0
  | _ => 0
theorem dv_F {μ : Mu} (h : RI μ) : dF (dv μ) μ := ⟨nPe h, nGe h, nTe h⟩
/-- the law's row of counts, beside others -/
def dR (Z : xZ) (f : Nat → Int32) : xK → Option xE := fun k => if k = (300, 0) then some (aI Z 3 f) else none
theorem W2_X {Z : xZ} {lay : xK → Nat} {μ μ' : Mu} {tb tb' : Tb} {r : xK → Option xE} : W2 Z lay μ tb μ' tb' r (0, 0) = some (.inr (4, fX lay μ)) := rfl
theorem W2_d {Z : xZ} {lay : xK → Nat} {μ μ' : Mu} {tb tb' : Tb} {f : Nat → Int32} : W2 Z lay μ tb μ' tb' (dR Z f) (300, 0) = some (.inl (Z.2 0, 3, .inl f)) := rfl
theorem tw_rk {Z : xZ} {lay : xK → Nat} {μ : Mu} {tb : Tb} {r r' : xK → Option xE} {k : xK} (h : r k = r' k) : tw Z lay μ tb r k = tw Z lay μ tb r' k := by
  unfold tw
  rw [h]
theorem W2_hi {Z : xZ} {lay : xK → Nat} {μ μ' : Mu} {tb tb' : Tb} {r : xK → Option xE} {k : xK} (h1 : 40 ≤ k.1) (h2 : k.1 < 500) : W2 Z lay μ tb μ' tb' r k = r k := by
  unfold W2
  rw [cX_hi h1]
  unfold tw
  rw [if_neg (by omega), if_neg (by omega)]
theorem W2_xup {Z : xZ} {lay : xK → Nat} {μ μ' : Mu} {tb tb' : Tb} {r : xK → Option xE} {k : xK} {e : xE} (h1 : 40 ≤ k.1) (h2 : k.1 < 500) : ∀ j, W2 Z lay μ tb μ' tb' (xup r k e) j = xup (W2 Z lay μ tb μ' tb' r) k e j := by
  intro j
  by_cases h : j = k
  · rw [h, W2_hi h1 h2, xup_at, xup_at]
  · rw [xup_ne _ _ h]
    exact cX_rk (tw_rk (xup_ne _ _ h))
theorem W2_up {Z : xZ} {lay : xK → Nat} {μ μ' : Mu} {tb tb' : Tb} {f g : Nat → Int32} {i : Nat} {x : Int32} (h : upd f i x = g) : ∀ j, W2 Z lay μ tb μ' tb' (dR Z g) j = xup (W2 Z lay μ tb μ' tb' (dR Z f)) (300, 0) (.inl (Z.2 0, 3, .inl (upd f i x))) j := by
  intro j
  rw [← W2_xup (by decide) (by decide)]
  exact cX_rk (tw_rk (by
    unfold dR
    by_cases hj : j = (300, 0)
    · rw [if_pos hj, hj, xup_at, h]; rfl
    · rw [if_neg hj, xup_ne _ _ hj, if_neg hj]))
theorem dv_0 {μ ν : Mu} (h0 : ν.1 10 0 = μ.1 10 0) (h1 : ν.1 16 0 = μ.1 16 0) {x : Int32} (h : ν.1 0 0 = x) : upd (dv μ) 0 x = dv ν := by
  funext i
  unfold upd dv
  match i with
  | 0 => rw [if_pos rfl]; exact h.symm
  | 1 => rw [if_neg (by decide)]; exact h0.symm
  | 2 => rw [if_neg (by decide)]; exact h1.symm
  | i + 3 => rw [if_neg (by omega)]; rfl
theorem dv_1 {μ ν : Mu} (h0 : ν.1 0 0 = μ.1 0 0) (h1 : ν.1 16 0 = μ.1 16 0) {x : Int32} (h : ν.1 10 0 = x) : upd (dv μ) 1 x = dv ν := by
  funext i
  unfold upd dv
  match i with
  | 0 => rw [if_neg (by decide)]; exact h0.symm
  | 1 => rw [if_pos rfl]; exact h.symm
  | 2 => rw [if_neg (by decide)]; exact h1.symm
  | i + 3 => rw [if_neg (by omega)]; rfl
theorem dv_2 {μ ν : Mu} (h0 : ν.1 0 0 = μ.1 0 0) (h1 : ν.1 10 0 = μ.1 10 0) {x : Int32} (h : ν.1 16 0 = x) : upd (dv μ) 2 x = dv ν := by
  funext i
  unfold upd dv
  match i with
  | 0 => rw [if_neg (by decide)]; exact h0.symm
  | 1 => rw [if_neg (by decide)]; exact h1.symm
  | 2 => rw [if_pos rfl]; exact h.symm
  | i + 3 => rw [if_neg (by omega)]; rfl
theorem dv_e {μ ν : Mu} (h0 : ν.1 0 0 = μ.1 0 0) (h1 : ν.1 10 0 = μ.1 10 0) (h2 : ν.1 16 0 = μ.1 16 0) : dv μ = dv ν := by
  funext i
  unfold dv
  match i with
  | 0 => exact h0.symm
  | 1 => exact h1.symm
  | 2 => exact h2.symm
  | i + 3 => rfl
theorem LJ.up {μ : Mu} {tb : Tb} {k : Nat} (h : LJ μ tb k) : LJ μ tb (k + 1) := ⟨LI_of h.1.1, h.2.1, h.2.2.1, h.2.2.2.1, JB_same h.2.2.2.2 rfl (by omega)⟩
/-- what a method of the law comes to -/
def LPo (Z : xZ) (lay : xK → Nat) (tb : Tb) (k : Nat) : Option Value → (xK → Nat) → (xK → Option xE) → Prop := fun v lay' C' => v = some (.int 1) ∧ lyL lay lay' ∧ ∃ μ' tb', C' = W2 Z lay' μ' tb' μ' tb' (dR Z (dv μ')) ∧ LJ μ' tb' (k + 2) ∧ (0 < nG μ' → 3 ≤ nP μ') ∧ Pp tb ≤ Pp tb'
section CW
variable {l : Launch} {y : MethodName} {cc : ByteArray} {nL : Nat} {ret : Option FieldType} {hh : List (Nat × Nat × Nat × Nat)} {fr lo ce sl : Nat} {Z : xZ} {B0 : Nat} {av : List Value} {lay : xK → Nat} {C : xK → Option xE} {post post' : Option Value → (xK → Nat) → (xK → Option xE) → Prop} {μ μ' ν : Mu} {tb tb' tbn : Tb} {r : xK → Option xE}
theorem YC_mono (h : YC l y cc nL ret hh fr lo ce sl Z B0 av lay C post) (h1 : ∀ v lay' C', post v lay' C' → post' v lay' C') : YC l y cc nL ret hh fr lo ce sl Z B0 av lay C post' := by
  unfold YC vx_Met at h ⊢
  refine h.mono (fun _ _ z => z) (fun _ _ _ _ _ z => z) ?_
  rintro a s o t - (⟨⟨⟨v, l9, C9, e1, e2, e3⟩, hF⟩, hL⟩ | ⟨q, e1, E, ce9, L, g1, g4⟩)
  · exact Or.inl ⟨⟨⟨v, l9, C9, e1, h1 _ _ _ e2, e3⟩, hF⟩, hL⟩
  · exact g1.elim
theorem YL_mono (h : YL l y cc nL ret fr lo ce sl Z B0 av lay C post) (h1 : ∀ v lay' C', post v lay' C' → post' v lay' C') : YL l y cc nL ret fr lo ce sl Z B0 av lay C post' := by
  unfold YL vx_Met at h ⊢
  refine h.mono (fun _ _ z => z) (fun _ _ _ _ _ z => z) ?_
  rintro a s o t - (⟨⟨⟨v, l9, C9, e1, e2, e3⟩, hF⟩, hL⟩ | ⟨q, e1, E, ce9, L, g1, g4⟩)
  · exact Or.inl ⟨⟨⟨v, l9, C9, e1, h1 _ _ _ e2, e3⟩, hF⟩, hL⟩
  · exact g1.elim
/-- what leaves o's side alone leaves the twin's -/
theorem side_o {v w : Option Value} : ∀ lay' C', (v = w ∧ lyB lay lay' ∧ lay' (0, 0) = lay (0, 0) ∧ C' = cX Z lay' ν tbn (tw Z lay μ' tb' r)) → (v = w ∧ lyL lay lay' ∧ C' = W2 Z lay' ν tbn μ' tb' r) := by
  rintro lay' C' ⟨h1, h2, h3, rfl⟩
  exact ⟨h1, lyL_o h2 h3, by rw [← tw_lay h2]; rfl⟩
theorem side_t {v w : Option Value} : ∀ lay' C', (v = w ∧ lyB (csw lay) (csw lay') ∧ csw lay' (0, 0) = csw lay (0, 0) ∧ csw C' = cX Z (csw lay') ν tbn (tw Z (csw lay) μ tb r)) → (v = w ∧ lyL lay lay' ∧ C' = W2 Z lay' μ tb ν tbn r) := by
  rintro lay' C' ⟨h1, h2, h3, h4⟩
  refine ⟨h1, lyL_t h2 h3, ?_⟩
  rw [← csw_csw C', h4, show cX Z (csw lay') ν tbn (tw Z (csw lay) μ tb r) = W2 Z (csw lay') ν tbn μ tb r from by rw [W2, tw_lay h2], W2_sw, csw_csw]
theorem call_W {w a b c d ans : Int32} (hr : r (200, 0) = none) (h : CallOK l Z B0 μ tb w a b c d ans ν tbn ce sl) : YC l yL_call cL_call 7 (some FieldType.int) [(0, 11, 12, 15), (0, 11, 17, 18), (0, 11, 22, 21)] 21 760 ce sl Z B0 [.ref (lay (0, 0)), .int w, .int a, .int b, .int c, .int d] lay (W2 Z lay μ tb μ' tb' r) (fun v lay' C' => v = some (.int ans) ∧ lyL lay lay' ∧ C' = W2 Z lay' ν tbn μ' tb' r) :=
  YC_mono (h lay (tw Z lay μ' tb' r) (tw_200 hr)) (fun _ _ _ z => side_o _ _ z)
theorem mail_W {q a b g pd rg ans : Int32} (hr : r (200, 0) = none) (h : MailOK l Z B0 μ tb q a b g pd rg ans ν tbn) : YC l yL_mail cL_mail 8 (some FieldType.int) [(0, 22, 23, 15), (0, 22, 28, 18), (0, 22, 33, 21)] 21 760 7 53 Z B0 [.ref (lay (0, 0)), .int q, .int a, .int b, .int g, .int pd, .int rg] lay (W2 Z lay μ tb μ' tb' r) (fun v lay' C' => v = some (.int ans) ∧ lyL lay lay' ∧ C' = W2 Z lay' ν tbn μ' tb' r) :=
  YC_mono (h lay (tw Z lay μ' tb' r) (tw_200 hr)) (fun _ _ _ z => side_o _ _ z)
theorem mail_T {q a b g pd rg ans : Int32} (hr : r (200, 0) = none) (h : MailOK l Z B0 μ' tb' q a b g pd rg ans ν tbn) : YC l yL_mail cL_mail 8 (some FieldType.int) [(0, 22, 23, 15), (0, 22, 28, 18), (0, 22, 33, 21)] 21 760 7 53 Z B0 [.ref (lay (500, 0)), .int q, .int a, .int b, .int g, .int pd, .int rg] lay (W2 Z lay μ tb μ' tb' r) (fun v lay' C' => v = some (.int ans) ∧ lyL lay lay' ∧ C' = W2 Z lay' μ tb ν tbn r) :=
  YC_mono (YC_sw (lay := lay) (C := W2 Z lay μ tb μ' tb' r) (by rw [W2_sw]; exact h (csw lay) (tw Z (csw lay) μ tb r) (tw_200 hr))) (fun _ _ _ z => side_t _ _ z)
theorem long_W {w a b : Int32} {ans : Int64} (h : LongOK l Z B0 μ tb w a b ans ν) : YC l yL_long0 cL_long0 5 (some FieldType.long) [(0, 58, 59, 15), (0, 58, 65, 18)] 21 760 2 12 Z B0 [.ref (lay (0, 0)), .int w, .int a, .int b] lay (W2 Z lay μ tb μ' tb' r) (fun v lay' C' => v = some (.long ans) ∧ lyL lay lay' ∧ C' = W2 Z lay' ν tb μ' tb' r) :=
  YC_mono (h lay (tw Z lay μ' tb' r)) (fun _ _ _ z => side_o _ _ z)
theorem long_T {w a b : Int32} {ans : Int64} (h : LongOK l Z B0 μ' tb' w a b ans ν) : YC l yL_long0 cL_long0 5 (some FieldType.long) [(0, 58, 59, 15), (0, 58, 65, 18)] 21 760 2 12 Z B0 [.ref (lay (500, 0)), .int w, .int a, .int b] lay (W2 Z lay μ tb μ' tb' r) (fun v lay' C' => v = some (.long ans) ∧ lyL lay lay' ∧ C' = W2 Z lay' μ tb ν tb' r) :=
  YC_mono (YC_sw (lay := lay) (C := W2 Z lay μ tb μ' tb' r) (by rw [W2_sw]; exact h (csw lay) (tw Z (csw lay) μ tb r))) (fun _ _ _ z => side_t _ _ z)
theorem all_W (hl0 : l.stackTraces = false) {f : Nat → Int32} (hI : RI μ) (hK : KI μ) (hTS : TS μ tb.1) (hf : dF f μ) : YL l yL_all cL_all 6 (some FieldType.long) 22 800 1100 6600 Z B0 [.ref (lay (0, 0)), .ref (lay (300, 0))] lay (W2 Z lay μ tb μ' tb' (dR Z f)) (fun v lay' C' => lay = lay' ∧ v = some (.long (hA μ)) ∧ C' = W2 Z lay μ tb μ' tb' (dR Z f)) :=
  c_all hl0 hI hK hTS rfl hf
theorem all_T (hl0 : l.stackTraces = false) {f : Nat → Int32} (hI : RI μ') (hK : KI μ') (hTS : TS μ' tb'.1) (hf : dF f μ') : YL l yL_all cL_all 6 (some FieldType.long) 22 800 1100 6600 Z B0 [.ref (lay (500, 0)), .ref (lay (300, 0))] lay (W2 Z lay μ tb μ' tb' (dR Z f)) (fun v lay' C' => lay = lay' ∧ v = some (.long (hA μ')) ∧ C' = W2 Z lay μ tb μ' tb' (dR Z f)) := by
  have h := YL_sw (B0 := B0) (lay := lay) (C := W2 Z lay μ tb μ' tb' (dR Z f)) (by rw [W2_sw]; exact c_all (lay := csw lay) (r := tw Z (csw lay) μ tb (dR Z f)) hl0 hI hK hTS rfl hf)
  refine YL_mono h ?_
  rintro v lay' C' ⟨h1, h2, h3⟩
  have e : lay = lay' := by rw [← csw_csw lay, h1, csw_csw]
  refine ⟨e, h2, ?_⟩
  rw [← csw_csw C', h3]
  show csw (W2 Z (csw lay) μ' tb' μ tb (dR Z f)) = _
  rw [W2_sw, csw_csw]
theorem sums2_W (hl0 : l.stackTraces = false) {f : Nat → Int32} (hI : RI μ) (hf : dF f μ) (hd : r (300, 0) = some (aI Z 3 f)) : YL l yL_sums cL_sums 6 (some FieldType.long) 22 800 8 48 Z B0 [.ref (lay (0, 0)), .ref (lay (300, 0)), .int 2] lay (W2 Z lay μ tb μ' tb' r) (fun v lay' C' => lay = lay' ∧ v = some (.long (sm (μ.2 7) (nP μ))) ∧ C' = W2 Z lay μ tb μ' tb' r) :=
  c_sums2 hl0 hI (show tw Z lay μ' tb' r (300, 0) = _ from hd) hf
theorem sums3_W (hl0 : l.stackTraces = false) {f : Nat → Int32} (hI : RI μ) (hf : dF f μ) (hd : r (300, 0) = some (aI Z 3 f)) : YL l yL_sums cL_sums 6 (some FieldType.long) 22 800 8 48 Z B0 [.ref (lay (0, 0)), .ref (lay (300, 0)), .int 3] lay (W2 Z lay μ tb μ' tb' r) (fun v lay' C' => lay = lay' ∧ v = some (.long (sm (μ.2 8) (nP μ))) ∧ C' = W2 Z lay μ tb μ' tb' r) :=
  c_sums3 hl0 hI (show tw Z lay μ' tb' r (300, 0) = _ from hd) hf
end CW
section XC2
variable {p : Program} {l : Launch} {e : Env} {R : Room} {s : State} {m : MethodId} {args : Array Value} {below : List Frame} {meth : Method} {c : Code} {Q : State → Prop} {Z : xZ} {B0 nL : Nat} {lay : xK → Nat} {C : xK → Option xE} {cells slots pc : Nat} {lv : List (Option Value)} {st : List Value}
theorem v_cutJ {lay' : xK → Nat} {C' : xK → Option xE} {pc' : Nat} {lv' : List (Option Value)} {st' : List Value} (J : V p l e R s m args below meth c Q Z B0 nL lay' C' cells slots pc' lv' st') (k : V p l e R s m args below meth c Q Z B0 nL lay' C' cells slots pc' lv' st' → V p l e R s m args below meth c Q Z B0 nL lay C cells slots pc lv st) : V p l e R s m args below meth c Q Z B0 nL lay C cells slots pc lv st := k J
end XC2
theorem lcz {a b : Int64} (h : a = b) : lg_cmp a b = 0 := by
  subst h
  unfold lg_cmp
  simp
theorem oth_ne {p j P : Nat} (hp : p < P) (hj : j < P - 1) : (p + 1 + j) % P < P ∧ p ≠ (p + 1 + j) % P := by
  refine ⟨Nat.mod_lt _ (by omega), ?_⟩
  rcases Nat.lt_or_ge (p + 1 + j) P with h | h
  · rw [Nat.mod_eq_of_lt h]; omega
  · rw [Nat.mod_eq_sub_mod h, Nat.mod_eq_of_lt (by omega)]; omega
theorem isK_n {q : Nat} (h : q < 3) : isK (nI q) := ⟨nI_pos' (by omega), nI_le (b := 2) (by omega) (by decide)⟩
theorem ix_k {q : Nat} (h : q < 3) : ix (nI q) = q := ix_nI (by omega)
theorem inR_n {a b n : Nat} (h1 : a ≤ n) (h2 : n ≤ b) (hb : b < 2 ^ 31) : inR (nI n) (nI a) (nI b) := ⟨nI_le h1 (by omega), nI_le h2 hb⟩
theorem notneg {n : Nat} (h : n < 2 ^ 31) : ¬ nI n = -2000000003 := by
  intro z
  have h1 := nI_toInt h
  rw [z] at h1
  have h2 : ((-2000000003 : Int32)).toInt = -2000000003 := by decide
  omega
