/-! the class's invariants, and what they give; settling and gaining, as the class goes through its posts -/
def KL (μ : Mu) : Prop := ∀ g, g < nG μ → ix (μ.1 11 g) < nP μ ∧ ix (μ.1 12 g) < nP μ ∧ inR (μ.1 13 g) 1 100
def KT (μ : Mu) : Prop := ∀ t, t < nT μ → (ix (μ.1 18 t) < nP μ ∧ ix (μ.1 19 t) < nP μ ∧ ix (μ.1 24 t) < nP μ) ∧ (μ.1 25 t = -1 ∨ ix (μ.1 25 t) < nG μ) ∧ ∃ k, arG k (μ.1 20 t)
def KM (μ : Mu) : Prop := (∀ i, ¬ μ.1 5 i < 0) ∧ ∀ i, inR (μ.1 1 i) 0 10000 ∧ inR (μ.1 2 i) 0 10000
def KC (μ : Mu) : Prop := ∀ a b, a < 8 → b < 8 → nP μ ≤ a ∨ nP μ ≤ b → μ.2 9 (8 * a + b) = 0
def KZ (μ : Mu) : Prop := (∀ i, nP μ ≤ i → (μ.1 4 i = 0 ∧ μ.1 5 i = 0 ∧ μ.1 6 i = 0) ∧ (μ.2 7 i = 0 ∧ μ.2 8 i = 0) ∧ ∀ k, k < 3 → μ.1 1 (3 * i + k) = 0 ∧ μ.1 2 (3 * i + k) = 0 ∧ μ.1 3 (3 * i + k) = 0) ∧ (∀ g, nG μ ≤ g → μ.1 14 g = 0) ∧ ∀ t, nT μ ≤ t → μ.1 26 t = 0 ∧ μ.1 27 t = 0 ∧ μ.1 28 t = 0 ∧ μ.1 29 t = 0 ∧ μ.1 35 t = 0
def KI (μ : Mu) : Prop := KL μ ∧ KT μ ∧ KM μ ∧ KC μ ∧ KZ μ
theorem KI.g1 {μ : Mu} (h : KI μ) {g : Nat} (hg : g < nG μ) : ix (μ.1 11 g) < nP μ := (h.1 g hg).1
theorem KI.g2 {μ : Mu} (h : KI μ) {g : Nat} (hg : g < nG μ) : ix (μ.1 12 g) < nP μ := (h.1 g hg).2.1
theorem KI.or {μ : Mu} (h : KI μ) {t : Nat} (ht : t < nT μ) : ix (μ.1 18 t) < nP μ := (h.2.1 t ht).1.1
theorem KI.ta {μ : Mu} (h : KI μ) {t : Nat} (ht : t < nT μ) : ix (μ.1 19 t) < nP μ := (h.2.1 t ht).1.2.1
theorem KI.at {μ : Mu} (h : KI μ) {t : Nat} (ht : t < nT μ) : ix (μ.1 24 t) < nP μ := (h.2.1 t ht).1.2.2
theorem KI.on {μ : Mu} (h : KI μ) {t : Nat} (ht : t < nT μ) : μ.1 25 t = -1 ∨ ix (μ.1 25 t) < nG μ := (h.2.1 t ht).2.1
theorem KI.gr {μ : Mu} (h : KI μ) {t : Nat} (ht : t < nT μ) : ∃ k, arG k (μ.1 20 t) := (h.2.1 t ht).2.2
/-- the hands: the class's rows are the reference's chains; cl says which cell is which hand -/
def HR (μ : Mu) (tb : Tb) (cl : Nat → Nat → Nat) : Prop := (∀ t, t < nT μ → ∃ h : Nat, μ.1 35 t = nI h ∧ h ≤ tb.2.2 t ∧ h ≤ 8192 ∧ (∃ s, s ≤ 10 ∧ (tb.2.2 t = 8 * 2 ^ s ∨ (tb.2.2 t = 0 ∧ s = 0 ∧ μ.1 21 t = 0))) ∧ (μ.1 21 t = 0 → h = 0) ∧ (0 < h → μ.1 33 t = nI (cl t 0) ∧ μ.1 34 t = nI (cl t (h - 1))) ∧ ∀ j, j < h → (cl t j < ix (μ.1 30 0) ∧ tb.2.1 t j = μ.1 31 (cl t j) ∧ (j + 1 < h → μ.1 32 (cl t j) = nI (cl t (j + 1)))) ∧ ∀ t', t' < nT μ → ∀ j', j' < ix (μ.1 35 t') → cl t j = cl t' j' → t = t' ∧ j = j')
section XK
variable {p : Program} {l : Launch} {e : Env} {R : Room} {s : State} {m : MethodId} {args : Array Value} {below : List Frame} {meth : Method} {c : Code} {Q : State → Prop} {Z : xZ} {B0 nL : Nat} {lay : xK → Nat} {C : xK → Option xE} {cells slots pc : Nat} {lv : List (Option Value)} {μ : Mu} {tb : Tb} {r : xK → Option xE} {st : List Value}
/-- different keys lie apart -/
theorem v_inj (k : (∀ j j', C j ≠ none → C j' ≠ none → lay j = lay j' → j = j') → V p l e R s m args below meth c Q Z B0 nL lay C cells slots pc lv st) : V p l e R s m args below meth c Q Z B0 nL lay C cells slots pc lv st := fun ls H locs hl hP hS => k hP.2.1 ls H locs hl hP hS
theorem v_mx {μ' : Mu} (h : μ = μ') (k : V p l e R s m args below meth c Q Z B0 nL lay (cX Z lay μ' tb r) cells slots pc lv st) : V p l e R s m args below meth c Q Z B0 nL lay (cX Z lay μ tb r) cells slots pc lv st := h ▸ k
variable {rest : List Value} {cc : ByteArray} {own : String}
theorem v_aload_nN (X : Cx p m meth c cc nL s args own Z B0) {k : Fin 4} {i : Nat} (hdg : decode cc pc = .ok (.aload_n k, 1)) (hi : (k : Nat) = i) (hl0 : lv[i]? = some (some .null)) (k : V p l e R s m args below meth c Q Z B0 nL lay C cells slots (pc + 1) lv (.null :: rest)) : V p l e R s m args below meth c Q Z B0 nL lay C cells slots pc lv rest := fun ls H locs hl hP hS => lv_aload_nN X.1.1 X.1.2.1 hdg hi (xl_at hl hl0) (k ls H locs hl hP hS)
theorem v_aloadN (X : Cx p m meth c cc nL s args own Z B0) {i : Nat} (hdg : decode cc pc = .ok (.aload i, 2)) (hl0 : lv[i]? = some (some .null)) (k : V p l e R s m args below meth c Q Z B0 nL lay C cells slots (pc + 2) lv (.null :: rest)) : V p l e R s m args below meth c Q Z B0 nL lay C cells slots pc lv rest := fun ls H locs hl hP hS => lv_aloadN X.1.1 X.1.2.1 hdg (xl_at hl hl0) (k ls H locs hl hP hS)
theorem v_astore_nN (X : Cx p m meth c cc nL s args own Z B0) {k : Fin 4} {i : Nat} {lv' : List (Option Value)} (hdg : decode cc pc = .ok (.astore_n k, 1)) (hi : (k : Nat) = i) (hn : i < nL) (hv : xs1 lv i .null = lv') (kk : V p l e R s m args below meth c Q Z B0 nL lay C cells slots (pc + 1) lv' rest) : V p l e R s m args below meth c Q Z B0 nL lay C cells slots pc lv (.null :: rest) := fun ls H locs hl hP hS => lv_astore_nN X.1.1 X.1.2.1 hdg hi hl hn rfl (fun ls' hl' => kk ls' H locs (xl_s1 hl' hv) hP hS)
theorem v_astoreN (X : Cx p m meth c cc nL s args own Z B0) {i : Nat} {lv' : List (Option Value)} (hdg : decode cc pc = .ok (.astore i, 2)) (hn : i < nL) (hv : xs1 lv i .null = lv') (kk : V p l e R s m args below meth c Q Z B0 nL lay C cells slots (pc + 2) lv' rest) : V p l e R s m args below meth c Q Z B0 nL lay C cells slots pc lv (.null :: rest) := fun ls H locs hl hP hS => lv_astoreN X.1.1 X.1.2.1 hdg hl hn rfl (fun ls' hl' => kk ls' H locs (xl_s1 hl' hv) hP hS)
end XK
abbrev lyI (Z : xZ) (lay : xK → Nat) (μ : Mu) (tb : Tb) (r : xK → Option xE) : Prop := ∀ j j', cX Z lay μ tb r j ≠ none → cX Z lay μ tb r j' ≠ none → lay j = lay j' → j = j'
theorem P_inj {Z : xZ} {lay : xK → Nat} {μ : Mu} {tb : Tb} {r : xK → Option xE} (h : lyI Z lay μ tb r) {i j : Nat} (hi : i < nP μ) (hj : j < nP μ) (e : lay (10, i) = lay (10, j)) : i = j := by
  have := h (10, i) (10, j) (by rw [cX_P hi]; exact fun z => by cases z) (by rw [cX_P hj]; exact fun z => by cases z) e
  exact (Prod.mk.inj this).2
theorem ix_inj {a b : Int32} {n : Nat} (ha : vp_in a n) (hb : vp_in b n) (hn : n < 2 ^ 31) (h : ix a = ix b) : a = b := by rw [← in_eq ha hn, ← in_eq hb hn, h]
theorem row8n {J : Nat → Nat → Int64} {i n : Nat} (h : n < 8) : row8 J i (ix (nI n)) = J 9 (8 * i + n) := by rw [ix_nI (by omega), row8_at h]
/-- a pair settled, as the reference does it -/
def S1 (f : Int32) (k : Nat) (q : Int64 × Mu) : Int64 × Mu := (q.1 + q.2.2 9 k * f.toInt64, ((M_pays q.2 (k / 8) (k % 8) (q.2.2 9 k * f.toInt64)).1, up2 (M_pays q.2 (k / 8) (k % 8) (q.2.2 9 k * f.toInt64)).2 9 k 0))
def K_s1 (f : Int32) (a : Nat) : Nat → Int64 × Mu → Int64 × Mu
  | 0, q => q
  | n + 1, q => S1 f (8 * a + n) (K_s1 f a n q)
def K_s2 (f : Int32) (P : Nat) : Nat → Int64 × Mu → Int64 × Mu
  | 0, q => q
  | n + 1, q => K_s1 f n P (K_s2 f P n q)
theorem S1_1 (f : Int32) (k : Nat) (q : Int64 × Mu) : (S1 f k q).2.1 = q.2.1 := rfl
theorem up2_id {α : Type} (f : Nat → Nat → α) (j i : Nat) : up2 f j i (f j i) = f := by
  funext a b
  rw [up2_at]
  split
  · next h => rw [h.1, h.2]
  · rfl
theorem S1_z {f : Int32} {k : Nat} {q : Int64 × Mu} (h : q.2.2 9 k = 0) : S1 f k q = q := by
  have e : q.2.2 9 k * f.toInt64 = 0 := by rw [h, Int64.zero_mul]
  have e2 : (M_pays q.2 (k / 8) (k % 8) (q.2.2 9 k * f.toInt64)).2 = q.2.2 := by
    unfold M_pays
    rw [e]
    dsimp only
    rw [Int64.sub_zero, up2_id, Int64.add_zero, up2_id]
  unfold S1
  rw [e2]
  rw [e, Int64.add_zero, ← h, up2_id]
  rfl
theorem S1_9 (f : Int32) (k : Nat) (q : Int64 × Mu) (j : Nat) : (S1 f k q).2.2 9 j = if j = k then 0 else q.2.2 9 j := by
  unfold S1 M_pays
  dsimp only
  rw [up2_at]
  by_cases h : j = k
  · rw [if_pos ⟨rfl, h⟩, if_pos h]
  · rw [if_neg (fun z => h z.2), if_neg h, up2_at, if_neg (fun z => by cases z.1), up2_at, if_neg (fun z => by cases z.1)]
theorem S1_0 {f : Int32} {k : Nat} {q : Int64 × Mu} {j : Nat} (h : q.2.2 9 j = 0) : (S1 f k q).2.2 9 j = 0 := by
  rw [S1_9]; split
  · rfl
  · exact h
theorem st1_lin (f : Int32) (q : Int64 × Mu) (a : Nat) : ∀ n, M_st1 f (8 * a + n) q = K_s1 f a n (M_st1 f (8 * a) q)
  | 0 => rfl
  | n + 1 => by
    show S1 f (8 * a + n) (M_st1 f (8 * a + n) q) = S1 f (8 * a + n) (K_s1 f a n _)
    rw [st1_lin f q a n]
theorem K_s1_0 {f : Int32} {a : Nat} {q : Int64 × Mu} {j : Nat} (h : q.2.2 9 j = 0) : ∀ n, (K_s1 f a n q).2.2 9 j = 0
  | 0 => h
  | n + 1 => S1_0 (K_s1_0 h n)
theorem M_st1_0 {f : Int32} {q : Int64 × Mu} {j : Nat} (h : q.2.2 9 j = 0) : ∀ n, (M_st1 f n q).2.2 9 j = 0
  | 0 => h
  | n + 1 => S1_0 (f := f) (k := n) (q := M_st1 f n q) (M_st1_0 h n)
theorem K_s1_to {f : Int32} {a P : Nat} {q : Int64 × Mu} (h : ∀ b, P ≤ b → b < 8 → q.2.2 9 (8 * a + b) = 0) : ∀ d, P + d ≤ 8 → K_s1 f a (P + d) q = K_s1 f a P q
  | 0, _ => rfl
  | d + 1, hd => by
    show S1 f (8 * a + (P + d)) (K_s1 f a (P + d) q) = _
    rw [S1_z (K_s1_0 (h (P + d) (by omega) (by omega)) _), K_s1_to h d (by omega)]
theorem settle_lo {f : Int32} {P : Nat} {q : Int64 × Mu} (hP : P ≤ 8) (h : ∀ a b, a < 8 → b < 8 → P ≤ a ∨ P ≤ b → q.2.2 9 (8 * a + b) = 0) : ∀ n, n ≤ 8 → M_st1 f (8 * n) q = K_s2 f P n q
  | 0, _ => rfl
  | n + 1, hn => by
    rw [show 8 * (n + 1) = 8 * n + 8 by omega, st1_lin, K_s2, ← settle_lo hP h n (by omega)]
    have := K_s1_to (f := f) (a := n) (P := P) (q := M_st1 f (8 * n) q) (fun b h1 h2 => M_st1_0 (h n b (by omega) h2 (Or.inr h1)) _) (8 - P) (by omega)
    rw [show P + (8 - P) = 8 by omega] at this
    exact this
theorem K_s1_z {f : Int32} {a : Nat} {q : Int64 × Mu} (h : ∀ b, b < 8 → q.2.2 9 (8 * a + b) = 0) : ∀ n, n ≤ 8 → K_s1 f a n q = q
  | 0, _ => rfl
  | n + 1, hn => by
    rw [K_s1, K_s1_z h n (by omega)]
    exact S1_z (h n (by omega))
theorem settle_hi {f : Int32} {P : Nat} {q : Int64 × Mu} (hP : P ≤ 8) (h : ∀ a b, a < 8 → b < 8 → P ≤ a ∨ P ≤ b → q.2.2 9 (8 * a + b) = 0) : ∀ d, P + d ≤ 8 → M_st1 f (8 * (P + d)) q = M_st1 f (8 * P) q
  | 0, _ => rfl
  | d + 1, hd => by
    rw [show 8 * (P + (d + 1)) = 8 * (P + d) + 8 by omega, st1_lin]
    rw [K_s1_z (fun b hb => M_st1_0 (h (P + d) b (by omega) hb (Or.inl (by omega))) _) 8 (by omega), settle_hi hP h d (by omega)]
theorem settle_eq {f : Int32} {P : Nat} {q : Int64 × Mu} (hP : P ≤ 8) (h : ∀ a b, a < 8 → b < 8 → P ≤ a ∨ P ≤ b → q.2.2 9 (8 * a + b) = 0) : K_s2 f P P q = M_st1 f 64 q := by
  rw [← settle_lo hP h P hP, ← settle_hi hP h (8 - P) (by omega), show 8 * (P + (8 - P)) = 64 by omega]
theorem K_s1_1 (f : Int32) (a : Nat) (q : Int64 × Mu) : ∀ n, (K_s1 f a n q).2.1 = q.2.1
  | 0 => rfl
  | n + 1 => K_s1_1 f a q n
theorem K_s2_1 (f : Int32) (P : Nat) (q : Int64 × Mu) : ∀ n, (K_s2 f P n q).2.1 = q.2.1
  | 0 => rfl
  | n + 1 => (K_s1_1 f n _ P).trans (K_s2_1 f P q n)
theorem pay_zero {μ : Mu} {i j : Nat} (hj : j < 8) (q : Int64) : M_pays (μ.1, up2 μ.2 9 (8 * i + j) 0) i j q = (μ.1, up2 (M_pays μ ((8 * i + j) / 8) ((8 * i + j) % 8) q).2 9 (8 * i + j) 0) := by
  rw [show (8 * i + j) / 8 = i by omega, show (8 * i + j) % 8 = j by omega]
  unfold M_pays
  refine Prod.ext rfl (funext fun a => funext fun b => ?_)
  simp only [up2_at]
  by_cases h7 : a = 7
  · subst h7; simp
  · by_cases h9 : a = 9
    · subst h9; simp
    · simp [h7, h9]
/-- what could be gained, as the class looks for it -/
def K_gs (μ : Mu) (a b : Nat) (q : Int32 × Int32 × Int32) : Int32 × Int32 × Int32 := if ¬ K_gainOf μ a b ≤ q.1 then (K_gainOf μ a b, nI a, nI b) else q
def K_g3 (μ : Mu) (a : Nat) : Nat → Int32 × Int32 × Int32 → Int32 × Int32 × Int32
  | 0, q => q
  | n + 1, q => K_gs μ a n (K_g3 μ a n q)
def K_g4 (μ : Mu) (P : Nat) : Nat → Int32 × Int32 × Int32 → Int32 × Int32 × Int32
  | 0, q => q
  | n + 1, q => K_g3 μ n P (K_g4 μ P n q)
def GR (μ : Mu) (q : Int32 × Int32 × Int32) (A : Nat → Nat → Int32) : Prop := q.1 = A 37 0 ∧ 0 ≤ q.1 ∧ (¬ q.1 = 0 → q.2.1 = A 37 1 ∧ q.2.2 = A 37 2) ∧ A 5 = μ.1 5 ∧ A 1 = μ.1 1
theorem GR_gs {μ : Mu} (hK : ∀ i, ¬ μ.1 5 i < 0) {q : Int32 × Int32 × Int32} {A : Nat → Nat → Int32} (h : GR μ q A) (a b : Nat) : GR μ (K_gs μ a b q) (M_gs a b A) := by
  obtain ⟨h1, h2, h3, h4, h5⟩ := h
  have e3 : row3 μ.1 1 b (ix 0) = μ.1 1 (3 * b) := row3_at (i := b) (k := 0) (by decide)
  unfold K_gs M_gs K_gainOf
  rw [h4, h5, e3]
  by_cases hab : a = b
  · rw [if_pos hab, if_neg (fun z => z h2), if_neg (fun z => z.1 hab)]
    exact ⟨h1, h2, h3, h4, h5⟩
  · rw [if_neg hab]
    by_cases hz : μ.1 5 a = 0
    · rw [if_pos hz, if_neg (fun z => z h2), if_neg (fun z => z.2.1 (by rw [hz]; exact Int32.le_refl _))]
      exact ⟨h1, h2, h3, h4, h5⟩
    · rw [if_neg hz]
      have hpos : ¬ μ.1 5 a ≤ 0 := fun z => hz (Int32.le_antisymm z (Int32.not_lt.mp (hK a)))
      rw [← h1]
      by_cases hg : μ.1 1 (3 * b) - μ.1 5 a ≤ q.1
      · rw [if_neg (fun z => z hg), if_neg (fun z => z.2.2 hg)]
        exact ⟨h1, h2, h3, h4, h5⟩
      · rw [if_pos hg, if_pos ⟨hab, hpos, hg⟩]
        refine ⟨?_, Int32.le_trans h2 (Int32.le_of_lt (Int32.not_le.mp hg)), fun _ => ⟨?_, ?_⟩, ?_, ?_⟩
        · simp [up2]
        · simp [up2]
        · simp [up2]
        · rw [up2_ne _ _ _ _ _ (by decide), up2_ne _ _ _ _ _ (by decide), up2_ne _ _ _ _ _ (by decide), h4]
        · rw [up2_ne _ _ _ _ _ (by decide), up2_ne _ _ _ _ _ (by decide), up2_ne _ _ _ _ _ (by decide), h5]
theorem GR_g3 {μ : Mu} (hK : ∀ i, ¬ μ.1 5 i < 0) {q : Int32 × Int32 × Int32} {A : Nat → Nat → Int32} (h : GR μ q A) (a : Nat) : ∀ n, GR μ (K_g3 μ a n q) (M_g3 a n A)
  | 0 => h
  | n + 1 => GR_gs hK (GR_g3 hK h a n) a n
theorem GR_g4 {μ : Mu} (hK : ∀ i, ¬ μ.1 5 i < 0) {q : Int32 × Int32 × Int32} {A : Nat → Nat → Int32} (h : GR μ q A) (P : Nat) : ∀ n, GR μ (K_g4 μ P n q) (M_g4 P n A)
  | 0 => h
  | n + 1 => GR_g3 hK (GR_g4 hK h P n) n P
def K_gain (μ : Mu) (w : Int32) : Int32 := if (K_g4 μ (nP μ) (nP μ) (0, -1, -1)).1 = 0 then -1 else if w = 0 then (K_g4 μ (nP μ) (nP μ) (0, -1, -1)).1 else if w = 1 then (K_g4 μ (nP μ) (nP μ) (0, -1, -1)).2.1 else (K_g4 μ (nP μ) (nP μ) (0, -1, -1)).2.2
theorem gain_eq {μ : Mu} (hK : ∀ i, ¬ μ.1 5 i < 0) {w : Int32} (hw : inR w 0 2) : K_gain μ w = (M_gain μ w).1 := by
  have h0 : GR μ (0, -1, -1) (up2 (up2 μ.1 38 0 0) 37 0 0) := ⟨by simp [up2], Int32.le_refl _, fun z => absurd rfl z, by rw [up2_ne _ _ _ _ _ (by decide), up2_ne _ _ _ _ _ (by decide)], by rw [up2_ne _ _ _ _ _ (by decide), up2_ne _ _ _ _ _ (by decide)]⟩
  obtain ⟨h1, h2, h3, -, -⟩ := GR_g4 hK h0 (nP μ) (nP μ)
  unfold K_gain M_gain
  rw [if_pos hw]
  dsimp only
  rw [← h1]
  by_cases hz : (K_g4 μ (nP μ) (nP μ) (0, -1, -1)).1 = 0
  · rw [if_pos hz, if_pos hz]
  · rw [if_neg hz, if_neg hz]
    obtain ⟨e1, e2⟩ := h3 hz
    obtain ⟨j, hj, rfl⟩ := inR_k (a := 2) (by decide) hw
    match j, hj with
    | 0, _ => exact h1
    | 1, _ => exact e1
    | 2, _ => exact e2
    | j + 3, h => exact absurd h (by omega)
