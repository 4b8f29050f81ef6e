/-! settling, mail -/
def d1 (c : Nat → Int64) (p : Nat) : Nat → Int64 → Int64
  | 0, h => h
  | q + 1, h => d1 c p q h + c (8 * p + q)
def d2 (c : Nat → Int64) (P : Nat) : Nat → Int64
  | 0 => 0
  | p + 1 => d1 c p P (d2 c P p)
theorem d1_sm (c : Nat → Int64) (p : Nat) (h : Int64) : ∀ n, d1 c p n h = h + sm (fun i => c (8 * p + i)) n
  | 0 => (Int64.add_zero h).symm
  | n + 1 => by
    rw [d1, d1_sm c p h n, sm]
    grind
theorem sm_8 (c : Nat → Int64) (a : Nat) : ∀ n, sm c (a + n) = sm c a + sm (fun i => c (a + i)) n
  | 0 => (Int64.add_zero _).symm
  | n + 1 => by
    show sm c (a + n) + c (a + n) = sm c a + (sm (fun i => c (a + i)) n + c (a + n))
    rw [sm_8 c a n]
    grind
theorem sm_z {f : Nat → Int64} {P : Nat} (h : ∀ d, f (P + d) = 0) : ∀ d, sm f (P + d) = sm f P
  | 0 => rfl
  | d + 1 => by
    show sm f (P + d) + f (P + d) = _
    rw [sm_z h d, h d, Int64.add_zero]
theorem sm_zb {f : Nat → Int64} {P n : Nat} (hP : P ≤ n) (h : ∀ i, P ≤ i → i < n → f i = 0) : sm f n = sm f P := by
  induction n with
  | zero => rw [show P = 0 by omega]
  | succ n ih =>
    by_cases e : P = n + 1
    · rw [e]
    · rw [sm, ih (by omega) (fun i a b => h i a (by omega)), h n (by omega) (by omega), Int64.add_zero]
theorem d2_sm {c : Nat → Int64} {P : Nat} (hP : P ≤ 8) (h : ∀ a b, a < 8 → b < 8 → P ≤ a ∨ P ≤ b → c (8 * a + b) = 0) : d2 c P P = sm c 64 := by
  have h1 : ∀ p, p ≤ 8 → d2 c P p = sm c (8 * p) := by
    intro p
    induction p with
    | zero => intro _; rfl
    | succ p ih =>
      intro hp
      rw [d2, d1_sm, ih (by omega), show 8 * (p + 1) = 8 * p + 8 by omega, sm_8 c (8 * p) 8]
      rw [sm_zb (f := fun i => c (8 * p + i)) hP (fun i a b => h p i (by omega) b (Or.inr a))]
  rw [h1 P hP]
  refine (sm_zb (by omega) (fun i a b => ?_)).symm
  have := h (i / 8) (i % 8) (by omega) (Nat.mod_lt _ (by decide)) (Or.inl (by omega))
  rwa [Nat.div_add_mod] at this
section CS
variable {μ : Mu} {tb : Tb} {k : Nat}
theorem st1_S (f : Int32) (n : Nat) (q : Int64 × Mu) : M_st1 f (n + 1) q = S1 f n (M_st1 f n q) := rfl
theorem st1_9 (f : Int32) (q : Int64 × Mu) : ∀ n j, (M_st1 f n q).2.2 9 j = if j < n then 0 else q.2.2 9 j
  | 0, j => by rw [if_neg (Nat.not_lt_zero j)]; rfl
  | n + 1, j => by
    rw [st1_S, S1_9, st1_9 f q n j]
    by_cases h : j = n
    · rw [if_pos h, if_pos (by omega)]
    · rw [if_neg h]
      by_cases h2 : j < n
      · rw [if_pos h2, if_pos (by omega)]
      · rw [if_neg h2, if_neg (by omega)]
theorem st1_a (f : Int32) (q : Int64 × Mu) : ∀ n, (M_st1 f n q).1 = q.1 + sm (q.2.2 9) n * f.toInt64
  | 0 => by
    show q.1 = q.1 + 0 * f.toInt64
    grind
  | n + 1 => by
    rw [st1_S]
    show (M_st1 f n q).1 + (M_st1 f n q).2.2 9 n * f.toInt64 = _
    rw [st1_a f q n, st1_9, if_neg (Nat.lt_irrefl _), sm]
    grind
theorem st1_7 (f : Int32) (q : Int64 × Mu) {P : Nat} (h : ∀ a b, a < 8 → b < 8 → P ≤ a ∨ P ≤ b → q.2.2 9 (8 * a + b) = 0) : ∀ n, n ≤ 64 → sm ((M_st1 f n q).2.2 7) P = sm (q.2.2 7) P ∧ (M_st1 f n q).2.2 8 = q.2.2 8
  | 0, _ => ⟨rfl, rfl⟩
  | n + 1, hn => by
    obtain ⟨i1, i2⟩ := st1_7 f q h n (by omega)
    rw [st1_S]
    by_cases hz : n / 8 < P ∧ n % 8 < P
    · have e7 : (S1 f n (M_st1 f n q)).2.2 7 = (M_pays (M_st1 f n q).2 (n / 8) (n % 8) ((M_st1 f n q).2.2 9 n * f.toInt64)).2 7 := by unfold S1; dsimp only; rw [up2_ne _ _ _ _ _ (by decide)]
      have e8 : (S1 f n (M_st1 f n q)).2.2 8 = (M_pays (M_st1 f n q).2 (n / 8) (n % 8) ((M_st1 f n q).2.2 9 n * f.toInt64)).2 8 := by unfold S1; dsimp only; rw [up2_ne _ _ _ _ _ (by decide)]
      rw [e7, e8, sm_pays hz.1 hz.2, pays_8 (by decide)]
      exact ⟨i1, i2⟩
    · rw [S1_z (by
        rw [st1_9, if_neg (Nat.lt_irrefl _)]
        have := h (n / 8) (n % 8) (by omega) (Nat.mod_lt _ (by decide)) (by omega)
        rwa [Nat.div_add_mod] at this)]
      exact ⟨i1, i2⟩
theorem st1_zz (f : Int32) {q : Int64 × Mu} (h : ∀ j, j < 64 → q.2.2 9 j = 0) : ∀ n, n ≤ 64 → M_st1 f n q = q
  | 0, _ => rfl
  | n + 1, hn => by rw [st1_S, st1_zz f h n (by omega), S1_z (h n (by omega))]
theorem cm_settle (h : LJ μ tb k) {f : Int32} (hf : inR f 1 1000) : M_settle μ f = M_st1 f 64 (0, μ) ∧ LJ (M_st1 f 64 (0, μ)).2 tb (k + 1) ∧ (M_st1 f 64 (0, μ)).2.1 = μ.1 ∧ (M_st1 f 64 (0, μ)).1 = d2 (μ.2 9) (nP μ) (nP μ) * f.toInt64 ∧ sm ((M_st1 f 64 (0, μ)).2.2 7) (nP μ) = sm (μ.2 7) (nP μ) ∧ M_settle (M_st1 f 64 (0, μ)).2 f = (0, (M_st1 f 64 (0, μ)).2) := by
  have hN := ni_settle h.1.1 f
  rw [h.t0] at hN
  have e1 := st1_1 f (0, μ) 64
  have h7 := st1_7 f (0, μ) (P := nP μ) (fun a b ha hb hp => h.K.2.2.2.1 a b ha hb hp) 64 (Nat.le_refl _)
  have hJ : LJ (M_st1 f 64 (0, μ)).2 tb (k + 1) := LJ_mk hN (by rw [e1]; exact h.z) (TPs h.2.2.1 (fun a _ => by rw [e1]) rfl) (JV_same h.2.2.2.1 (fun a _ => by rw [e1])) (JB_same h.2.2.2.2 h7.2 (by omega))
  refine ⟨?_, hJ, e1, ?_, h7.1, ?_⟩
  · unfold M_settle
    rw [if_pos hf, h.t0]
  · rw [st1_a, d2_sm (nP8 h.I) (fun a b ha hb hp => h.K.2.2.2.1 a b ha hb hp)]
    show (0 : Int64) + sm (μ.2 9) 64 * f.toInt64 = _
    rw [Int64.zero_add]
  · unfold M_settle
    rw [if_pos hf, hJ.t0]
    refine st1_zz f (fun j hj => ?_) 64 (Nat.le_refl _)
    show (M_st1 f 64 (0, μ)).2.2 9 j = 0
    rw [st1_9, if_pos hj]
/-! mail -/
theorem rate_nI (h : LJ μ tb k) {p : Nat} {q rg : Int32} {g : Nat} (hp : p < nP μ) (hq : isK q) (hg1 : 1 ≤ g) (hg : g ≤ 2000) : ∃ R, R ≤ 1000050 ∧ M_rateOf μ q (nI p) (nI g) rg = nI R := by
  obtain ⟨a, ha, ea⟩ := rate_n h.K 1 (ix (3 * nI p + q)) (Or.inl rfl)
  obtain ⟨b, hb, eb⟩ := rate_n h.K 2 (ix (3 * nI p + q)) (Or.inr rfl)
  unfold M_rateOf
  rw [ea, eb, show nI g - 1 = nI (g - 1) from pk_sub (b := 1) hg1, n20, pk_div (by omega) (by decide) (by decide), pk_mul, nI_add]
  have h1 : (g - 1) / 20 ≤ 99 := by omega
  have h2 : b * ((g - 1) / 20) ≤ 10000 * 99 := Nat.mul_le_mul hb h1
  by_cases h0 : rg = 0
  · rw [if_pos h0]
    exact ⟨a + b * ((g - 1) / 20), by omega, Int32.add_zero _⟩
  · rw [if_neg h0]
    exact ⟨a + b * ((g - 1) / 20) + 50, by omega, nI_add _ 50⟩
theorem cm_mail (h : LJ μ tb k) (hk : k < 500) {a b q g pd rg : Nat} (ha : a < nP μ) (hb : b < nP μ) (hab : a ≠ b) (hq : q < 3) (hg1 : 1 ≤ g) (hg : g ≤ (if q = 1 then 20 else 2000)) (hpd : pd ≤ 100000) (hrg : rg < 2) (hT : nT μ < 40) :
    M_mail μ (nI q) (nI a) (nI b) (nI g) (nI pd) (nI rg) = (nI (nT μ), M_mailS μ (nI q) (nI a) (nI b) (nI g) (nI pd) (nI rg)) ∧
    LJ (M_mailS μ (nI q) (nI a) (nI b) (nI g) (nI pd) (nI rg)) (KT_mail μ tb (nI a) (nI rg)) (k + 1) ∧
    (nP (M_mailS μ (nI q) (nI a) (nI b) (nI g) (nI pd) (nI rg)) = nP μ ∧ nG (M_mailS μ (nI q) (nI a) (nI b) (nI g) (nI pd) (nI rg)) = nG μ ∧ nT (M_mailS μ (nI q) (nI a) (nI b) (nI g) (nI pd) (nI rg)) = nT μ + 1) ∧
    (M_mailS μ (nI q) (nI a) (nI b) (nI g) (nI pd) (nI rg)).2 8 a = μ.2 8 a + (nI pd).toInt64 ∧
    ((M_mailS μ (nI q) (nI a) (nI b) (nI g) (nI pd) (nI rg)).1 23 (nT μ) = 0 ∧ (M_mailS μ (nI q) (nI a) (nI b) (nI g) (nI pd) (nI rg)).1 24 (nT μ) = nI a ∧ (M_mailS μ (nI q) (nI a) (nI b) (nI g) (nI pd) (nI rg)).1 26 (nT μ) = 0 ∧ (M_mailS μ (nI q) (nI a) (nI b) (nI g) (nI pd) (nI rg)).1 19 (nT μ) = nI b ∧ (M_mailS μ (nI q) (nI a) (nI b) (nI g) (nI pd) (nI rg)).1 27 (nT μ) = 0 ∧ (M_mailS μ (nI q) (nI a) (nI b) (nI g) (nI pd) (nI rg)).1 35 (nT μ) = nI rg ∧ (rg ≠ 0 → (KT_mail μ tb (nI a) (nI rg)).2.1 (nT μ) 0 = nI a)) ∧
    (M_taxOf (M_mailS μ (nI q) (nI a) (nI b) (nI g) (nI pd) (nI rg)) (nT μ) = 0 ∨ nI pd < M_rateOf μ (nI q) (nI a) (nI g) (nI rg)) := by
  have h8 := nP8 h.I
  have g1 := isP_n h.I ha
  have g2 := isP_n h.I hb
  have e16 := nTe h.I
  have hK2 : isK (nI q) := ⟨nI_pos' (by omega), nI_le (b := 2) (by omega) (by decide)⟩
  have hgr : arG (nI q) (nI g) := by
    unfold arG
    by_cases hq1 : q = 1
    · subst hq1
      rw [if_pos rfl] at hg
      rw [if_pos (show nI 1 = 1 from rfl)]
      exact ⟨nI_le (a := 1) hg1 (by omega), nI_le (b := 20) hg (by decide)⟩
    · rw [if_neg hq1] at hg
      rw [if_neg (show ¬ nI q = 1 from fun z => hq1 (nI_inj (b := 1) (by omega) (by decide) z))]
      exact ⟨nI_le (a := 1) hg1 (by omega), nI_le (b := 2000) hg (by decide)⟩
  have hg2000 : g ≤ 2000 := by split at hg <;> omega
  have h40 : ¬ μ.1 16 0 = 40 := by
    rw [e16]
    intro z
    have := nI_inj (b := 40) (by omega) (by decide) z
    omega
  have hrg01 : nI rg = 0 ∨ nI rg = 1 := by
    rcases (show rg = 0 ∨ rg = 1 by omega) with z | z <;> rw [z]
    · exact Or.inl rfl
    · exact Or.inr rfl
  have hN := ni_mail h.1.1 (by omega) (h.M hk) (k := nI q) (a := nI a) (b := nI b) (g := nI g) (pd := nI pd) (rg := nI rg) ⟨g1.1, g2.1, hK2, hgr, h40⟩ hrg01
  rw [h.t0] at hN
  obtain ⟨R, hR, eR⟩ := rate_nI h (rg := nI rg) ha hK2 hg1 hg2000
  obtain ⟨lk, hlk, elk⟩ : ∃ lk, lk ≤ 1000050 ∧ (if M_rateOf μ (nI q) (nI a) (nI g) (nI rg) ≤ nI pd then 0 else M_rateOf μ (nI q) (nI a) (nI g) (nI rg) - nI pd) = nI lk ∧ (0 < lk → pd < R) := by
    rw [eR]
    by_cases c : nI R ≤ nI pd
    · rw [if_pos c]; exact ⟨0, by decide, rfl, fun z => absurd z (by decide)⟩
    · rw [if_neg c]
      have := (nI_nle_iff (by omega) (by omega)).mp c
      exact ⟨R - pd, by omega, pk_sub (by omega), fun _ => this⟩
  obtain ⟨T, hTe⟩ : ∃ T, T = nT μ := ⟨_, rfl⟩
  obtain ⟨X, hX⟩ : ∃ X : Mu, X = (MA μ.1 T (nI q) (nI a) (nI b) (nI g) (nI rg) (nI lk), up2 μ.2 8 a (μ.2 8 a + (nI pd).toInt64)) := ⟨_, rfl⟩
  obtain ⟨ν, hν⟩ : ∃ ν, ν = M_mailS μ (nI q) (nI a) (nI b) (nI g) (nI pd) (nI rg) := ⟨_, rfl⟩
  have eν : ν = (up2 (M_signs X T (nI a)).1 16 0 ((M_signs X T (nI a)).1 16 0 + 1), (M_signs X T (nI a)).2) := by
    rw [hν, hX, ← elk.1, hTe]
    unfold M_mailS MA
    dsimp only
    rw [g1.2]
  have hXA : X.1 = MA μ.1 T (nI q) (nI a) (nI b) (nI g) (nI rg) (nI lk) := by rw [hX]
  have hX30 : ¬ (80000 : Int32) ≤ X.1 30 0 := by rw [hXA, MA_ne _ _ _ _ _ _ _ _ (by decide)]; exact h.M hk
  have hsc := signs_com (μ := X) (t := T) (v := nI a) hX30
  have fs : ∀ j, j ≠ 16 → j ≠ 30 ∧ j ≠ 31 ∧ j ≠ 32 ∧ j ≠ 33 ∧ j ≠ 34 ∧ j ≠ 35 → ν.1 j = X.1 j := fun j h1 h2 => by
    rw [eν]; dsimp only; rw [up2_ne _ _ _ _ _ h1, sg_ne _ _ _ h2]
  have f16 : ν.1 16 0 = nI (nT μ + 1) := by
    rw [eν]; dsimp only; rw [up2_at, if_pos ⟨rfl, rfl⟩, sg_ne _ _ _ (by decide), hXA, MA_ne _ _ _ _ _ _ _ _ (by decide), e16, nI_1]
  have f35 : ν.1 35 = (KM_sign X T).1 35 := by
    rw [eν]; dsimp only; rw [up2_ne _ _ _ _ _ (by decide)]; exact hsc.1 35 rfl
  have fJ : ν.2 = X.2 := by
    rw [eν]; dsimp only; rw [hsc.2]
    unfold KM_sign
    split <;> rfl
  have fo : ∀ j, j < 17 ∨ 25 < j → j ≠ 16 → j ≠ 30 ∧ j ≠ 31 ∧ j ≠ 32 ∧ j ≠ 33 ∧ j ≠ 34 ∧ j ≠ 35 → ν.1 j = μ.1 j := fun j h1 h2 h3 => by rw [fs j h2 h3, hXA, MA_ne _ _ _ _ _ _ _ _ h1]
  have ma18 : ν.1 18 T = nI a := by
    rw [fs 18 (by decide) (by decide), hXA]
    unfold MA
    simp [up2_at]
  have ma19 : ν.1 19 T = nI b := by
    rw [fs 19 (by decide) (by decide), hXA]
    unfold MA
    simp [up2_at]
  have ma21 : ν.1 21 T = nI rg := by
    rw [fs 21 (by decide) (by decide), hXA]
    unfold MA
    simp [up2_at]
  have ma22 : ν.1 22 T = nI lk := by
    rw [fs 22 (by decide) (by decide), hXA]
    unfold MA
    simp [up2_at]
  have ma23 : ν.1 23 T = 0 := by
    rw [fs 23 (by decide) (by decide), hXA]
    unfold MA
    simp [up2_at]
  have ma24 : ν.1 24 T = nI a := by
    rw [fs 24 (by decide) (by decide), hXA]
    unfold MA
    simp [up2_at]
  have kz := h.K.2.2.2.2.2.2 T (by omega)
  have f21X : X.1 21 T = nI rg := by rw [hXA]; unfold MA; simp [up2_at]
  have X35 : X.1 35 = μ.1 35 := by rw [hXA, MA_ne _ _ _ _ _ _ _ _ (by decide)]
  have f35T : ν.1 35 T = nI rg := by
    rw [f35]
    unfold KM_sign
    rw [f21X]
    rcases (show rg = 0 ∨ rg = 1 by omega) with z | z <;> subst z
    · rw [if_pos (show nI 0 = 0 from rfl), X35, kz.2.2.2.2]; rfl
    · rw [if_neg (show ¬ nI 1 = 0 by decide)]
      dsimp only
      rw [up2_at, if_pos ⟨rfl, rfl⟩, X35, kz.2.2.2.2]; rfl
  have f35o : ∀ x, x ≠ T → ν.1 35 x = μ.1 35 x := fun x hx => by
    rw [f35]
    unfold KM_sign
    split
    · rw [X35]
    · dsimp only
      rw [up2_at, if_neg (fun z => hx z.2), X35]
  have fx : ∀ j x, x ≠ T → j ≠ 16 → j ≠ 30 ∧ j ≠ 31 ∧ j ≠ 32 ∧ j ≠ 33 ∧ j ≠ 34 ∧ j ≠ 35 → ν.1 j x = μ.1 j x := fun j x hx h1 h2 => by
    rw [fs j h1 h2, hXA, MA_o _ _ _ _ _ _ _ _ hx]
  have enT : nT ν = nT μ + 1 := by
    show ix (ν.1 16 0) = _
    rw [f16, ix_nI (by omega)]
  rw [← hν] at hN ⊢
  have tbT : (KT_mail μ tb (nI a) (nI rg)).2.2 T ≤ 8 + 2 * rg ∧ (rg ≠ 0 → (KT_mail μ tb (nI a) (nI rg)).2.1 T 0 = nI a) := by
    unfold KT_mail
    dsimp only
    rw [if_pos hTe]
    refine ⟨?_, fun z => ?_⟩
    · split <;> omega
    · rw [if_pos hTe, if_neg (nI_ne0 (by omega) (by omega)), g1.2]
      rfl
  have tbo : ∀ x, x ≠ T → (KT_mail μ tb (nI a) (nI rg)).2.1 x = tb.2.1 x ∧ (KT_mail μ tb (nI a) (nI rg)).2.2 x = tb.2.2 x := fun x hx => by
    unfold KT_mail
    refine ⟨funext fun y => ?_, ?_⟩
    · exact if_neg (fun z => hx (z.trans hTe.symm))
    · exact if_neg (fun z => hx (z.trans hTe.symm))
  have hTP : ∀ t, t < nT ν → TP ν (KT_mail μ tb (nI a) (nI rg)) t := by
    intro t ht
    by_cases e : t = T
    · subst e
      have e23 := ma23
      have e24 := ma24
      have e19 := ma19
      have e26 : ν.1 26 t = 0 := by rw [fo 26 (by decide) (by decide) (by decide)]; exact kz.1
      refine ⟨Or.inl e23, fun z => absurd (e23.symm.trans z) (by decide), fun _ => e26, fun _ => ?_, fun z => absurd (e23.symm.trans z) (by decide), ⟨rg, by omega, f35T, tbT.1, fun z => ?_, fun z => ?_⟩, lk, hlk, ma22⟩
      · rw [e24, e19]
        exact fun z => hab (nI_inj (by omega) (by omega) z)
      · rw [ma21] at z
        rcases Nat.eq_zero_or_pos rg with y | y
        · exact y
        · exact absurd z (nI_ne0 y (by omega))
      · rw [ma21] at z
        have hr : rg = 1 := by
          rcases (show rg = 0 ∨ rg = 1 by omega) with y | y
          · rw [y] at z; exact absurd rfl z
          · exact y
        have e9 : (KT_mail μ tb (nI a) (nI rg)).2.1 t (rg - 1) = nI a := by
          rw [show rg - 1 = 0 by omega]
          exact tbT.2 (by omega)
        refine ⟨by omega, fun _ => e9.trans e24.symm, ?_⟩
        rw [e9]
        exact vp_in_nI (by omega) (by decide)
    · have ht' : t < nT μ := by omega
      refine TP_same (h.T ht') (fun j hj => ?_) (tbo t e).1 (tbo t e).2
      rcases hj with rfl | rfl | rfl | rfl | rfl | rfl | rfl
      · exact fx _ _ e (by decide) (by decide)
      · exact fx _ _ e (by decide) (by decide)
      · exact fx _ _ e (by decide) (by decide)
      · exact fx _ _ e (by decide) (by decide)
      · exact fx _ _ e (by decide) (by decide)
      · exact fx _ _ e (by decide) (by decide)
      · exact f35o t e
  have fJ8 : ∀ p, ν.2 8 p = if p = a then μ.2 8 a + (nI pd).toInt64 else μ.2 8 p := fun p => by
    rw [fJ, hX]
    dsimp only
    rw [up2_at]
    by_cases hp : p = a
    · rw [if_pos ⟨rfl, hp⟩, if_pos hp]
    · rw [if_neg (fun z => hp z.2), if_neg hp]
  have hJ : LJ ν (KT_mail μ tb (nI a) (nI rg)) (k + 1) := LJ_mk hN (by rw [fo 38 (by decide) (by decide) (by decide)]; exact h.z) hTP (JV_same h.2.2.2.1 (fun j hj => fo j (by omega) (by omega) (by omega))) (fun p => by
    obtain ⟨b1, b2⟩ := h.2.2.2.2 p
    rw [fJ8 p]
    by_cases hp : p = a
    · subst hp
      have ep : ((nI pd).toInt64).toInt = (pd : Int) := by rw [nI_l (by omega)]; exact pk_lT (by omega)
      rw [if_pos rfl, i64_add (by rw [ep]; omega) (by rw [ep]; omega), ep]
      omega
    · rw [if_neg hp]
      omega)
  refine ⟨?_, hJ, ⟨?_, ?_, enT⟩, by rw [fJ8, if_pos rfl], ⟨?_, ?_, ?_, ?_, ?_, ?_, ?_⟩, ?_⟩
  · rw [hν]
    unfold M_mail
    rw [if_pos ⟨g1.1, g2.1⟩, if_neg (fun z => ?_), if_neg h40, h.t0, e16]
    rcases z with z | z | z | z
    · exact z hK2
    · exact z hgr
    · exact z ⟨nI_pos' (by omega), nI_le (b := 100000) hpd (by decide)⟩
    · exact hab (nI_inj (by omega) (by omega) z)
  · unfold nP; rw [fo 0 (by decide) (by decide) (by decide)]
  · unfold nG; rw [fo 10 (by decide) (by decide) (by decide)]
  · rw [← hTe]; exact ma23
  · rw [← hTe]; exact ma24
  · rw [← hTe, fo 26 (by decide) (by decide) (by decide)]; exact kz.1
  · rw [← hTe]; exact ma19
  · rw [← hTe, fo 27 (by decide) (by decide) (by decide)]; exact kz.2.1
  · rw [← hTe]; exact f35T
  · rw [← hTe]; exact tbT.2
  · rw [← hTe]
    obtain ⟨y, hy, ey, ey2⟩ := tax_lN hJ.K (t := T) hlk ma22
    rw [ey]
    rcases Nat.eq_zero_or_pos y with z | z
    · exact Or.inl (by rw [z]; rfl)
    · right
      rw [eR]
      exact nI_lt (elk.2 (ey2 z)) (by omega)
theorem cm_mail40 (h : LJ μ tb k) {a b q g pd rg : Nat} (ha : a < nP μ) (hb : b < nP μ) (hab : a ≠ b) (hq : q < 3) (hg1 : 1 ≤ g) (hg : g ≤ (if q = 1 then 20 else 2000)) (hpd : pd ≤ 100000) (hT : nT μ = 40) : (M_mail μ (nI q) (nI a) (nI b) (nI g) (nI pd) (nI rg)).2.1 38 0 = 3 := by
  have h8 := nP8 h.I
  have g1 := isP_n h.I ha
  have g2 := isP_n h.I hb
  have hK2 : isK (nI q) := ⟨nI_pos' (by omega), nI_le (b := 2) (by omega) (by decide)⟩
  have hgr : arG (nI q) (nI g) := by
    unfold arG
    by_cases hq1 : q = 1
    · subst hq1
      rw [if_pos rfl] at hg
      rw [if_pos (show nI 1 = 1 from rfl)]
      exact ⟨nI_le (a := 1) hg1 (by omega), nI_le (b := 20) hg (by decide)⟩
    · rw [if_neg hq1] at hg
      rw [if_neg (show ¬ nI q = 1 from fun z => hq1 (nI_inj (b := 1) (by omega) (by decide) z))]
      exact ⟨nI_le (a := 1) hg1 (by omega), nI_le (b := 2000) hg (by decide)⟩
  unfold M_mail
  rw [if_pos ⟨g1.1, g2.1⟩, if_neg (fun z => ?_), if_pos (by rw [nTe h.I, hT]; rfl)]
  · exact th_38 _ 3
  · rcases z with z | z | z | z
    · exact z hK2
    · exact z hgr
    · exact z ⟨nI_pos' (by omega), nI_le (b := 100000) hpd (by decide)⟩
    · exact hab (nI_inj (by omega) (by omega) z)
end CS
