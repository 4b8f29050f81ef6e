/-! the hands' chains; what a claim pays; a new start of the reference's state -/
theorem cX_th {Z : xZ} {lay : xK → Nat} {μ : Mu} {tb : Tb} {r : xK → Option xE} (k : Int32) : cX Z lay (th μ k) tb r = cX Z lay μ tb r := cX_eq (fun j hj => funext fun b => by simp [up2, (com38 hj).1]) rfl
theorem aq_rf {x : Int32} {i m : Nat} {f : Nat → Nat} (hx : ix x = i) (h : i < m) : va_rf ((fun i => if i < m then some (f i) else none) (ix x)) = .ref (f i) := by
  rw [hx]
  show va_rf (if i < m then some (f i) else none) = _
  rw [if_pos h]
  rfl
theorem nP_of {μ : Mu} {P : Nat} (hP : P ≤ 8) (e : μ.1 0 0 = nI P) : nP μ = P := by unfold nP; rw [e, ix_nI (by omega)]
theorem nT_of {μ : Mu} {P : Nat} (hP : P ≤ 40) (e : μ.1 16 0 = nI P) : nT μ = P := by unfold nT; rw [e, ix_nI (by omega)]
theorem nG_of {μ : Mu} {P : Nat} (hP : P ≤ 20) (e : μ.1 10 0 = nI P) : nG μ = P := by unfold nG; rw [e, ix_nI (by omega)]
section HRs
variable {μ : Mu} {tb : Tb} {cl : Nat → Nat → Nat}
theorem HR.get (h : HR μ tb cl) {t : Nat} (ht : t < nT μ) : ∃ n : Nat, μ.1 35 t = nI n ∧ n ≤ tb.2.2 t ∧ n ≤ 8192 ∧ (μ.1 21 t = 0 → n = 0) ∧ (0 < n → μ.1 33 t = nI (cl t 0) ∧ μ.1 34 t = nI (cl t (n - 1))) ∧ ∀ j, j < n → cl t j < ix (μ.1 30 0) ∧ tb.2.1 t j = μ.1 31 (cl t j) ∧ (j + 1 < n → μ.1 32 (cl t j) = nI (cl t (j + 1))) := by
  obtain ⟨n, h1, h2, h3, -, h5, h6, h7⟩ := h t ht
  exact ⟨n, h1, h2, h3, h5, h6, fun j hj => (h7 j hj).1⟩
theorem HR.hd (h : HR μ tb cl) (hI : RI μ) {t : Nat} (ht : t < nT μ) {n : Nat} (hn : μ.1 35 t = nI n) (hn2 : n ≤ 8192) : ∀ j, j < n → M_hd μ.1 (μ.1 33 t) j = nI (cl t j) := by
  obtain ⟨n', h1, h2, h3, h5, h6, h7⟩ := h.get ht
  have e : n' = n := by
    have := congrArg ix (h1.symm.trans hn)
    rw [ix_nI (by omega), ix_nI (by omega)] at this
    exact this
  subst e
  intro j
  induction j with
  | zero => intro hj; exact (h6 hj).1
  | succ j ih =>
    intro hj
    obtain ⟨N, hN, eN⟩ := hI.2.2.2.1
    have hc := (h7 j (by omega)).1
    rw [eN, ix_nI (by omega)] at hc
    rw [M_hd, ih (by omega), ix_nI (by omega)]
    exact (h7 j (by omega)).2.2 hj
theorem HR.hand (h : HR μ tb cl) (hI : RI μ) {t : Nat} (ht : t < nT μ) {n : Int32} (h1 : ¬ n < 0) (h2 : n < μ.1 35 t) : vp_in n (tb.2.2 t) ∧ μ.1 31 (ix (M_hd μ.1 (μ.1 33 t) (ix n))) = tb.2.1 t (ix n) := by
  obtain ⟨N, e, g1, g2, g3, g4, g5⟩ := h.get ht
  obtain ⟨j, hj, rfl⟩ := nI_of h1
  rw [e] at h2
  have hjN : j < N := (nI_ltI hj (by omega)).mp h2
  obtain ⟨S, hS, eS⟩ := hI.2.2.2.1
  have hc := (g5 j hjN).1
  rw [eS, ix_nI (by omega)] at hc
  rw [ix_nI hj, h.hd hI ht e g2 j hjN, ix_nI (by omega)]
  exact ⟨fun q => by rcases q with q | q; exact nI_pos hj q; rw [nI_clamp hj] at q; omega, (g5 j hjN).2.1.symm⟩
theorem HR.last (h : HR μ tb cl) (hI : RI μ) {t : Nat} (ht : t < nT μ) : (¬ μ.1 35 t ≤ 0 → vp_in (μ.1 35 t - 1) (tb.2.2 t)) ∧ K_last μ tb.2.1 t = if μ.1 35 t = 0 then -1 else μ.1 31 (ix (μ.1 34 t)) := by
  obtain ⟨N, e, g1, g2, g3, g4, g5⟩ := h.get ht
  cases N with
  | zero =>
    have e0 : μ.1 35 t = 0 := by rw [e]; rfl
    unfold K_last
    rw [e0, if_pos (Int32.le_refl _), if_pos rfl]
    exact ⟨fun z => absurd (Int32.le_refl _) z, rfl⟩
  | succ N =>
    have hz : ¬ μ.1 35 t ≤ 0 := by rw [e]; exact nI_nle (by omega) (by omega)
    have hz2 : ¬ μ.1 35 t = 0 := fun z => hz (by rw [z]; exact Int32.le_refl _)
    have e1 : μ.1 35 t - 1 = nI N := by rw [e, nI_pred]
    obtain ⟨S, hS, eS⟩ := hI.2.2.2.1
    have hc := (g5 N (by omega)).1
    rw [eS, ix_nI (by omega)] at hc
    unfold K_last
    rw [if_neg hz, if_neg hz2, e1, ix_nI (by omega), (g4 (by omega)).2, show N + 1 - 1 = N by omega, ix_nI (by omega)]
    exact ⟨fun _ q => by rcases q with q | q; exact nI_pos (by omega) q; rw [nI_clamp (by omega)] at q; omega, (g5 N (by omega)).2.1⟩
end HRs
def K_pf (μ : Mu) (i j : Nat) (k : Int32) : Int32 × Mu := if i = j then (0, μ) else (k, M_pays μ i j k.toInt64)
theorem pf_eq {μ : Mu} {t : Nat} {a : Int32} (ha : vp_in a 8) (h18 : vp_in (μ.1 18 t) 8) (k : Int32) : K_pf μ (ix a) (ix (μ.1 18 t)) k = M_paysFor μ t a k := by
  unfold K_pf M_paysFor
  by_cases h : a = μ.1 18 t
  · rw [if_pos h, if_pos (by rw [h])]
  · rw [if_neg h, if_neg (fun z => h (ix_inj ha h18 (by decide) z))]
theorem K_pf_1 (μ : Mu) (i j : Nat) (k : Int32) : (K_pf μ i j k).2.1 = μ.1 := by
  unfold K_pf M_pays
  split <;> rfl
theorem pays_com {μ μ' : Mu} {i j : Nat} {q : Int64} (h : μ'.2 = μ.2) : (M_pays μ' i j q).2 = (M_pays μ i j q).2 := by unfold M_pays; rw [h]
theorem pf_com {μ μ' : Mu} (h1 : ∀ j, com j = true → μ'.1 j = μ.1 j) (h2 : μ'.2 = μ.2) (t : Nat) (a k : Int32) : (M_paysFor μ' t a k).1 = (M_paysFor μ t a k).1 ∧ (∀ j, com j = true → (M_paysFor μ' t a k).2.1 j = (M_paysFor μ t a k).2.1 j) ∧ (M_paysFor μ' t a k).2.2 = (M_paysFor μ t a k).2.2 ∧ ((M_paysFor μ' t a k).2.1 38 0 = μ'.1 38 0) := by
  unfold M_paysFor
  rw [h1 18 rfl]
  split
  · exact ⟨rfl, h1, h2, rfl⟩
  · exact ⟨rfl, h1, pays_com h2, rfl⟩
theorem up2_com {A A' : Nat → Nat → Int32} {j i : Nat} {v : Int32} (h : ∀ j, com j = true → A' j = A j) : ∀ a, com a = true → up2 A' j i v a = up2 A j i v a := by
  intro a ha
  funext b
  rw [up2_at, up2_at, h a ha]
theorem th_com {μ : Mu} {k : Int32} : ∀ j, com j = true → (th μ k).1 j = μ.1 j := fun j hj => funext fun b => by simp [up2, (com38 hj).1]
theorem claim1 {Z : xZ} {lay : xK → Nat} {μ : Mu} {tb : Tb} {r : xK → Option xE} {t : Nat} (h25 : μ.1 25 t = -1) {q : Int32 × Mu} (hq : q = M_paysFor (up2 μ.1 29 t 1, up2 μ.2 8 (ix (μ.1 18 t)) (μ.2 8 (ix (μ.1 18 t)) - 4000)) t (μ.1 24 t) 4000) : (M_claimS (th μ 0) t).1 = q.1 ∧ cX Z lay (M_claimS (th μ 0) t).2 tb r = cX Z lay q.2 tb r ∧ (M_claimS (th μ 0) t).2.1 38 0 = 0 := by
  have e : M_claimS (th μ 0) t = M_paysFor (up2 (th μ 0).1 29 t 1, up2 (th μ 0).2 8 (ix ((th μ 0).1 18 t)) ((th μ 0).2 8 (ix ((th μ 0).1 18 t)) - 4000)) t ((th μ 0).1 24 t) 4000 := if_pos h25
  rw [e, hq]
  obtain ⟨h1, h2, h3, h4⟩ := pf_com (μ := (up2 μ.1 29 t 1, up2 μ.2 8 (ix (μ.1 18 t)) (μ.2 8 (ix (μ.1 18 t)) - 4000))) (μ' := (up2 (th μ 0).1 29 t 1, up2 (th μ 0).2 8 (ix ((th μ 0).1 18 t)) ((th μ 0).2 8 (ix ((th μ 0).1 18 t)) - 4000))) (up2_com th_com) rfl t (μ.1 24 t) 4000
  exact ⟨h1, cX_eq h2 h3, h4⟩
theorem claim2 {Z : xZ} {lay : xK → Nat} {μ : Mu} {tb : Tb} {r : xK → Option xE} {t : Nat} (h25 : ¬ μ.1 25 t = -1) {q : Int32 × Mu} (hq : q = M_paysFor (up2 μ.1 29 t 1, up2 μ.2 8 (ix (μ.1 18 t)) (μ.2 8 (ix (μ.1 18 t)) - 4000)) t (μ.1 11 (ix (μ.1 25 t))) 2000) : (M_claimS (th μ 0) t).1 = q.1 + (M_paysFor q.2 t (μ.1 12 (ix (μ.1 25 t))) 2000).1 ∧ cX Z lay (M_claimS (th μ 0) t).2 tb r = cX Z lay (M_paysFor q.2 t (μ.1 12 (ix (μ.1 25 t))) 2000).2 tb r ∧ (M_claimS (th μ 0) t).2.1 38 0 = 0 := by
  obtain ⟨q', hq'⟩ : ∃ q', q' = M_paysFor (up2 (th μ 0).1 29 t 1, up2 (th μ 0).2 8 (ix ((th μ 0).1 18 t)) ((th μ 0).2 8 (ix ((th μ 0).1 18 t)) - 4000)) t ((th μ 0).1 11 (ix ((th μ 0).1 25 t))) 2000 := ⟨_, rfl⟩
  have hf : q'.2.1 = up2 (th μ 0).1 29 t 1 := by rw [hq']; exact M_paysFor_1 _ _ _ _
  have e : M_claimS (th μ 0) t = (q'.1 + (M_paysFor q'.2 t (q'.2.1 12 (ix (q'.2.1 25 t))) 2000).1, (M_paysFor q'.2 t (q'.2.1 12 (ix (q'.2.1 25 t))) 2000).2) := by rw [hq']; exact if_neg h25
  rw [e, hf]
  obtain ⟨h1, h2, h3, h4⟩ := pf_com (μ := (up2 μ.1 29 t 1, up2 μ.2 8 (ix (μ.1 18 t)) (μ.2 8 (ix (μ.1 18 t)) - 4000))) (μ' := (up2 (th μ 0).1 29 t 1, up2 (th μ 0).2 8 (ix ((th μ 0).1 18 t)) ((th μ 0).2 8 (ix ((th μ 0).1 18 t)) - 4000))) (up2_com th_com) rfl t (μ.1 11 (ix (μ.1 25 t))) 2000
  rw [← hq] at h1 h2 h3
  obtain ⟨g1, g2, g3, g4⟩ := pf_com (μ := q.2) (μ' := q'.2) (fun j hj => by rw [hq']; exact h2 j hj) (by rw [hq']; exact h3) t (μ.1 12 (ix (μ.1 25 t))) 2000
  refine ⟨?_, cX_eq g2 g3, g4.trans (by rw [hf]; rfl)⟩
  show q'.1 + _ = _
  rw [show q'.1 = q.1 by rw [hq']; exact h1]
  exact congrArg (q.1 + ·) g1
theorem gain_m {Z : xZ} {lay : xK → Nat} {μ : Mu} {tb : Tb} {r : xK → Option xE} {w : Int32} (hw : inR w 0 2) : (M_gain μ w).2.1 38 0 = 0 ∧ cX Z lay μ tb r = cX Z lay (M_gain μ w).2 tb r := by
  have e : (M_gain μ w).2 = (M_g4 (ix (μ.1 0 0)) (ix (μ.1 0 0)) (up2 (up2 μ.1 38 0 0) 37 0 0), μ.2) := by unfold M_gain; rw [if_pos hw]
  rw [e]
  refine ⟨?_, (cX_eq (μ := μ) (μ' := (M_g4 (ix (μ.1 0 0)) (ix (μ.1 0 0)) (up2 (up2 μ.1 38 0 0) 37 0 0), μ.2)) (fun j hj => ?_) rfl).symm⟩
  · show M_g4 _ _ _ 38 0 = 0
    rw [M_g4_ne _ _ _ (by decide), up2_ne _ _ _ _ _ (by decide)]
    rfl
  · show M_g4 _ _ _ j = _
    rw [M_g4_ne _ _ _ (com38 hj).2.1, up2_ne _ _ _ _ _ (com38 hj).2.1, up2_ne _ _ _ _ _ (com38 hj).1]
