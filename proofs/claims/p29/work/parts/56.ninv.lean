/-! what holds between two calls -/
def TK (μ : Mu) (T : Tt) : Prop := ∃ T0, T = K_reckon μ T0
theorem K_d1_congr {μ μ' : Mu} (e : ∀ j, j = 10 ∨ j = 11 ∨ j = 12 ∨ j = 13 ∨ j = 14 → μ'.1 j = μ.1 j) (T : Tt) : ∀ n, K_d1 μ' n T = K_d1 μ n T
  | 0 => rfl
  | n + 1 => by
    rw [K_d1, K_d1, K_d1_congr e T n]
    unfold K_ds
    rw [e 11 (by omega), e 12 (by omega), e 13 (by omega), e 14 (by omega)]
theorem K_fl1_congr {μ μ' : Mu} (e : ∀ j, j = 10 ∨ j = 11 ∨ j = 12 ∨ j = 13 ∨ j = 14 → μ'.1 j = μ.1 j) (T : Tt) (a b : Nat) : ∀ n, K_fl1 μ' T a b n = K_fl1 μ T a b n
  | 0 => rfl
  | n + 1 => by
    rw [K_fl1, K_fl1, K_fl1_congr e T a b n]
    unfold K_fls K_leads
    rw [e 11 (by omega), e 12 (by omega), e 13 (by omega), e 14 (by omega)]
theorem K_o1_congr {μ μ' : Mu} (e : ∀ j, j = 10 ∨ j = 11 ∨ j = 12 ∨ j = 13 ∨ j = 14 → μ'.1 j = μ.1 j) (a : Nat) (T : Tt) : ∀ n, K_o1 μ' a n T = K_o1 μ a n T
  | 0 => rfl
  | n + 1 => by
    have hG : nG μ' = nG μ := by unfold nG; rw [e 10 (by omega)]
    rw [K_o1, K_o1, K_o1_congr e a T n, K_fl1_congr e, hG]
theorem K_o2_congr {μ μ' : Mu} (e : ∀ j, j = 10 ∨ j = 11 ∨ j = 12 ∨ j = 13 ∨ j = 14 → μ'.1 j = μ.1 j) (T : Tt) : ∀ n, K_o2 μ' n T = K_o2 μ n T
  | 0 => rfl
  | n + 1 => by rw [K_o2, K_o2, K_o2_congr e T n, K_o1_congr e]
theorem K_reckon_congr {μ μ' : Mu} (e : ∀ j, j = 10 ∨ j = 11 ∨ j = 12 ∨ j = 13 ∨ j = 14 → μ'.1 j = μ.1 j) (T : Tt) : K_reckon μ' T = K_reckon μ T := by
  have hG : nG μ' = nG μ := by unfold nG; rw [e 10 (by omega)]
  unfold K_reckon K_dir
  rw [K_o2_congr e, K_d1_congr e, hG]
theorem TK_same {μ μ' : Mu} {T : Tt} (e : ∀ j, j = 10 ∨ j = 11 ∨ j = 12 ∨ j = 13 ∨ j = 14 → μ'.1 j = μ.1 j) (h : TK μ T) : TK μ' T := by
  obtain ⟨T0, h0⟩ := h
  exact ⟨T0, by rw [h0, K_reckon_congr e]⟩
theorem TK.ts {μ : Mu} {T : Tt} (h : TK μ T) (hI : RI μ) (hL : KL μ) : TS μ T := by
  obtain ⟨T0, h0⟩ := h
  rw [h0]
  exact TS_reckon hI hL T0
def NI (μ : Mu) (tb : Tb) (c : Nat) : Prop := RI μ ∧ KI μ ∧ (∃ cl, HR μ tb cl) ∧ TK μ tb.1 ∧ ix (μ.1 30 0) = sumH μ (nT μ) ∧ (∀ t, t < nT μ → 2 * Ph μ t ≤ c) ∧ ∀ t, nT μ ≤ t → tb.2.2 t = 0
/-- between two calls, k calls gone by -/
def LI (μ : Mu) (tb : Tb) (k : Nat) : Prop := NI μ tb (16 + 7 * k) ∧ BDg μ (23 + 7 * k)
theorem LI.gi {μ : Mu} {tb : Tb} {k : Nat} (h : LI μ tb k) : GI μ tb (23 + 7 * k) := ⟨h.1.1, h.1.2.1, h.1.2.2.1, h.1.2.2.2.1.ts h.1.1 h.1.2.1.1, h.2⟩
theorem LI_of {μ : Mu} {tb : Tb} {k : Nat} (h : NI μ tb (16 + 7 * k)) : LI μ tb (k + 1) := by
  obtain ⟨hI, hK, hH, hT, hs, hP, hz⟩ := h
  refine ⟨⟨hI, hK, hH, hT, hs, fun t ht => by have := hP t ht; omega, hz⟩, fun t ht => ?_, hs⟩
  have h40 := nT40 hI
  have := hP t ht
  have := rk7 μ (μ.1 19 t) (a := μ.1 24 t) (in_ix (hI.at (by omega)))
  omega
theorem sumH_congr {μ μ' : Mu} (e : μ'.1 35 = μ.1 35) : ∀ n, sumH μ' n = sumH μ n
  | 0 => rfl
  | n + 1 => by rw [sumH, sumH, sumH_congr e n, e]
theorem NI_same {μ μ' : Mu} {tb : Tb} {c : Nat} (h : NI μ tb c) (hI : RI μ') (hK : KI μ') (eH : ∀ j, j = 16 ∨ j = 21 ∨ j = 30 ∨ j = 31 ∨ j = 32 ∨ j = 33 ∨ j = 34 ∨ j = 35 → μ'.1 j = μ.1 j) (eT : TK μ' tb.1) (eP : ∀ t, t < nT μ → Ph μ' t ≤ Ph μ t) : NI μ' tb c := by
  obtain ⟨-, -, ⟨cl, hH⟩, -, hs, hP, hz⟩ := h
  have en : nT μ' = nT μ := by unfold nT; rw [eH 16 (by omega)]
  refine ⟨hI, hK, ⟨cl, HR_same hH eH⟩, eT, ?_, fun t ht => ?_, fun t ht => hz t (by rw [en] at ht; exact ht)⟩
  · rw [eH 30 (by omega), hs, en, sumH_congr (eH 35 (by omega))]
  · rw [en] at ht
    have := hP t ht
    have := eP t ht
    omega
theorem RI_sameF {μ μ' : Mu} (h : RI μ) (e : ∀ j, frj j = false → μ'.1 j = μ.1 j) : RI μ' := by
  unfold RI at h ⊢
  rw [e 0 rfl, e 10 rfl, e 16 rfl, e 30 rfl, e 11 rfl, e 12 rfl, e 17 rfl, e 18 rfl, e 19 rfl, e 24 rfl, e 25 rfl, e 33 rfl, e 34 rfl]
  refine ⟨h.1, h.2.1, h.2.2.1, h.2.2.2.1, h.2.2.2.2.1, h.2.2.2.2.2.1, fun j i q => ?_⟩
  rw [e j (by
    simp only [frj, Bool.not_eq_false', Bool.or_eq_true, beq_iff_eq]
    rcases q with q | q
    · exact Or.inr q
    · exact Or.inl (Or.inr q))]
  exact h.2.2.2.2.2.2 j i q
/-- a question asked -/
theorem NI_ask {μ μ' : Mu} {tb : Tb} {c : Nat} (h : NI μ tb c) (e : ∀ j, j ≠ 15 → j ≠ 37 → j ≠ 38 → μ'.1 j = μ.1 j) (e2 : μ'.2 = μ.2) : NI μ' tb c := by
  refine NI_same h (RI_sameF h.1 fun j hj => e j ?_ ?_ ?_) (KI_same h.2.1 (fun j hj => e j ?_ ?_ ?_) e2) (fun j hj => e j (by omega) (by omega) (by omega)) (TK_same (fun j hj => e j (by omega) (by omega) (by omega)) h.2.2.2.1) (fun t _ => ?_)
  · rintro rfl; cases hj
  · rintro rfl; cases hj
  · rintro rfl; cases hj
  · rintro rfl; cases hj
  · rintro rfl; cases hj
  · rintro rfl; cases hj
  · exact Nat.le_of_eq (Ph_congr (congrFun (e 35 (by decide) (by decide) (by decide)) t) (congrFun (e 23 (by decide) (by decide) (by decide)) t) (congrFun (e 27 (by decide) (by decide) (by decide)) t))
theorem NI_th {μ : Mu} {tb : Tb} {c : Nat} (h : NI μ tb c) (k : Int32) : NI (th μ k) tb c := NI_ask h (fun j _ _ h3 => up2_ne _ _ _ _ _ h3) rfl
theorem NI_meas {μ : Mu} {tb : Tb} {c : Nat} (h : NI μ tb c) (b : Int32) : NI (M_meas μ b) tb c := NI_ask h (fun j h1 _ _ => M_meas_ne μ b h1) rfl
theorem th_th (μ : Mu) (a b : Int32) : th (th μ a) b = th μ b := by
  refine Prod.ext ?_ rfl
  funext x y
  show up2 (up2 μ.1 38 0 a) 38 0 b x y = up2 μ.1 38 0 b x y
  simp only [up2_at]
  split <;> rfl
theorem th_38 (μ : Mu) (k : Int32) : (th μ k).1 38 0 = k := by
  show up2 μ.1 38 0 k 38 0 = k
  exact if_pos ⟨rfl, rfl⟩
/-- one number told, that hands, legs and things' ways don't ask -/
theorem NI_up {A : Nat → Nat → Int32} {J : Nat → Nat → Int64} {tb : Tb} {c : Nat} (h : NI (A, J) tb c) {j i : Nat} {v : Int32} (h1 : okUp j v) (h2 : okK A j i v) (hj : j < 10 ∨ j = 19 ∨ j = 26 ∨ j = 28 ∨ j = 29 ∨ j = 36) : NI (up2 A j i v, J) tb c := by
  have f : ∀ k, ¬ (k < 10 ∨ k = 19 ∨ k = 26 ∨ k = 28 ∨ k = 29 ∨ k = 36) → up2 A j i v k = A k := fun k hk => up2_ne _ _ _ _ _ (fun z => hk (z ▸ hj))
  refine NI_same h (RI_up h.1 h1) (KI_up h.2.1 h2) (fun k hk => f k (by omega)) (TK_same (fun k hk => f k (by omega)) h.2.2.2.1) (fun t _ => ?_)
  exact Nat.le_of_eq (Ph_congr (congrFun (f 35 (by omega)) t) (congrFun (f 23 (by omega)) t) (congrFun (f 27 (by omega)) t))
/-- money alone -/
theorem NI_J {A : Nat → Nat → Int32} {J J' : Nat → Nat → Int64} {tb : Tb} {c : Nat} (h : NI (A, J) tb c) (hK : KI (A, J')) : NI (A, J') tb c :=
  NI_same (μ := (A, J)) (μ' := (A, J')) h h.1 hK (fun _ _ => rfl) (TK_same (μ := (A, J)) (μ' := (A, J')) (fun _ _ => rfl) h.2.2.2.1) (fun _ _ => Nat.le_refl _)
theorem th_J (μ : Mu) : (up2 μ.1 38 0 0, μ.2) = th μ 0 := rfl
section CS
variable {μ : Mu} {tb : Tb} {c : Nat}
theorem okp {p k : Int32} (hI : RI μ) (hp : isP μ p) (hk : isK k) : ix (3 * p + k) < 3 * nP μ := by
  rw [i3k hI hp hk]
  have := (isP_lt hI hp).1
  have := k3 hk
  omega
theorem cs_rates (p k f g : Int32) : (∃ q, ¬ q = 0 ∧ M_rates μ p k f g = th μ q) ∨ ((isP μ p ∧ isK k ∧ inR f 0 10000 ∧ inR g 0 10000) ∧ M_rates μ p k f g = (up2 (up2 (up2 μ.1 38 0 0) 1 (ix (3 * p + k)) f) 2 (ix (3 * p + k)) g, μ.2)) := by
  unfold M_rates
  by_cases h1 : isP μ p
  · rw [if_pos h1]
    by_cases h2 : isK k ∧ inR f 0 10000 ∧ inR g 0 10000
    · rw [if_pos h2]; exact Or.inr ⟨⟨h1, h2⟩, rfl⟩
    · rw [if_neg h2]; exact Or.inl ⟨2, by decide, th_th _ _ _⟩
  · rw [if_neg h1]; exact Or.inl ⟨1, by decide, rfl⟩
theorem ni_rates (h : NI μ tb c) {p k f g : Int32} (hc : isP μ p ∧ isK k ∧ inR f 0 10000 ∧ inR g 0 10000) : NI (up2 (up2 (up2 μ.1 38 0 0) 1 (ix (3 * p + k)) f) 2 (ix (3 * p + k)) g, μ.2) tb c := by
  have hi := okp h.1 hc.1 hc.2.1
  have ok : ∀ (A : Nat → Nat → Int32) (j : Nat) (v : Int32), A 0 = μ.1 0 → j = 1 ∨ j = 2 → inR v 0 10000 → okUp j v ∧ okK A j (ix (3 * p + k)) v := by
    intro A j v hA hj hv
    refine ⟨okF (by rcases hj with rfl | rfl <;> rfl) v, ?_⟩
    unfold okK
    rw [hA]
    refine ⟨⟨?_, ?_, ?_, ?_, ?_, ?_⟩, fun z => ?_, fun z => ?_, fun z => ?_, fun z => ?_, fun _ => hv, fun z => ?_, fun _ => hi, fun z => ?_, fun z => ?_⟩ <;> omega
  have h0 : NI (up2 μ.1 38 0 0, μ.2) tb c := NI_th h 0
  have o1 := ok (up2 μ.1 38 0 0) 1 f (up2_ne _ _ _ _ _ (by decide)) (Or.inl rfl) hc.2.2.1
  have n1 := NI_up h0 o1.1 o1.2 (by omega)
  have o2 := ok (up2 (up2 μ.1 38 0 0) 1 (ix (3 * p + k)) f) 2 g (by rw [up2_ne _ _ _ _ _ (by decide), up2_ne _ _ _ _ _ (by decide)]) (Or.inr rfl) hc.2.2.2
  exact NI_up n1 o2.1 o2.2 (by omega)
theorem cs_due (p k q : Int32) : (∃ z, ¬ z = 0 ∧ (M_due μ p k q).2 = th μ z) ∨ ((isP μ p ∧ isK k ∧ inR q 0 10000) ∧ (M_due μ p k q).2 = (up2 (up2 μ.1 38 0 0) 3 (ix (3 * p + k)) q, μ.2)) := by
  unfold M_due
  by_cases h1 : isP μ p
  · rw [if_pos h1]
    by_cases h2 : isK k ∧ inR q 0 10000
    · rw [if_pos h2]; exact Or.inr ⟨⟨h1, h2⟩, rfl⟩
    · rw [if_neg h2]; exact Or.inl ⟨2, by decide, th_th _ _ _⟩
  · rw [if_neg h1]; exact Or.inl ⟨1, by decide, rfl⟩
theorem ni_due (h : NI μ tb c) {p k q : Int32} (hc : isP μ p ∧ isK k ∧ inR q 0 10000) : NI (up2 (up2 μ.1 38 0 0) 3 (ix (3 * p + k)) q, μ.2) tb c := by
  have hi := okp h.1 hc.1 hc.2.1
  refine NI_up (NI_th h 0) (okF rfl q) ?_ (by omega)
  unfold okK
  rw [show up2 μ.1 38 0 0 0 = μ.1 0 from up2_ne _ _ _ _ _ (by decide)]
  refine ⟨⟨?_, ?_, ?_, ?_, ?_, ?_⟩, fun z => ?_, fun z => ?_, fun z => ?_, fun z => ?_, fun z => ?_, fun z => ?_, fun _ => hi, fun z => ?_, fun z => ?_⟩ <;> omega
theorem ni_p (h : NI μ tb c) {j : Nat} (hj : j = 4 ∨ j = 5 ∨ j = 6) {p v : Int32} (hp : isP μ p) (hv : okUp j v) (h5 : j = 5 → ¬ v < 0) : NI (up2 (up2 μ.1 38 0 0) j (ix p) v, μ.2) tb c := by
  have hi := (isP_lt h.1 hp).1
  refine NI_up (NI_th h 0) hv ?_ (by omega)
  unfold okK
  rw [show up2 μ.1 38 0 0 0 = μ.1 0 from up2_ne _ _ _ _ _ (by decide)]
  refine ⟨⟨?_, ?_, ?_, ?_, ?_, ?_⟩, fun z => ?_, fun z => ?_, fun z => ?_, h5, fun z => ?_, fun _ => hi, fun z => ?_, fun z => ?_, fun z => ?_⟩ <;> omega
theorem cs_charge (p q : Int32) : (∃ z, ¬ z = 0 ∧ (M_charge μ p q).2 = th μ z) ∨ ((isP μ p ∧ inR q 0 1000) ∧ (M_charge μ p q).2 = (up2 (up2 μ.1 38 0 0) 4 (ix p) q, μ.2)) := by
  unfold M_charge
  by_cases h1 : isP μ p
  · rw [if_pos h1]
    by_cases h2 : inR q 0 1000
    · rw [if_pos h2]; exact Or.inr ⟨⟨h1, h2⟩, rfl⟩
    · rw [if_neg h2]; exact Or.inl ⟨2, by decide, th_th _ _ _⟩
  · rw [if_neg h1]; exact Or.inl ⟨1, by decide, rfl⟩
theorem cs_coupon (p q : Int32) : (∃ z, ¬ z = 0 ∧ (M_coupon μ p q).2 = th μ z) ∨ ((isP μ p ∧ inR q 0 10000) ∧ (M_coupon μ p q).2 = (up2 (up2 μ.1 38 0 0) 5 (ix p) q, μ.2)) := by
  unfold M_coupon
  by_cases h1 : isP μ p
  · rw [if_pos h1]
    by_cases h2 : inR q 0 10000
    · rw [if_pos h2]; exact Or.inr ⟨⟨h1, h2⟩, rfl⟩
    · rw [if_neg h2]; exact Or.inl ⟨2, by decide, th_th _ _ _⟩
  · rw [if_neg h1]; exact Or.inl ⟨1, by decide, rfl⟩
theorem cs_strike (p q : Int32) : (∃ z, ¬ z = 0 ∧ (M_strike μ p q).2 = th μ z) ∨ (isP μ p ∧ (M_strike μ p q).2 = (up2 (up2 μ.1 38 0 0) 6 (ix p) q, μ.2)) := by
  unfold M_strike
  by_cases h1 : isP μ p
  · rw [if_pos h1]; exact Or.inr ⟨h1, rfl⟩
  · rw [if_neg h1]; exact Or.inl ⟨1, by decide, rfl⟩
theorem cs_post : (∃ z, ¬ z = 0 ∧ (M_post μ).2 = th μ z) ∨ (¬ 8 ≤ μ.1 0 0 ∧ (M_post μ).2 = (up2 (up2 μ.1 38 0 0) 0 0 (μ.1 0 0 + 1), μ.2)) := by
  unfold M_post
  by_cases h1 : 8 ≤ μ.1 0 0
  · rw [if_pos h1]; exact Or.inl ⟨1, by decide, rfl⟩
  · rw [if_neg h1]; exact Or.inr ⟨h1, rfl⟩
theorem ni_post (h : NI μ tb c) (hc : ¬ 8 ≤ μ.1 0 0) : NI (up2 (up2 μ.1 38 0 0) 0 0 (μ.1 0 0 + 1), μ.2) tb c := by
  have hI := h.1
  obtain ⟨P, hP, eP⟩ := hI.1
  have hP8 : P < 8 := by rw [eP, n8] at hc; exact (nI_nle_iff (by decide) (by omega)).mp hc
  have hnP := nP_of hP eP
  have e1 : μ.1 0 0 + 1 = nI (P + 1) := by rw [eP, nI_1]
  have f : ∀ j, j ≠ 0 → j ≠ 38 → up2 (up2 μ.1 38 0 0) 0 0 (μ.1 0 0 + 1) j = μ.1 j := fun j h1 h2 => by rw [up2_ne _ _ _ _ _ h1, up2_ne _ _ _ _ _ h2]
  have hnP' : nP (up2 (up2 μ.1 38 0 0) 0 0 (μ.1 0 0 + 1), μ.2) = nP μ + 1 := by
    show ix (up2 (up2 μ.1 38 0 0) 0 0 (μ.1 0 0 + 1) 0 0) = _
    rw [up2_at, if_pos ⟨rfl, rfl⟩, e1, ix_nI (by omega), hnP]
  refine NI_same h ?_ ?_ (fun j hj => f j (by omega) (by omega)) (TK_same (fun j hj => f j (by omega) (by omega)) h.2.2.2.1) (fun t _ => ?_)
  · rw [e1]
    exact RI_up (RI_th hI 0) (okC (M := 8) (Or.inl ⟨rfl, rfl⟩) (by omega))
  · obtain ⟨hL, hT, hM, hC, hZ⟩ := h.2.1
    unfold KI KL KT KM KC KZ
    rw [hnP']
    unfold nG nT
    dsimp only
    rw [f 10 (by decide) (by decide), f 16 (by decide) (by decide), f 11 (by decide) (by decide), f 12 (by decide) (by decide), f 13 (by decide) (by decide), f 18 (by decide) (by decide), f 19 (by decide) (by decide), f 24 (by decide) (by decide), f 25 (by decide) (by decide), f 20 (by decide) (by decide), f 5 (by decide) (by decide), f 1 (by decide) (by decide), f 2 (by decide) (by decide), f 4 (by decide) (by decide), f 6 (by decide) (by decide), f 3 (by decide) (by decide), f 14 (by decide) (by decide), f 26 (by decide) (by decide), f 27 (by decide) (by decide), f 28 (by decide) (by decide), f 29 (by decide) (by decide), f 35 (by decide) (by decide)]
    refine ⟨fun g hg => ?_, fun t ht => ?_, hM, fun a b ha hb hab => hC a b ha hb (by omega), fun i hi => hZ.1 i (by omega), hZ.2⟩
    · have := hL g hg
      exact ⟨by omega, by omega, this.2.2⟩
    · have := hT t ht
      exact ⟨⟨by omega, by omega, by omega⟩, this.2⟩
  · exact Nat.le_of_eq (Ph_congr (congrFun (f 35 (by decide) (by decide)) t) (congrFun (f 23 (by decide) (by decide)) t) (congrFun (f 27 (by decide) (by decide)) t))
theorem cs_leg (a b d : Int32) : (∃ z, ¬ z = 0 ∧ (M_leg μ a b d).2 = th μ z) ∨ ((isP μ a ∧ isP μ b ∧ inR d 1 100 ∧ ¬ μ.1 10 0 = 20) ∧ (M_leg μ a b d).2 = (up2 (up2 (up2 (up2 (up2 μ.1 38 0 0) 11 (ix (μ.1 10 0)) a) 12 (ix (μ.1 10 0)) b) 13 (ix (μ.1 10 0)) d) 10 0 (μ.1 10 0 + 1), μ.2)) := by
  unfold M_leg
  by_cases h1 : isP μ a ∧ isP μ b
  · rw [if_pos h1]
    by_cases h2 : a = b ∨ ¬ inR d 1 100
    · rw [if_pos h2]; exact Or.inl ⟨2, by decide, th_th _ _ _⟩
    · rw [if_neg h2]
      by_cases h3 : μ.1 10 0 = 20
      · rw [if_pos h3]; exact Or.inl ⟨3, by decide, th_th _ _ _⟩
      · rw [if_neg h3]; exact Or.inr ⟨⟨h1.1, h1.2, Decidable.not_not.mp (fun z => h2 (Or.inr z)), h3⟩, rfl⟩
  · rw [if_neg h1]; exact Or.inl ⟨1, by decide, rfl⟩
theorem ni_leg (h : NI μ tb c) {a b d : Int32} (hc : isP μ a ∧ isP μ b ∧ inR d 1 100 ∧ ¬ μ.1 10 0 = 20) (T0 : Tt) : NI (up2 (up2 (up2 (up2 (up2 μ.1 38 0 0) 11 (ix (μ.1 10 0)) a) 12 (ix (μ.1 10 0)) b) 13 (ix (μ.1 10 0)) d) 10 0 (μ.1 10 0 + 1), μ.2) (K_reckon (up2 (up2 (up2 (up2 μ.1 11 (ix (μ.1 10 0)) a) 12 (ix (μ.1 10 0)) b) 13 (ix (μ.1 10 0)) d) 10 0 (μ.1 10 0 + 1), μ.2) T0, tb.2) c := by
  have hI := h.1
  have hK := h.2.1
  obtain ⟨G, hG, eG⟩ := hI.2.1
  have hG20 : G < 20 := by
    rcases Nat.lt_or_ge G 20 with q | q
    · exact q
    · exact absurd (by rw [eG, show G = 20 by omega]; decide) hc.2.2.2
  have hnG := nG_of hG eG
  have hxG : ix (μ.1 10 0) = G := hnG
  rw [hxG]
  have e1 : μ.1 10 0 + 1 = nI (G + 1) := by rw [eG, nI_1]
  obtain ⟨A, hA⟩ : ∃ A, A = up2 (up2 (up2 (up2 μ.1 11 G a) 12 G b) 13 G d) 10 0 (μ.1 10 0 + 1) := ⟨_, rfl⟩
  obtain ⟨B, hB⟩ : ∃ B, B = up2 (up2 (up2 (up2 (up2 μ.1 38 0 0) 11 G a) 12 G b) 13 G d) 10 0 (μ.1 10 0 + 1) := ⟨_, rfl⟩
  rw [← hA, ← hB]
  have hBA : ∀ j, j ≠ 38 → B j = A j := by
    intro j hj
    rw [hA, hB]
    have u : ∀ {X X' : Nat → Nat → Int32} {q i : Nat} {v : Int32}, (∀ j, j ≠ 38 → X' j = X j) → ∀ j, j ≠ 38 → up2 X' q i v j = up2 X q i v j := fun hX j hj => by funext y; rw [up2_at, up2_at, hX j hj]
    exact u (u (u (u (fun j hj => up2_ne _ _ _ _ _ hj)))) j hj
  have f : ∀ j, j ≠ 38 → ¬ (10 ≤ j ∧ j ≤ 13) → B j = μ.1 j := fun j h1 h2 => by rw [hBA j h1, hA, up2_ne _ _ _ _ _ (by omega), up2_ne _ _ _ _ _ (by omega), up2_ne _ _ _ _ _ (by omega), up2_ne _ _ _ _ _ (by omega)]
  have hRA : RI (A, μ.2) := by rw [hA]; exact RI_leg hI hG20 eG (hI.P hc.1) (hI.P hc.2.1)
  have hLA : KL (A, μ.2) := by rw [hA]; exact KL_leg hK.1 hG20 eG (isP_lt hI hc.1).1 (isP_lt hI hc.2.1).1 hc.2.2.1
  have hLB : KL (B, μ.2) := by
    have hL2 := hLA
    unfold KL nG nP at hL2 ⊢
    dsimp only at hL2 ⊢
    rw [hBA 10 (by decide), hBA 11 (by decide), hBA 12 (by decide), hBA 13 (by decide), hBA 0 (by decide)]
    exact hL2
  have hRB : RI (B, μ.2) := RI_sameF hRA (fun j hj => hBA j (by rintro rfl; cases hj))
  have hnG' : nG (B, μ.2) = G + 1 := by
    show ix (B 10 0) = G + 1
    rw [hBA 10 (by decide), hA, up2_at, if_pos ⟨rfl, rfl⟩, e1, ix_nI (by omega)]
  obtain ⟨-, -, ⟨cl, hH⟩, -, hs, hPh, hz⟩ := h
  have en : nT (B, μ.2) = nT μ := by unfold nT; dsimp only; rw [f 16 (by decide) (by omega)]
  refine ⟨hRB, ?_, ⟨cl, ?_⟩, ⟨T0, ?_⟩, ?_, fun t ht => ?_, fun t ht => hz t (by rw [en] at ht; exact ht)⟩
  · obtain ⟨hL, hT, hM, hC, hZ⟩ := hK
    refine ⟨hLB, ?_⟩
    unfold KT KM KC KZ
    rw [hnG']
    unfold nP nT
    dsimp only
    rw [f 0 (by decide) (by omega), f 16 (by decide) (by omega), f 18 (by decide) (by omega), f 19 (by decide) (by omega), f 24 (by decide) (by omega), f 25 (by decide) (by omega), f 20 (by decide) (by omega), f 5 (by decide) (by omega), f 1 (by decide) (by omega), f 2 (by decide) (by omega), f 4 (by decide) (by omega), f 6 (by decide) (by omega), f 3 (by decide) (by omega), f 14 (by decide) (by omega), f 26 (by decide) (by omega), f 27 (by decide) (by omega), f 28 (by decide) (by omega), f 29 (by decide) (by omega), f 35 (by decide) (by omega)]
    refine ⟨fun t ht => ?_, hM, hC, hZ.1, fun g hg => hZ.2.1 g (by omega), hZ.2.2⟩
    have := hT t ht
    rw [hnG] at this
    exact ⟨this.1, this.2.1.imp id (fun z => by omega), this.2.2⟩
  · have h2 : HR (B, μ.2) tb cl := HR_same hH (fun j hj => f j (by omega) (by omega))
    exact h2
  · exact (K_reckon_congr (μ := (B, μ.2)) (μ' := (A, μ.2)) (fun j hj => (hBA j (by omega)).symm) T0)
  · rw [en]
    show ix (B 30 0) = _
    rw [f 30 (by decide) (by omega), hs]
    exact (sumH_congr (μ := μ) (μ' := (B, μ.2)) (f 35 (by decide) (by omega)) _).symm
  · rw [en] at ht
    have := hPh t ht
    rw [Ph_congr (μ := μ) (μ' := (B, μ.2)) (congrFun (f 35 (by decide) (by omega)) t) (congrFun (f 23 (by decide) (by omega)) t) (congrFun (f 27 (by decide) (by omega)) t)]
    exact this
theorem cs_close (g q : Int32) : (∃ z, ¬ z = 0 ∧ (M_close μ g q).2 = th μ z) ∨ (inR g 0 (μ.1 10 0 - 1) ∧ (M_close μ g q).2 = (up2 (up2 μ.1 38 0 0) 14 (ix g) q, μ.2)) := by
  unfold M_close
  by_cases h1 : inR g 0 (μ.1 10 0 - 1)
  · rw [if_pos h1]; exact Or.inr ⟨h1, rfl⟩
  · rw [if_neg h1]; exact Or.inl ⟨1, by decide, rfl⟩
theorem ni_close (h : NI μ tb c) {g q : Int32} (hc : inR g 0 (μ.1 10 0 - 1)) (hq : q = 0 ∨ q = 1) : NI (up2 (up2 μ.1 38 0 0) 14 (ix g) q, μ.2) (if μ.1 14 (ix g) = q then tb.1 else K_reckon (up2 μ.1 14 (ix g) q, μ.2) tb.1, tb.2) c := by
  have hI := h.1
  have hg := (in_leg hI (leg_out hI hc).1 (leg_out hI hc).2).1
  have h0 : NI (up2 μ.1 38 0 0, μ.2) tb c := NI_th h 0
  have f : ∀ j, j ≠ 14 → up2 (up2 μ.1 38 0 0) 14 (ix g) q j = up2 μ.1 38 0 0 j := fun j hj => up2_ne _ _ _ _ _ hj
  have hR : RI (up2 (up2 μ.1 38 0 0) 14 (ix g) q, μ.2) := RI_up h0.1 (okb (by omega) hq)
  have hK : KI (up2 (up2 μ.1 38 0 0) 14 (ix g) q, μ.2) := by
    refine KI_up h0.2.1 ?_
    unfold okK
    rw [show up2 μ.1 38 0 0 10 = μ.1 10 from up2_ne _ _ _ _ _ (by decide)]
    refine ⟨⟨?_, ?_, ?_, ?_, ?_, ?_⟩, fun z => ?_, fun z => ?_, fun z => ?_, fun z => ?_, fun z => ?_, fun z => ?_, fun z => ?_, fun _ => hg, fun z => ?_⟩ <;> omega
  have hT : TK (up2 (up2 μ.1 38 0 0) 14 (ix g) q, μ.2) (if μ.1 14 (ix g) = q then tb.1 else K_reckon (up2 μ.1 14 (ix g) q, μ.2) tb.1) := by
    by_cases e : μ.1 14 (ix g) = q
    · rw [if_pos e]
      refine TK_same (fun j hj => ?_) h.2.2.2.1
      by_cases hj14 : j = 14
      · subst hj14
        funext y
        show up2 (up2 μ.1 38 0 0) 14 (ix g) q 14 y = μ.1 14 y
        rw [up2_at]
        split
        · next z => rw [z.2, e]
        · rw [up2_ne _ _ _ _ _ (by decide)]
      · show up2 (up2 μ.1 38 0 0) 14 (ix g) q j = μ.1 j
        rw [f j hj14, up2_ne _ _ _ _ _ (by omega)]
    · rw [if_neg e]
      refine ⟨tb.1, K_reckon_congr (fun j hj => ?_) _⟩
      funext y
      show up2 μ.1 14 (ix g) q j y = up2 (up2 μ.1 38 0 0) 14 (ix g) q j y
      rw [up2_at, up2_at, up2_ne μ.1 38 0 0 j (by omega)]
  obtain ⟨-, -, ⟨cl, hH⟩, -, hs, hPh, hz⟩ := h0
  refine ⟨hR, hK, ⟨cl, ?_⟩, hT, ?_, fun t ht => ?_, fun t ht => hz t ht⟩
  · exact HR_same (μ := (up2 μ.1 38 0 0, μ.2)) hH (fun j hj => f j (by omega))
  · show ix (up2 (up2 μ.1 38 0 0) 14 (ix g) q 30 0) = _
    rw [f 30 (by decide)]
    exact hs.trans (sumH_congr (μ := (up2 μ.1 38 0 0, μ.2)) (μ' := (up2 (up2 μ.1 38 0 0) 14 (ix g) q, μ.2)) (f 35 (by decide)) _).symm
  · have := hPh t ht
    rw [Ph_congr (μ := (up2 μ.1 38 0 0, μ.2)) (μ' := (up2 (up2 μ.1 38 0 0) 14 (ix g) q, μ.2)) (congrFun (f 35 (by decide)) t) (congrFun (f 23 (by decide)) t) (congrFun (f 27 (by decide)) t)]
    exact this
end CS
