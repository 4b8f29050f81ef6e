/-! what holds between two calls: things, money, questions -/
section CT
variable {μ : Mu} {tb : Tb} {c : Nat}
theorem cs_redirect (t b : Int32) : (∃ z, ¬ z = 0 ∧ (M_redirect μ t b).2 = th μ z) ∨ ((isT μ t ∧ isP μ b) ∧ (M_redirect μ t b).2 = (up2 (up2 μ.1 38 0 0) 19 (ix t) b, μ.2)) := by
  unfold M_redirect
  by_cases h1 : isT μ t ∧ isP μ b
  · rw [if_pos h1]
    by_cases h2 : μ.1 23 (ix t) = 0 ∧ μ.1 24 (ix t) = b
    · rw [if_pos h2]; exact Or.inl ⟨2, by decide, th_th _ _ _⟩
    · rw [if_neg h2]
      by_cases h3 : ¬ undW μ (ix t) ∨ ¬ μ.1 27 (ix t) = 0
      · rw [if_pos h3]; exact Or.inl ⟨3, by decide, th_th _ _ _⟩
      · rw [if_neg h3]; exact Or.inr ⟨h1, rfl⟩
  · rw [if_neg h1]; exact Or.inl ⟨1, by decide, rfl⟩
theorem ni_redirect (h : NI μ tb c) {t b : Int32} (hc : isT μ t ∧ isP μ b) : NI (up2 (up2 μ.1 38 0 0) 19 (ix t) b, μ.2) tb c :=
  NI_up (NI_th h 0) (ok8 (by omega) (h.1.P hc.2)) (okKp (by omega) (by rw [up2_ne μ.1 38 0 0 0 (by decide)]; exact (isP_lt h.1 hc.2).1) _) (by omega)
theorem cs_refuse (t q : Int32) : (∃ z, ¬ z = 0 ∧ (M_refuse μ t q).2 = th μ z) ∨ (isT μ t ∧ (M_refuse μ t q).2 = (up2 (up2 μ.1 38 0 0) 28 (ix t) q, μ.2)) := by
  unfold M_refuse
  by_cases h1 : isT μ t
  · rw [if_pos h1]
    by_cases h3 : ¬ undW μ (ix t) ∨ ¬ μ.1 27 (ix t) = 0
    · rw [if_pos h3]; exact Or.inl ⟨2, by decide, th_th _ _ _⟩
    · rw [if_neg h3]; exact Or.inr ⟨h1, rfl⟩
  · rw [if_neg h1]; exact Or.inl ⟨1, by decide, rfl⟩
theorem th16 : (th μ 0).1 16 = μ.1 16 := up2_ne μ.1 38 0 0 16 (by decide)
theorem ni_refuse (h : NI μ tb c) {t q : Int32} (hc : isT μ t) (hq : q = 0 ∨ q = 1) : NI (up2 (up2 μ.1 38 0 0) 28 (ix t) q, μ.2) tb c :=
  NI_up (NI_th h 0) (okb (by omega) hq) (okKt (by omega) (by rw [up2_ne μ.1 38 0 0 16 (by decide)]; exact (isT_lt h.1 hc).1) _) (by omega)
theorem cs_lose (t : Int32) : (∃ z, ¬ z = 0 ∧ (M_lose μ t).2 = th μ z) ∨ (isT μ t ∧ (M_lose μ t).2 = (up2 (up2 (up2 μ.1 38 0 0) 23 (ix t) 3) 26 (ix t) 0, μ.2)) := by
  unfold M_lose
  by_cases h1 : isT μ t
  · rw [if_pos h1]
    by_cases h3 : undW μ (ix t)
    · rw [if_pos h3]; exact Or.inr ⟨h1, rfl⟩
    · rw [if_neg h3]; exact Or.inl ⟨2, by decide, th_th _ _ _⟩
  · rw [if_neg h1]; exact Or.inl ⟨1, by decide, rfl⟩
theorem ni_lose (h : NI μ tb c) {t : Int32} (hc : isT μ t) : NI (up2 (up2 (up2 μ.1 38 0 0) 23 (ix t) 3) 26 (ix t) 0, μ.2) tb c := by
  have hi := (isT_lt h.1 hc).1
  have h0 : NI (up2 μ.1 38 0 0, μ.2) tb c := NI_th h 0
  have n1 : NI (up2 (up2 μ.1 38 0 0) 23 (ix t) 3, μ.2) tb c := by
    have f : ∀ j, j ≠ 23 → up2 (up2 μ.1 38 0 0) 23 (ix t) 3 j = up2 μ.1 38 0 0 j := fun j hj => up2_ne _ _ _ _ _ hj
    refine NI_same h0 (RI_F h0.1 rfl _ _) (KI_F h0.2.1 rfl _ _) (fun j hj => f j (by omega)) (TK_same (fun j hj => f j (by omega)) h0.2.2.2.1) (fun x _ => ?_)
    unfold Ph
    dsimp only
    rw [f 35 (by decide)]
    have e27 := congrFun (f 27 (by decide)) x
    have e23 : up2 (up2 μ.1 38 0 0) 23 (ix t) 3 23 x = if x = ix t then 3 else up2 μ.1 38 0 0 23 x := by
      rw [up2_at]
      by_cases hx : x = ix t
      · rw [if_pos ⟨rfl, hx⟩, if_pos hx]
      · rw [if_neg (fun z => hx z.2), if_neg hx]
    have a1 : (if up2 (up2 μ.1 38 0 0) 23 (ix t) 3 23 x = 1 then 1 else 0) ≤ (if up2 μ.1 38 0 0 23 x = 1 then 1 else 0) := by
      simp only [e23]
      by_cases hx : x = ix t
      · simp [hx]
      · simp [hx]
    have a2 : (if up2 (up2 μ.1 38 0 0) 23 (ix t) 3 27 x = 0 then 7 else 0) = (if up2 μ.1 38 0 0 27 x = 0 then 7 else 0) := by simp only [e27]
    omega
  refine NI_up n1 (okF rfl 0) (okKt (by omega) ?_ _) (by omega)
  rw [up2_ne _ _ _ _ _ (by decide), up2_ne μ.1 38 0 0 16 (by decide)]
  exact hi
theorem cs_sample (q : Int32) : (M_sample μ q).2 = (up2 (up2 μ.1 38 0 0) 36 0 q, μ.2) := rfl
theorem ni_sample (h : NI μ tb c) {q : Int32} (hq : q = 0 ∨ q = 1) : NI (up2 (up2 μ.1 38 0 0) 36 0 q, μ.2) tb c :=
  NI_up (NI_th h 0) (okb (by omega) hq) (okKF rfl 0 q) (by omega)
theorem cs_claim (t : Int32) : (∃ z, ¬ z = 0 ∧ (M_claim μ t).2 = th μ z) ∨ (isT μ t ∧ (M_claim μ t).2 = (M_claimS (th μ 0) (ix t)).2) := by
  unfold M_claim
  by_cases h1 : isT μ t
  · rw [if_pos h1]
    by_cases h3 : ¬ μ.1 23 (ix t) = 3 ∨ μ.1 21 (ix t) = 0 ∨ ¬ μ.1 29 (ix t) = 0
    · rw [if_pos h3]; exact Or.inl ⟨2, by decide, th_th _ _ _⟩
    · rw [if_neg h3]; exact Or.inr ⟨h1, rfl⟩
  · rw [if_neg h1]; exact Or.inl ⟨1, by decide, rfl⟩
theorem KI_pf {μ : Mu} (h : KI μ) {t : Nat} (ht : t < nT μ) {a : Int32} (ha : ix a < nP μ) (k : Int32) : KI (M_paysFor μ t a k).2 := by
  unfold M_paysFor
  split
  · exact h
  · exact KI_pays h ha (h.or ht) _
theorem NI_pf (h : NI μ tb c) {t : Nat} (ht : t < nT μ) {a : Int32} (ha : ix a < nP μ) (k : Int32) : NI (M_paysFor μ t a k).2 tb c := by
  have e : (M_paysFor μ t a k).2 = (μ.1, (M_paysFor μ t a k).2.2) := Prod.ext (M_paysFor_1 μ t a k) rfl
  have hK := KI_pf h.2.1 ht ha k
  rw [e] at hK ⊢
  exact NI_J (A := μ.1) (J := μ.2) h hK
theorem ni_claimS (h : NI μ tb c) {t : Nat} (ht : t < nT μ) : NI (M_claimS μ t).2 tb c := by
  have n1 : NI (up2 μ.1 29 t 1, μ.2) tb c := NI_up (A := μ.1) (J := μ.2) h (okb (by omega) (Or.inr rfl)) (okKt (by omega) ht _) (by omega)
  have f : ∀ j, j ≠ 29 → up2 μ.1 29 t 1 j = μ.1 j := fun j hj => up2_ne _ _ _ _ _ hj
  have n2 : NI (up2 μ.1 29 t 1, up2 μ.2 8 (ix (μ.1 18 t)) (μ.2 8 (ix (μ.1 18 t)) - 4000)) tb c := NI_J n1 (KI_J78 n1.2.1 (Or.inr rfl) (by rw [f 0 (by decide)]; exact h.2.1.or ht) _)
  have ht1 : t < nT (up2 μ.1 29 t 1, up2 μ.2 8 (ix (μ.1 18 t)) (μ.2 8 (ix (μ.1 18 t)) - 4000)) := by unfold nT; dsimp only; rw [f 16 (by decide)]; exact ht
  have hP1 : nP (up2 μ.1 29 t 1, up2 μ.2 8 (ix (μ.1 18 t)) (μ.2 8 (ix (μ.1 18 t)) - 4000)) = nP μ := by unfold nP; dsimp only; rw [f 0 (by decide)]
  unfold M_claimS
  dsimp only
  split
  · exact NI_pf n2 ht1 (by rw [hP1]; exact h.2.1.at ht) _
  · next h25 =>
    have hg : ix (μ.1 25 t) < nG μ := (h.2.1.on ht).resolve_left h25
    obtain ⟨q, hq⟩ : ∃ q, q = M_paysFor (up2 μ.1 29 t 1, up2 μ.2 8 (ix (μ.1 18 t)) (μ.2 8 (ix (μ.1 18 t)) - 4000)) t (μ.1 11 (ix (μ.1 25 t))) 2000 := ⟨_, rfl⟩
    have n3 : NI q.2 tb c := by rw [hq]; exact NI_pf n2 ht1 (by rw [hP1]; exact h.2.1.g1 hg) _
    have e1 : q.2.1 = up2 μ.1 29 t 1 := by rw [hq]; exact M_paysFor_1 _ _ _ _
    rw [← hq]
    refine NI_pf n3 ?_ ?_ _
    · unfold nT; rw [e1, f 16 (by decide)]; exact ht
    · rw [e1, f 12 (by decide), f 25 (by decide)]
      unfold nP
      rw [e1, f 0 (by decide)]
      exact h.2.1.g2 hg
theorem ni_claim (h : NI μ tb c) {t : Int32} (hc : isT μ t) : NI (M_claimS (th μ 0) (ix t)).2 tb c :=
  ni_claimS (NI_th h 0) (by unfold nT; rw [th16]; exact (isT_lt h.1 hc).1)
theorem cs_settle (f : Int32) : (∃ z, ¬ z = 0 ∧ (M_settle μ f).2 = th μ z) ∨ (inR f 1 1000 ∧ (M_settle μ f).2 = (M_st1 f 64 (0, th μ 0)).2) := by
  unfold M_settle
  by_cases h1 : inR f 1 1000
  · rw [if_pos h1]; exact Or.inr ⟨h1, rfl⟩
  · rw [if_neg h1]; exact Or.inl ⟨1, by decide, rfl⟩
theorem KI_S1 {q : Int64 × Mu} (h : KI q.2) (f : Int32) {k : Nat} (hk : k < 64) : KI (S1 f k q).2 := by
  have e : 8 * (k / 8) + k % 8 = k := by omega
  by_cases hp : k / 8 < nP q.2 ∧ k % 8 < nP q.2
  · have h1 := KI_pays h hp.1 hp.2 (q.2.2 9 k * f.toInt64)
    have h2 := KI_J9 (A := q.2.1) (J := (M_pays q.2 (k / 8) (k % 8) (q.2.2 9 k * f.toInt64)).2) h1 hp.1 hp.2 (by omega) 0
    rw [e] at h2
    exact h2
  · have hz : q.2.2 9 k = 0 := by
      have := h.2.2.2.1 (k / 8) (k % 8) (by omega) (by omega) (by omega)
      rw [e] at this
      exact this
    rw [S1_z hz]
    exact h
theorem KI_st1 {q : Int64 × Mu} (h : KI q.2) (f : Int32) : ∀ n, n ≤ 64 → KI (M_st1 f n q).2
  | 0, _ => h
  | n + 1, hn => KI_S1 (q := M_st1 f n q) (KI_st1 h f n (by omega)) f (by omega)
theorem st1_1 (f : Int32) (q : Int64 × Mu) : ∀ n, (M_st1 f n q).2.1 = q.2.1
  | 0 => rfl
  | n + 1 => (S1_1 f n (M_st1 f n q)).trans (st1_1 f q n)
theorem ni_settle (h : NI μ tb c) (f : Int32) : NI (M_st1 f 64 (0, th μ 0)).2 tb c := by
  have h0 := NI_th h 0
  have e : (M_st1 f 64 (0, th μ 0)).2 = ((th μ 0).1, (M_st1 f 64 (0, th μ 0)).2.2) := Prod.ext (st1_1 f _ 64) rfl
  have hK := KI_st1 (q := (0, th μ 0)) h0.2.1 f 64 (Nat.le_refl _)
  rw [e] at hK ⊢
  exact NI_J (A := (th μ 0).1) (J := (th μ 0).2) h0 hK
theorem cs_told (a b : Int32) : (∃ z, ¬ z = 0 ∧ (M_told μ a b).2 = th μ z) ∨ ((isP μ a ∧ isP μ b) ∧ (M_told μ a b).2 = M_meas (th μ 0) b) := by
  unfold M_told
  by_cases h1 : isP μ a ∧ isP μ b
  · rw [if_pos h1]; exact Or.inr ⟨h1, rfl⟩
  · rw [if_neg h1]; exact Or.inl ⟨1, by decide, rfl⟩
theorem cs_next (a b : Int32) : (∃ z, ¬ z = 0 ∧ (M_next μ a b).2 = th μ z) ∨ ((isP μ a ∧ isP μ b) ∧ (M_next μ a b).2 = M_meas (th μ 0) b) := by
  unfold M_next
  by_cases h1 : isP μ a ∧ isP μ b
  · rw [if_pos h1]; exact Or.inr ⟨h1, rfl⟩
  · rw [if_neg h1]; exact Or.inl ⟨1, by decide, rfl⟩
theorem ni_told (h : NI μ tb c) (b : Int32) : NI (M_meas (th μ 0) b) tb c := NI_meas (NI_th h 0) b
theorem cs_rate (k p g b : Int32) : (∃ z, (M_rate μ k p g b).2 = th μ z) := by
  unfold M_rate
  split
  · split
    · exact ⟨0, rfl⟩
    · exact ⟨2, th_th _ _ _⟩
  · exact ⟨1, rfl⟩
theorem cs_ofThing (t w : Int32) : (∃ z, (M_ofThing μ t w).2 = th μ z) := by
  unfold M_ofThing
  split
  · split
    · exact ⟨0, rfl⟩
    · split
      · exact ⟨0, rfl⟩
      · split
        · exact ⟨0, rfl⟩
        · split
          · exact ⟨0, rfl⟩
          · split
            · exact ⟨0, rfl⟩
            · split
              · exact ⟨0, rfl⟩
              · split
                · exact ⟨0, rfl⟩
                · exact ⟨2, th_th _ _ _⟩
  · exact ⟨1, rfl⟩
theorem cs_hand (t n : Int32) : (∃ z, (M_hand μ t n).2 = th μ z) := by
  unfold M_hand
  split
  · exact ⟨0, rfl⟩
  · exact ⟨1, rfl⟩
theorem cs_account (p : Int32) : (∃ z, (M_account μ p).2 = th μ z) := by
  unfold M_account
  split
  · exact ⟨0, rfl⟩
  · exact ⟨1, rfl⟩
theorem cs_till (p : Int32) : (∃ z, (M_till μ p).2 = th μ z) := by
  unfold M_till
  split
  · exact ⟨0, rfl⟩
  · exact ⟨1, rfl⟩
theorem cs_counted (a b : Int32) : (∃ z, (M_counted μ a b).2 = th μ z) := by
  unfold M_counted
  split
  · exact ⟨0, rfl⟩
  · exact ⟨1, rfl⟩
theorem cs_gain (w : Int32) : (∃ z, ¬ z = 0 ∧ (M_gain μ w).2 = th μ z) ∨ (inR w 0 2 ∧ (M_gain μ w).2 = (M_g4 (ix (μ.1 0 0)) (ix (μ.1 0 0)) (up2 (up2 μ.1 38 0 0) 37 0 0), μ.2)) := by
  unfold M_gain
  by_cases h1 : inR w 0 2
  · rw [if_pos h1]; exact Or.inr ⟨h1, rfl⟩
  · rw [if_neg h1]; exact Or.inl ⟨1, by decide, rfl⟩
theorem ni_gain (h : NI μ tb c) : NI (M_g4 (ix (μ.1 0 0)) (ix (μ.1 0 0)) (up2 (up2 μ.1 38 0 0) 37 0 0), μ.2) tb c :=
  NI_ask h (fun j h1 h2 h3 => by
    show M_g4 _ _ _ j = _
    rw [M_g4_ne _ _ _ h2, up2_ne _ _ _ _ _ h2, up2_ne _ _ _ _ _ h3]) rfl
/-! days -/
theorem KT_sign_z {μ : Mu} {tb : Tb} {t : Nat} {v : Int32} {a : Nat} (ha : a ≠ t) : (KT_sign μ tb t v).2.2 a = tb.2.2 a := by
  unfold KT_sign KT_grow
  split
  · rfl
  · split
    · rfl
    · exact if_neg ha
theorem KT_g1_z (tn : Nat) (q : Int32 × Mu) (tb : Tb) {a : Nat} : ∀ n, n ≤ a → (KT_g1 tn n q tb).2.2 a = tb.2.2 a
  | 0, _ => rfl
  | n + 1, hn => by
    have ih := KT_g1_z tn q tb (a := a) n (by omega)
    rw [KT_g1_S]
    split
    · unfold KT_trav
      split
      · exact ih
      · rw [KT_sign_z (by omega)]; exact ih
    · exact ih
theorem KT_days_z (q : Int32 × Mu) (tb : Tb) {a : Nat} (ha : nT q.2 ≤ a) : ∀ n, (KT_days n q tb).2.2 a = tb.2.2 a
  | 0 => rfl
  | n + 1 => by
    have ih := KT_days_z q tb ha n
    have e : nT (M_days n q).2 = nT q.2 := by unfold nT; rw [kep_days q (j := 16) rfl n]
    show (KT_g1 (nT (M_days n q).2) (nT (M_days n q).2) (M_days n q) (KT_days n q tb)).2.2 a = _
    rw [KT_g1_z _ _ _ _ (by rw [e]; exact ha)]
    exact ih
theorem cs_go (d : Int32) : (∃ z, ¬ z = 0 ∧ (M_go μ d).2 = th μ z) ∨ (inR d 1 200 ∧ (M_go μ d).2 = (M_days (ix d) (0, th μ 0)).2) := by
  unfold M_go
  by_cases h1 : inR d 1 200
  · rw [if_pos h1]; exact Or.inr ⟨h1, rfl⟩
  · rw [if_neg h1]; exact Or.inl ⟨1, by decide, rfl⟩
theorem LI_th {μ : Mu} {tb : Tb} {k : Nat} (h : LI μ tb k) (q : Int32) : LI (th μ q) tb k := by
  refine ⟨NI_th h.1 q, ?_⟩
  have f : ∀ j, j ≠ 38 → (th μ q).1 j = μ.1 j := fun j hj => up2_ne μ.1 38 0 q j hj
  have en : nT (th μ q) = nT μ := by unfold nT; rw [f 16 (by decide)]
  refine ⟨fun t ht => ?_, ?_⟩
  · rw [en] at ht
    have h40 := nT40 h.1.1
    rw [f 24 (by decide), f 19 (by decide), rk_same h.1.1 h.1.2.1.1 (fun j hj => f j (by omega)) _ (in_ix (h.1.1.at (by omega))), Ph_congr (μ := μ) (congrFun (f 35 (by decide)) t) (congrFun (f 23 (by decide)) t) (congrFun (f 27 (by decide)) t)]
    exact h.2.1 t ht
  · rw [f 30 (by decide), en, sumH_congr (f 35 (by decide))]
    exact h.2.2
theorem LI_go {μ : Mu} {tb : Tb} {k : Nat} (h : LI μ tb k) (hk : k < 512) (n : Nat) : LI (M_days n (0, th μ 0)).2 (KT_days n (0, th μ 0) tb) (k + 1) := by
  have h0 := LI_th h 0
  have hG := GI_days (q := (0, th μ 0)) (tb := tb) h0.gi (by omega) n
  obtain ⟨hI, hK, hH, -, hB⟩ := hG
  have en : nT (M_days n (0, th μ 0)).2 = nT (th μ 0) := by unfold nT; rw [kep_days (0, th μ 0) (j := 16) rfl n]
  refine ⟨⟨hI, hK, hH, ?_, hB.2, fun t ht => by have := hB.1 t ht; omega, fun t ht => ?_⟩, fun t ht => by have := hB.1 t ht; omega, hB.2⟩
  · rw [KT_days_1]
    exact TK_same (fun j hj => kep_days (0, th μ 0) (by rcases hj with rfl | rfl | rfl | rfl | rfl <;> rfl) n) h0.1.2.2.2.1
  · rw [en] at ht
    rw [KT_days_z (0, th μ 0) tb ht n]
    exact h0.1.2.2.2.2.2.2 t ht
end CT
