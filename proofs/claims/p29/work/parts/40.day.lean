/-! a day's steps keep all that holds -/
theorem sg_ne (μ : Mu) (t : Nat) (v : Int32) {j : Nat} (h : j ≠ 30 ∧ j ≠ 31 ∧ j ≠ 32 ∧ j ≠ 33 ∧ j ≠ 34 ∧ j ≠ 35) : (M_signs μ t v).1 j = μ.1 j := by
  obtain ⟨h0, h1, h2, h3, h4, h5⟩ := h
  unfold M_signs
  split
  · rfl
  · dsimp only
    rw [up2_ne _ _ _ _ _ h0, up2_ne _ _ _ _ _ h5, up2_ne _ _ _ _ _ h4]
    split
    · rw [up2_ne _ _ _ _ _ h3, up2_ne _ _ _ _ _ h2, up2_ne _ _ _ _ _ h1]
    · rw [up2_ne _ _ _ _ _ h2, up2_ne _ _ _ _ _ h2, up2_ne _ _ _ _ _ h1]
theorem sg_n {μ : Mu} (hI : RI μ) {t n : Nat} (v : Int32) (hS : ¬ (80000 : Int32) ≤ μ.1 30 0) (hn : μ.1 35 t = nI n) (hn2 : n < 2 ^ 30) : (∃ d, d ≤ 1 ∧ ix ((M_signs μ t v).1 35 t) = n + d ∧ ix ((M_signs μ t v).1 30 0) = ix (μ.1 30 0) + d) ∧ ∀ a, a ≠ t → (M_signs μ t v).1 35 a = μ.1 35 a := by
  obtain ⟨S, hS8, eS⟩ := hI.2.2.2.1
  unfold M_signs
  by_cases h21 : μ.1 21 t = 0
  · rw [if_pos (Or.inl h21)]
    exact ⟨⟨0, by decide, by rw [hn, ix_nI (by omega)]; rfl, rfl⟩, fun _ _ => rfl⟩
  · rw [if_neg (fun z => z.elim h21 hS)]
    refine ⟨⟨1, Nat.le_refl 1, ?_, ?_⟩, fun a ha => ?_⟩
    · dsimp only
      rw [up2_ne _ _ _ _ _ (by decide), up2_at, if_pos ⟨rfl, rfl⟩, hn, nI_1, ix_nI (by omega)]
    · dsimp only
      rw [up2_at, if_pos ⟨rfl, rfl⟩, eS, nI_1, ix_nI (by omega), ix_nI (by omega)]
    · dsimp only
      rw [up2_ne _ _ _ _ _ (by decide), up2_at, if_neg (fun z => ha z.2), up2_ne _ _ _ _ _ (by decide)]
      split
      · rw [up2_ne _ _ _ _ _ (by decide), up2_ne _ _ _ _ _ (by decide), up2_ne _ _ _ _ _ (by decide)]
      · rw [up2_ne _ _ _ _ _ (by decide), up2_ne _ _ _ _ _ (by decide), up2_ne _ _ _ _ _ (by decide)]
theorem comes_sh (μ : Mu) (t : Nat) : (μ.1 27 t = 0 ∧ (M_comes μ t).2.1 = up2 (up2 μ.1 27 t 1) 19 t (μ.1 18 t)) ∨ (M_comes μ t).2.1 = up2 μ.1 23 t 2 := by
  unfold M_comes M_pays
  split
  · next h => exact Or.inl ⟨h.1, rfl⟩
  · right
    split
    · dsimp only
      split
      · rfl
      · split <;> rfl
    · rfl
def KT_trav (μ : Mu) (tb : Tb) (t : Nat) : Tb := if ¬ μ.1 26 t - 1 ≤ 0 then tb else KT_sign μ tb t (μ.1 24 t)
theorem KT_sign_eq {μ μ' : Mu} {tb : Tb} {t : Nat} {v : Int32} (h21 : μ'.1 21 t = μ.1 21 t) (h35 : μ'.1 35 t = μ.1 35 t) : KT_sign μ' tb t v = KT_sign μ tb t v := by unfold KT_sign; rw [h21, h35]
abbrev Ar (μ : Mu) (t : Nat) : Mu := (up2 (up2 (up2 μ.1 26 t (μ.1 26 t - 1)) 23 t 0) 25 t (-1), μ.2)
theorem Ar_RI {μ : Mu} (hI : RI μ) (t : Nat) : RI (Ar μ t) := RI_up (RI_F (RI_F (A := μ.1) (J := μ.2) hI (j := 26) rfl _ _) (j := 23) rfl _ _) (ok25 (Or.inl rfl))
theorem Ar_ne {μ : Mu} {t j : Nat} (h : j ≠ 26 ∧ j ≠ 23 ∧ j ≠ 25) : (Ar μ t).1 j = μ.1 j := by
  show up2 (up2 (up2 μ.1 26 t (μ.1 26 t - 1)) 23 t 0) 25 t (-1) j = _
  rw [up2_ne _ _ _ _ _ h.2.2, up2_ne _ _ _ _ _ h.2.1, up2_ne _ _ _ _ _ h.1]
theorem Ph_congr {μ μ' : Mu} {t : Nat} (h35 : μ'.1 35 t = μ.1 35 t) (h23 : μ'.1 23 t = μ.1 23 t) (h27 : μ'.1 27 t = μ.1 27 t) : Ph μ' t = Ph μ t := by unfold Ph; rw [h35, h23, h27]
theorem BDg_travels {μ : Mu} {tb : Tb} {cl : Nat → Nat → Nat} {M : Nat} (h : BDg μ M) (hM : M ≤ 3600) (hI : RI μ) (hK : KI μ) (hH : HR μ tb cl) {t : Nat} (ht : t < nT μ) (h23 : μ.1 23 t = 1) : BDg (M_travels μ t).2 M := by
  have h8 := nP8 hI
  have h40 : t < 40 := by have := nT40 hI; omega
  have hat := hK.at ht
  obtain ⟨n, e35, -, -, -, -, -, hnx⟩ := hH.len ht
  have hn1 : n ≤ 1800 := by rw [← hnx]; exact h.h hM ht
  have hΦ := h.1 t ht
  unfold Ph at hΦ
  rw [if_pos h23, hnx] at hΦ
  unfold M_travels
  by_cases hl : ¬ μ.1 26 t - 1 ≤ 0
  · rw [if_pos hl]
    refine BDg_step h hI hK ht (show up2 μ.1 26 t (μ.1 26 t - 1) 16 = μ.1 16 from up2_ne _ _ _ _ _ (by decide)) (fun j hj => show up2 μ.1 26 t (μ.1 26 t - 1) j = μ.1 j from up2_ne _ _ _ _ _ (by omega)) (fun a ha => ?_) ?_ ?_ ?_
    · dsimp only
      rw [up2_ne _ _ _ _ _ (by decide), up2_ne _ _ _ _ _ (by decide), up2_ne _ _ _ _ _ (by decide), up2_ne _ _ _ _ _ (by decide), up2_ne _ _ _ _ _ (by decide)]
      exact ⟨rfl, rfl, rfl, rfl, rfl⟩
    · dsimp only
      rw [up2_ne _ _ _ _ _ (by decide), up2_ne _ _ _ _ _ (by decide)]
    · dsimp only
      rw [up2_ne _ _ _ _ _ (by decide)]; omega
    · have hΦ9 := h.1 t ht
      have f : ∀ j, j ≠ 26 → up2 μ.1 26 t (μ.1 26 t - 1) j = μ.1 j := fun j hj => up2_ne _ _ _ _ _ hj
      rw [Ph_congr (μ := μ) (μ' := (up2 μ.1 26 t (μ.1 26 t - 1), μ.2)) (congrFun (f 35 (by decide)) t) (congrFun (f 23 (by decide)) t) (congrFun (f 27 (by decide)) t)]
      dsimp only
      rw [f 24 (by decide), f 19 (by decide)]
      exact hΦ9
  · rw [if_neg hl]
    dsimp only
    have hS : ¬ (80000 : Int32) ≤ (Ar μ t).1 30 0 := by rw [Ar_ne (by decide)]; exact h.S hI hM
    obtain ⟨⟨d, hd, d35, d30⟩, hne⟩ := sg_n (Ar_RI hI t) (t := t) (n := n) (μ.1 24 t) hS (by rw [Ar_ne (by decide)]; exact e35) (by omega)
    obtain ⟨ν, hν⟩ : ∃ ν, ν = M_signs (Ar μ t) t (μ.1 24 t) := ⟨_, rfl⟩
    have fν : ∀ j, j ≠ 26 ∧ j ≠ 23 ∧ j ≠ 25 → j ≠ 30 ∧ j ≠ 31 ∧ j ≠ 32 ∧ j ≠ 33 ∧ j ≠ 34 ∧ j ≠ 35 → ν.1 j = μ.1 j := fun j h1 h2 => by rw [hν, sg_ne _ _ _ h2, Ar_ne h1]
    have f23 : ∀ a, ν.1 23 a = if a = t then 0 else μ.1 23 a := by
      intro a
      rw [hν, sg_ne _ _ _ (by decide)]
      show up2 (up2 (up2 μ.1 26 t (μ.1 26 t - 1)) 23 t 0) 25 t (-1) 23 a = _
      rw [up2_ne _ _ _ _ _ (by decide), up2_at]
      by_cases ha : a = t
      · rw [if_pos ⟨rfl, ha⟩, if_pos ha]
      · rw [if_neg (fun z => ha z.2), if_neg ha, up2_ne _ _ _ _ _ (by decide)]
    have f35 : ∀ a, a ≠ t → ν.1 35 a = μ.1 35 a := fun a ha => by rw [hν, hne a ha, Ar_ne (by decide)]
    rw [Ar_ne (by decide)] at d30
    rw [← hν] at d35 d30
    rw [← hν]
    have base : ∀ ν', (∀ j, j ≠ 19 ∧ j ≠ 23 ∧ j ≠ 27 → ν'.1 j = ν.1 j) → (∀ a, a ≠ t → ν'.1 19 a = ν.1 19 a ∧ ν'.1 23 a = ν.1 23 a ∧ ν'.1 27 a = ν.1 27 a) → ¬ ν'.1 23 t = 1 → ((ν'.1 27 t = μ.1 27 t ∧ ν'.1 19 t = μ.1 19 t) ∨ (μ.1 27 t = 0 ∧ ¬ ν'.1 27 t = 0)) → BDg ν' M := by
      intro ν' g1 g2 g3 g4
      refine BDg_step h hI hK ht ?_ (fun j hj => ?_) (fun a ha => ?_) ?_ ?_ ?_
      · rw [g1 16 (by decide), fν 16 (by decide) (by decide)]
      · rw [g1 j (by omega), fν j (by omega) (by omega)]
      · obtain ⟨a1, a2, a3⟩ := g2 a ha
        rw [g1 35 (by decide), f35 a ha, a2, f23 a, if_neg ha, a3, fν 27 (by decide) (by decide), g1 24 (by decide), fν 24 (by decide) (by decide), a1, fν 19 (by decide) (by decide)]
        exact ⟨rfl, rfl, rfl, rfl, rfl⟩
      · rw [g1 30 (by decide), g1 35 (by decide), d35, d30, hnx]
        omega
      · rw [g1 24 (by decide), fν 24 (by decide) (by decide)]; omega
      · have hr := rk7 μ (ν'.1 19 t) (a := μ.1 24 t) (by omega)
        unfold Ph
        rw [if_neg g3, g1 35 (by decide), d35, g1 24 (by decide), fν 24 (by decide) (by decide)]
        rcases g4 with ⟨q1, q2⟩ | ⟨q1, q2⟩
        · rw [q1, q2]; omega
        · rw [if_neg q2]; rw [if_pos q1] at hΦ; omega
    split
    · rcases comes_sh ν t with ⟨q1, q2⟩ | q2
      · rw [fν 27 (by decide) (by decide)] at q1
        refine base _ (fun j hj => ?_) (fun a ha => ?_) ?_ (Or.inr ⟨q1, ?_⟩)
        · rw [q2, up2_ne _ _ _ _ _ (by omega), up2_ne _ _ _ _ _ (by omega)]
        · rw [q2]
          refine ⟨?_, ?_, ?_⟩
          · rw [up2_at, if_neg (fun z => ha z.2), up2_ne _ _ _ _ _ (by decide)]
          · rw [up2_ne _ _ _ _ _ (by decide), up2_ne _ _ _ _ _ (by decide)]
          · rw [up2_ne _ _ _ _ _ (by decide), up2_at, if_neg (fun z => ha z.2)]
        · rw [q2, up2_ne _ _ _ _ _ (by decide), up2_ne _ _ _ _ _ (by decide), f23, if_pos rfl]; decide
        · rw [q2, up2_ne _ _ _ _ _ (by decide), up2_at, if_pos ⟨rfl, rfl⟩]; decide
      · refine base _ (fun j hj => ?_) (fun a ha => ?_) ?_ (Or.inl ⟨?_, ?_⟩)
        · rw [q2, up2_ne _ _ _ _ _ (by omega)]
        · rw [q2]
          refine ⟨?_, ?_, ?_⟩
          · rw [up2_ne _ _ _ _ _ (by decide)]
          · rw [up2_at, if_neg (fun z => ha z.2)]
          · rw [up2_ne _ _ _ _ _ (by decide)]
        · rw [q2, up2_at, if_pos ⟨rfl, rfl⟩]; decide
        · rw [q2, up2_ne _ _ _ _ _ (by decide), fν 27 (by decide) (by decide)]
        · rw [q2, up2_ne _ _ _ _ _ (by decide), fν 19 (by decide) (by decide)]
    · refine base _ (fun j hj => rfl) (fun a ha => ⟨rfl, rfl, rfl⟩) ?_ (Or.inl ⟨?_, ?_⟩)
      · rw [f23, if_pos rfl]; decide
      · rw [fν 27 (by decide) (by decide)]
      · rw [fν 19 (by decide) (by decide)]
theorem BDg_leaves {μ : Mu} {M : Nat} (h : BDg μ M) (hI : RI μ) (hK : KI μ) {t : Nat} (ht : t < nT μ) (h23 : μ.1 23 t = 0) : BDg (M_leaves μ t) M := by
  have h8 := nP8 hI
  have h40 : t < 40 := by have := nT40 hI; omega
  have hat := hK.at ht
  have hΦ := h.1 t ht
  have hin := M_nextOf_in hI (μ.1 24 t) (μ.1 19 t)
  have em : ∀ j, j ≠ 15 → (M_meas μ (μ.1 19 t)).1 j = μ.1 j := fun j hj => M_meas_ne μ (μ.1 19 t) hj
  unfold M_leaves
  split
  · exact h
  · dsimp only
    have e2 : (M_nextOf μ (μ.1 24 t) (μ.1 19 t)).2 = M_meas μ (μ.1 19 t) := rfl
    rw [e2]
    split
    · refine BDg_step h hI hK ht (em 16 (by decide)) (fun j hj => em j (by omega)) (fun a ha => ?_) ?_ ?_ ?_
      · rw [em 35 (by decide), em 23 (by decide), em 27 (by decide), em 24 (by decide), em 19 (by decide)]
        exact ⟨rfl, rfl, rfl, rfl, rfl⟩
      · rw [em 35 (by decide), em 30 (by decide)]
      · rw [em 24 (by decide)]; omega
      · unfold Ph
        rw [em 35 (by decide), em 23 (by decide), em 27 (by decide), em 24 (by decide), em 19 (by decide)]
        exact hΦ
    · next hq =>
      have hg := (hin.resolve_left hq).2
      -- the leg leads nearer
      have hnx : ∃ g, g < nG μ ∧ (M_nextOf μ (μ.1 24 t) (μ.1 19 t)).1 = nI g ∧ (M_meas μ (μ.1 19 t)).1 13 g + (M_meas μ (μ.1 19 t)).1 15 (ix (M_across (M_meas μ (μ.1 19 t)).1 g (μ.1 24 t))) = (M_meas μ (μ.1 19 t)).1 15 (ix (μ.1 24 t)) := by
        unfold M_nextOf at hq ⊢
        dsimp only at hq ⊢
        split at hq
        · next c =>
          rw [if_pos c]
          rcases nx_prop (M_meas μ (μ.1 19 t)).1 (μ.1 24 t) (ix (μ.1 10 0)) (-1) with z | ⟨g, a1, a2, a3, a4, a5⟩
          · exact absurd z hq
          · exact ⟨g, a1, a2, a5⟩
        · exact absurd rfl hq
      obtain ⟨g, hgG, hgq, hgd⟩ := hnx
      rw [hgq]
      have hG20 := nG20 hI
      obtain ⟨a1, a2, s, s1, s2, s3⟩ := Lg_of hI hK.1 g hgG
      have hbd := meas_bd hI hK.1 (μ.1 19 t)
      have hac : ix (M_across (M_meas μ (μ.1 19 t)).1 g (μ.1 24 t)) < 8 := by
        unfold M_across
        rw [em 11 (by decide), em 12 (by decide)]
        split
        · exact a2
        · exact a1
      obtain ⟨k1, b1, c1⟩ := hbd _ hac
      obtain ⟨k2, b2, c2⟩ := hbd (ix (μ.1 24 t)) (by omega)
      rw [em 13 (by decide), s3, c1, c2, nI_add] at hgd
      have hlt : k1 < k2 := by have := nI_inj (by omega) (by omega) hgd; omega
      have hrk : rk μ (M_across (M_meas μ (μ.1 19 t)).1 g (μ.1 24 t)) (μ.1 19 t) + 1 ≤ rk μ (μ.1 24 t) (μ.1 19 t) := by
        unfold rk
        refine cnt_lt (q := ix (M_across (M_meas μ (μ.1 19 t)).1 g (μ.1 24 t))) (by simp) ?_ 8 hac (fun p hp hP => ?_)
        · rw [c1, c2]; exact decide_eq_true ((nI_ltI (by omega) (by omega)).mpr hlt)
        · have := of_decide_eq_true hP
          rw [c1] at this
          rw [c2]
          exact decide_eq_true (Int32.lt_trans this ((nI_ltI (by omega) (by omega)).mpr hlt))
      obtain ⟨ν, hν⟩ : ∃ ν, ν = M_meas μ (μ.1 19 t) := ⟨_, rfl⟩
      rw [← hν] at em hrk hac ⊢
      rw [ix_nI (by omega)]
      have base : ∀ ν' : Mu, ν'.1 = up2 (up2 (up2 (up2 ν.1 23 t 1) 25 t (nI g)) 26 t (ν.1 13 g)) 24 t (M_across ν.1 g (μ.1 24 t)) → BDg ν' M := by
        intro ν' e
        have f : ∀ j, j ≠ 24 ∧ j ≠ 26 ∧ j ≠ 25 ∧ j ≠ 23 ∧ j ≠ 15 → ν'.1 j = μ.1 j := fun j hj => by rw [e, up2_ne _ _ _ _ _ hj.1, up2_ne _ _ _ _ _ hj.2.1, up2_ne _ _ _ _ _ hj.2.2.1, up2_ne _ _ _ _ _ hj.2.2.2.1, em j hj.2.2.2.2]
        have f24 : ∀ a, ν'.1 24 a = if a = t then M_across ν.1 g (μ.1 24 t) else μ.1 24 a := fun a => by
          rw [e, up2_at]
          by_cases ha : a = t
          · rw [if_pos ⟨rfl, ha⟩, if_pos ha]
          · rw [if_neg (fun z => ha z.2), if_neg ha, up2_ne _ _ _ _ _ (by decide), up2_ne _ _ _ _ _ (by decide), up2_ne _ _ _ _ _ (by decide), em 24 (by decide)]
        have f23 : ∀ a, ν'.1 23 a = if a = t then 1 else μ.1 23 a := fun a => by
          rw [e, up2_ne _ _ _ _ _ (by decide), up2_ne _ _ _ _ _ (by decide), up2_ne _ _ _ _ _ (by decide), up2_at]
          by_cases ha : a = t
          · rw [if_pos ⟨rfl, ha⟩, if_pos ha]
          · rw [if_neg (fun z => ha z.2), if_neg ha, em 23 (by decide)]
        refine BDg_step h hI hK ht (f 16 (by decide)) (fun j hj => f j (by omega)) (fun a ha => ?_) ?_ ?_ ?_
        · rw [f 35 (by decide), f23 a, if_neg ha, f 27 (by decide), f24 a, if_neg ha, f 19 (by decide)]
          exact ⟨rfl, rfl, rfl, rfl, rfl⟩
        · rw [f 35 (by decide), f 30 (by decide)]
        · rw [f24, if_pos rfl]; exact hac
        · unfold Ph at hΦ ⊢
          rw [f 35 (by decide), f23, if_pos rfl, if_pos rfl, f 27 (by decide), f24, if_pos rfl, f 19 (by decide)]
          rw [if_neg (by rw [h23]; decide)] at hΦ
          omega
      split
      · exact base _ rfl
      · exact base _ rfl
theorem nx_same {A A' : Nat → Nat → Int32} {N : Nat} (hL : Lg A N) (e : ∀ j, j = 11 ∨ j = 12 ∨ j = 13 ∨ j = 14 → A' j = A j) (e15 : ∀ p, p < 8 → A' 15 p = A 15 p) {fr : Int32} (hfr : ix fr < 8) : ∀ n fd, n ≤ N → M_nx A' fr n fd = M_nx A fr n fd
  | 0, fd, _ => rfl
  | n + 1, fd, hn => by
    have hs : M_nxs A' fr n fd = M_nxs A fr n fd := by
      obtain ⟨a, b, -⟩ := hL n (by omega)
      have hac : ix (M_across A n fr) < 8 := by
        unfold M_across
        split
        · exact b
        · exact a
      have ea : ∀ g, M_across A' g fr = M_across A g fr := fun g => by unfold M_across; rw [e 11 (by omega), e 12 (by omega)]
      unfold M_nxs
      rw [ea, ea, e 11 (by omega), e 12 (by omega), e 13 (by omega), e 14 (by omega), e15 _ hac, e15 _ hfr]
    rw [M_nx, M_nx, hs, nx_same hL e e15 hfr n _ (by omega)]
theorem nextOf_same {μ μ' : Mu} (hI : RI μ) (hL : KL μ) (e : ∀ j, j = 10 ∨ j = 11 ∨ j = 12 ∨ j = 13 ∨ j = 14 → μ'.1 j = μ.1 j) {a b : Int32} (ha : ix a < 8) : (M_nextOf μ' a b).1 = (M_nextOf μ a b).1 := by
  have h15 := meas_same hI hL e b
  have hl : Lg (M_meas μ b).1 (nG μ) := by
    have := Lg_of hI hL
    unfold Lg at *
    rw [M_meas_ne _ _ (by decide), M_meas_ne _ _ (by decide), M_meas_ne _ _ (by decide)]
    exact this
  have hx := nx_same (A := (M_meas μ b).1) (A' := (M_meas μ' b).1) hl (fun j hj => by rw [M_meas_ne _ _ (by omega), M_meas_ne _ _ (by omega)]; exact e j (by omega)) h15 ha (nG μ) (-1) (Nat.le_refl _)
  unfold M_nextOf
  dsimp only
  rw [h15 _ ha, e 10 (by omega)]
  unfold nG at hx
  rw [hx]
theorem told_same {μ μ' : Mu} (hI : RI μ) (hL : KL μ) (e0 : μ'.1 0 = μ.1 0) (e : ∀ j, j = 10 ∨ j = 11 ∨ j = 12 ∨ j = 13 ∨ j = 14 → μ'.1 j = μ.1 j) {a b : Int32} (ha : ix a < 8) : (M_told μ' a b).1 = (M_told μ a b).1 := by
  have h15 := meas_same (RI_th hI 0) (μ' := th μ' 0) hL (fun j hj => by show up2 _ _ _ _ j = up2 _ _ _ _ j; rw [up2_ne _ _ _ _ _ (by omega), up2_ne _ _ _ _ _ (by omega)]; exact e j hj) b (ix a) ha
  unfold M_told isP
  rw [e0, h15]
  split
  · rfl
  · rfl
theorem TS_same {μ μ' : Mu} {T : Tt} (hI : RI μ) (hL : KL μ) (h : TS μ T) (e0 : μ'.1 0 = μ.1 0) (e : ∀ j, j = 10 ∨ j = 11 ∨ j = 12 ∨ j = 13 ∨ j = 14 → μ'.1 j = μ.1 j) : TS μ' T := by
  intro a b ha hb
  unfold isP at ha hb
  rw [e0] at ha hb
  have h8 := nP8 hI
  have ha8 : ix a < 8 := in_ix (hI.P ha)
  rw [told_same hI hL e0 e ha8, nextOf_same hI hL e ha8]
  exact h a b ha hb
/-- all that holds between two steps of a day -/
def GI (μ : Mu) (tb : Tb) (M : Nat) : Prop := RI μ ∧ KI μ ∧ (∃ cl, HR μ tb cl) ∧ TS μ tb.1 ∧ BDg μ M
theorem GI_travels {μ : Mu} {tb : Tb} {M : Nat} (h : GI μ tb M) (hM : M ≤ 3600) {t : Nat} (ht : t < nT μ) (h23 : μ.1 23 t = 1) : GI (M_travels μ t).2 (KT_trav μ tb t) M := by
  obtain ⟨hI, hK, ⟨cl, hH⟩, hT, hB⟩ := h
  have h40 : t < 40 := by have := nT40 hI; omega
  refine ⟨RI_travels hI h40, KI_travels hK hI ht, ?_, ?_, BDg_travels hB hM hI hK hH ht h23⟩
  · unfold M_travels KT_trav
    by_cases hl : ¬ μ.1 26 t - 1 ≤ 0
    · rw [if_pos hl, if_pos hl]
      exact ⟨cl, HR_same hH (fun j hj => up2_ne _ _ _ _ _ (by omega))⟩
    · rw [if_neg hl, if_neg hl]
      have hA : HR (Ar μ t) tb cl := HR_same hH (fun j hj => Ar_ne (by omega))
      obtain ⟨cl', hc⟩ := HR_signs (Ar_RI hI t) hA (t := t) (by unfold nT; rw [Ar_ne (by decide)]; exact ht) (μ.1 24 t) (by rw [Ar_ne (by decide)]; exact hB.S hI hM) (by rw [Ar_ne (by decide)]; have := hB.h hM ht; omega)
      rw [KT_sign_eq (μ := μ) (by rw [Ar_ne (by decide)]) (by rw [Ar_ne (by decide)])] at hc
      dsimp only
      split
      · refine ⟨cl', HR_same hc (fun j hj => ?_)⟩
        rcases comes_sh (M_signs (Ar μ t) t (μ.1 24 t)) t with ⟨-, q⟩ | q
        · rw [q, up2_ne _ _ _ _ _ (by omega), up2_ne _ _ _ _ _ (by omega)]
        · rw [q, up2_ne _ _ _ _ _ (by omega)]
      · exact ⟨cl', hc⟩
  · have e1 : (KT_trav μ tb t).1 = tb.1 := by
      unfold KT_trav
      split
      · rfl
      · exact KT_sign_1 _ _ _ _
    rw [e1]
    exact TS_same hI hK.1 hT (kep_travels _ _ rfl) (fun j hj => kep_travels _ _ (by rcases hj with rfl | rfl | rfl | rfl | rfl <;> rfl))
theorem GI_leaves {μ : Mu} {tb : Tb} {M : Nat} (h : GI μ tb M) {t : Nat} (ht : t < nT μ) (h23 : μ.1 23 t = 0) : GI (M_leaves μ t) tb M := by
  obtain ⟨hI, hK, ⟨cl, hH⟩, hT, hB⟩ := h
  have h40 : t < 40 := by have := nT40 hI; omega
  refine ⟨RI_leaves hI h40, KI_leaves hK hI ht, ⟨cl, HR_same hH (fun j hj => ?_)⟩, TS_same hI hK.1 hT (kep_leaves _ _ rfl) (fun j hj => kep_leaves _ _ (by rcases hj with rfl | rfl | rfl | rfl | rfl <;> rfl)), BDg_leaves hB hI hK ht h23⟩
  have em : ∀ j, j ≠ 15 → (M_nextOf μ (μ.1 24 t) (μ.1 19 t)).2.1 j = μ.1 j := fun j hj => M_meas_ne μ (μ.1 19 t) hj
  unfold M_leaves M_pays
  split
  · rfl
  · dsimp only
    split
    · exact em j (by omega)
    · split
      · dsimp only
        rw [up2_ne _ _ _ _ _ (by omega), up2_ne _ _ _ _ _ (by omega), up2_ne _ _ _ _ _ (by omega), up2_ne _ _ _ _ _ (by omega)]
        exact em j (by omega)
      · dsimp only
        rw [up2_ne _ _ _ _ _ (by omega), up2_ne _ _ _ _ _ (by omega), up2_ne _ _ _ _ _ (by omega), up2_ne _ _ _ _ _ (by omega)]
        exact em j (by omega)
