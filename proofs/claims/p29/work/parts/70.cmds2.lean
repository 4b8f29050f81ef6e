/-! claims, days, settling, mail -/
section CN
variable {μ : Mu} {tb : Tb} {k : Nat}
theorem pf_7 {t n : Nat} {a c : Int32} (ha : ix a < n) (hb : ix (μ.1 18 t) < n) : sm ((M_paysFor μ t a c).2.2 7) n = sm (μ.2 7) n := by
  unfold M_paysFor
  split
  · rfl
  · exact sm_pays ha hb _
theorem pf_8 {t : Nat} {a c : Int32} : (M_paysFor μ t a c).2.2 8 = μ.2 8 := by
  unfold M_paysFor
  split
  · rfl
  · exact pays_8 (by decide)
theorem pf_1 {t : Nat} {a c : Int32} : (M_paysFor μ t a c).1 = 0 ∨ (M_paysFor μ t a c).1 = c := by
  unfold M_paysFor
  split
  · exact Or.inl rfl
  · exact Or.inr rfl
theorem claimS_view (hI : RI μ) (hK : KI μ) {t : Nat} (ht : t < nT μ) : (M_claimS μ t).2.1 = up2 μ.1 29 t 1 ∧ ((M_claimS μ t).1 = 0 ∨ (M_claimS μ t).1 = 2000 ∨ (M_claimS μ t).1 = 4000) ∧ sm ((M_claimS μ t).2.2 7) (nP μ) = sm (μ.2 7) (nP μ) ∧ (M_claimS μ t).2.2 8 = up2 μ.2 8 (ix (μ.1 18 t)) (μ.2 8 (ix (μ.1 18 t)) - 4000) 8 := by
  obtain ⟨μ1, hμ1⟩ : ∃ μ1 : Mu, μ1 = (up2 μ.1 29 t 1, up2 μ.2 8 (ix (μ.1 18 t)) (μ.2 8 (ix (μ.1 18 t)) - 4000)) := ⟨_, rfl⟩
  have f : ∀ j, j ≠ 29 → μ1.1 j = μ.1 j := fun j hj => by rw [hμ1]; exact up2_ne _ _ _ _ _ hj
  have f7 : μ1.2 7 = μ.2 7 := by rw [hμ1]; dsimp only; exact up2_ne _ _ _ _ _ (by decide)
  have e1 : μ1.1 = up2 μ.1 29 t 1 := by rw [hμ1]
  have e8 : μ1.2 8 = up2 μ.2 8 (ix (μ.1 18 t)) (μ.2 8 (ix (μ.1 18 t)) - 4000) 8 := by rw [hμ1]
  have hor := hK.or ht
  have e18 : μ1.1 18 = μ.1 18 := f 18 (by decide)
  have hor1 : ix (μ1.1 18 t) < nP μ := by rw [e18]; exact hor
  unfold M_claimS
  rw [← hμ1]
  dsimp only
  by_cases h25 : μ.1 25 t = -1
  · rw [if_pos h25]
    refine ⟨by rw [M_paysFor_1, e1], ?_, by rw [pf_7 (hK.at ht) hor1, f7], by rw [pf_8, e8]⟩
    rcases pf_1 (μ := μ1) (t := t) (a := μ.1 24 t) (c := 4000) with z | z
    · exact Or.inl z
    · exact Or.inr (Or.inr z)
  · rw [if_neg h25]
    have hg := (hK.on ht).resolve_left h25
    obtain ⟨q1, hq1⟩ : ∃ q1, q1 = M_paysFor μ1 t (μ.1 11 (ix (μ.1 25 t))) 2000 := ⟨_, rfl⟩
    rw [← hq1]
    have g1 : q1.2.1 = μ1.1 := by rw [hq1, M_paysFor_1]
    have g18 : q1.2.1 18 = μ.1 18 := by rw [g1, e18]
    have g25 : q1.2.1 25 = μ.1 25 := by rw [g1, f 25 (by decide)]
    have g12 : q1.2.1 12 = μ.1 12 := by rw [g1, f 12 (by decide)]
    refine ⟨by rw [M_paysFor_1, g1, e1], ?_, ?_, by rw [pf_8, hq1, pf_8, e8]⟩
    · have z1 : q1.1 = 0 ∨ q1.1 = 2000 := by rw [hq1]; exact pf_1
      rcases z1 with z | z <;> rcases pf_1 (μ := q1.2) (t := t) (a := q1.2.1 12 (ix (q1.2.1 25 t))) (c := 2000) with y | y <;> rw [z, y]
      · exact Or.inl rfl
      · exact Or.inr (Or.inl rfl)
      · exact Or.inr (Or.inl rfl)
      · exact Or.inr (Or.inr rfl)
    · rw [pf_7 (by rw [g12, g25]; exact hK.g2 hg) (by rw [g18]; exact hor), hq1, pf_7 (hK.g1 hg) hor1, f7]
theorem sm_set8 {f : Nat → Nat → Int64} {a n : Nat} {v : Int64} (ha : a < n) : sm (up2 f 8 a v 8) n = sm (f 8) n + (v - f 8 a) := by
  have := sm_upd (f := f 8) (g := up2 f 8 a v 8) (a := a) (fun i hi => by rw [up2_at, if_neg (fun z => hi z.2)]) n
  rw [this, if_pos ha, up2_at, if_pos ⟨rfl, rfl⟩]
theorem cm_claim (h : LJ μ tb k) (hk : k < 500) {t : Nat} (ht : t < nT μ) (h23 : μ.1 23 t = 3) (h21 : ¬ μ.1 21 t = 0) (h29 : μ.1 29 t = 0) : M_claim μ (nI t) = M_claimS μ t ∧ LJ (M_claimS μ t).2 tb (k + 1) ∧ sm ((M_claimS μ t).2.2 8) (nP μ) = sm (μ.2 8) (nP μ) - 4000 := by
  have g1 := isT_n h.I ht
  have hN := ni_claimS h.1.1 ht
  obtain ⟨v1, v2, v3, v4⟩ := claimS_view h.I h.K ht
  have f : ∀ j, j ≠ 29 → (M_claimS μ t).2.1 j = μ.1 j := fun j hj => by rw [v1]; exact up2_ne _ _ _ _ _ hj
  refine ⟨?_, LJ_mk hN ((congrFun (f 38 (by decide)) 0).trans h.z) (TPs h.2.2.1 (fun a ha => f a (by omega)) rfl) (JV_same h.2.2.2.1 (fun a ha => f a (by omega))) (fun p => ?_), ?_⟩
  · unfold M_claim
    rw [if_pos g1.1, g1.2, if_neg (fun z => z.elim (fun z => z h23) (fun z => z.elim (fun z => h21 z) (fun z => z h29))), h.t0]
  · obtain ⟨b1, b2⟩ := h.2.2.2.2 p
    rw [v4, up2_at]
    by_cases hp : p = ix (μ.1 18 t)
    · have e4 : (4000 : Int64).toInt = 4000 := by decide
      rw [if_pos ⟨rfl, hp⟩, ← hp, i64_sub (by rw [e4]; omega) (by rw [e4]; omega), e4]
      omega
    · rw [if_neg (fun z => hp z.2)]
      omega
  · rw [v4, sm_set8 (h.K.or ht)]
    grind
theorem trav_35 {M : Nat} (hG : GI μ tb M) (hM : M ≤ 3600) {t : Nat} (ht : t < nT μ) : (∀ a, a ≠ t → (M_travels μ t).2.1 35 a = μ.1 35 a) ∧ ix ((M_travels μ t).2.1 35 t) ≤ ix (μ.1 35 t) + 1 := by
  obtain ⟨hI, hK, ⟨cl, hH⟩, -, hB⟩ := hG
  by_cases hl : ¬ μ.1 26 t - 1 ≤ 0
  · rw [trav_0 hl]
    dsimp only
    rw [up2_ne _ _ _ _ _ (by decide)]
    exact ⟨fun _ _ => rfl, by omega⟩
  · have hl' : μ.1 26 t - 1 ≤ 0 := Classical.not_not.mp hl
    obtain ⟨ν, hν⟩ : ∃ ν, ν = M_signs (Ar μ t) t (μ.1 24 t) := ⟨_, rfl⟩
    rw [trav_1 hl' hν]
    obtain ⟨n, e35, n1, n2, n3, n4, n5, n6⟩ := hH.len ht
    have hS : ¬ (80000 : Int32) ≤ (Ar μ t).1 30 0 := by rw [Ar_ne (by decide)]; exact hB.S hI hM
    obtain ⟨⟨d, hd, d35, -⟩, hne⟩ := sg_n (Ar_RI hI t) (t := t) (n := n) (μ.1 24 t) hS (by rw [Ar_ne (by decide)]; exact e35) (by omega)
    rw [← hν] at d35 hne
    have base : (∀ a, a ≠ t → ν.1 35 a = μ.1 35 a) ∧ ix (ν.1 35 t) ≤ ix (μ.1 35 t) + 1 := ⟨fun a ha => by rw [hne a ha, Ar_ne (by decide)], by rw [d35, n6]; omega⟩
    split
    · rcases comes_sh ν t with ⟨-, q2⟩ | q2
      · rw [q2, up2_ne _ _ _ _ _ (by decide), up2_ne _ _ _ _ _ (by decide)]; exact base
      · rw [q2, up2_ne _ _ _ _ _ (by decide)]; exact base
    · exact base
theorem g1_35 {q : Int32 × Mu} {M : Nat} (hG : GI q.2 tb M) (hM : M ≤ 3600) : ∀ n, n ≤ nT q.2 → ∀ a, ix ((M_g1 (nT q.2) n q).2.1 35 a) ≤ ix (q.2.1 35 a) + (if a < n then 1 else 0)
  | 0, _, a => by rw [if_neg (Nat.not_lt_zero a)]; exact Nat.le_refl _
  | n + 1, hn, a => by
    have ih := g1_35 hG hM n (by omega) a
    have hg := GI_g1 hG hM (nT q.2) n (by omega)
    rw [M_g1_S]
    by_cases hc : (M_g1 (nT q.2) n q).2.1 23 n = 1
    · rw [if_pos hc]
      obtain ⟨h1, h2⟩ := trav_35 hg hM (t := n) (by rw [g1_T]; omega)
      by_cases ha : a = n
      · subst ha
        rw [if_neg (Nat.lt_irrefl _)] at ih
        rw [if_pos (by omega)]
        dsimp only
        omega
      · rw [h1 a ha]
        split at ih
        · rw [if_pos (by omega)]; exact ih
        · rw [if_neg (by omega)]; exact ih
    · rw [if_neg hc]
      refine Nat.le_trans ih ?_
      split
      · rw [if_pos (by omega)]; exact Nat.le_refl _
      · omega
theorem leav_35 (t : Nat) : (M_leaves μ t).1 35 = μ.1 35 := by
  have em : ∀ j, j ≠ 15 → (M_meas μ (μ.1 19 t)).1 j = μ.1 j := fun j hj => M_meas_ne μ (μ.1 19 t) hj
  unfold M_leaves
  split
  · rfl
  · dsimp only
    rw [show (M_nextOf μ (μ.1 24 t) (μ.1 19 t)).2 = M_meas μ (μ.1 19 t) from rfl]
    split
    · exact em 35 (by decide)
    · have : ∀ ν : Mu, ν.1 = up2 (up2 (up2 (up2 (M_meas μ (μ.1 19 t)).1 23 t 1) 25 t (M_nextOf μ (μ.1 24 t) (μ.1 19 t)).1) 26 t ((M_meas μ (μ.1 19 t)).1 13 (ix (M_nextOf μ (μ.1 24 t) (μ.1 19 t)).1))) 24 t (M_across (M_meas μ (μ.1 19 t)).1 (ix (M_nextOf μ (μ.1 24 t) (μ.1 19 t)).1) (μ.1 24 t)) → ν.1 35 = μ.1 35 := fun ν e => by
        rw [e, up2_ne _ _ _ _ _ (by decide), up2_ne _ _ _ _ _ (by decide), up2_ne _ _ _ _ _ (by decide), up2_ne _ _ _ _ _ (by decide), em 35 (by decide)]
      split
      · exact this _ rfl
      · exact this _ rfl
theorem g2_35 : ∀ n, (M_g2 n μ).1 35 = μ.1 35
  | 0 => rfl
  | n + 1 => by
    rw [M_g2_S]
    split
    · rw [leav_35, g2_35 n]
    · exact g2_35 n
theorem days_35 {q : Int32 × Mu} {M : Nat} (hG : GI q.2 tb M) (hM : M ≤ 3600) : ∀ n a, ix ((M_days n q).2.1 35 a) ≤ ix (q.2.1 35 a) + n
  | 0, a => Nat.le_refl _
  | n + 1, a => by
    have ih := days_35 hG hM n a
    have hg := GI_days hG hM n
    have h1 := g1_35 hg hM (nT (M_days n q).2) (Nat.le_refl _) a
    show ix ((M_g2 (nT (M_days n q).2) (M_g1 (nT (M_days n q).2) (nT (M_days n q).2) (M_days n q)).2).1 35 a) ≤ _
    rw [g2_35]
    split at h1 <;> omega
theorem cm_go (h : LJ μ tb k) (hk : k < 500) {d : Nat} (hd1 : 1 ≤ d) (hd : d ≤ 200) : M_go μ (nI d) = M_days d (0, μ) ∧ LJ (M_days d (0, μ)).2 (KT_days d (0, μ) tb) (k + 1) ∧ GP μ (M_days d (0, μ)).1 (M_days d (0, μ)).2 (KT_days d (0, μ) tb) ∧ ∀ a, ix ((M_days d (0, μ)).2.1 35 a) ≤ ix (μ.1 35 a) + d := by
  have hG := h.1.gi
  have hgp := GP_days hG (by omega) (h.B hk) h.2.2.1 d
  have hL := LI_go h.1 (by omega) d
  rw [h.t0] at hL
  obtain ⟨ν, hν⟩ : ∃ ν, ν = (M_days d (0, μ)).2 := ⟨_, rfl⟩
  obtain ⟨x, hx⟩ : ∃ x, x = (M_days d (0, μ)).1 := ⟨_, rfl⟩
  have h35 := days_35 (q := (0, μ)) hG (by omega) d
  rw [← hν] at hgp hL h35 ⊢
  rw [← hx] at hgp ⊢
  refine ⟨?_, ⟨hL, ?_, fun t ht => ?_, JV_same h.2.2.2.1 (fun a ha => ?_), fun p => ?_⟩, hgp, h35⟩
  · unfold M_go
    rw [if_pos (show inR (nI d) 1 200 from ⟨nI_le (a := 1) hd1 (by omega), nI_le (b := 200) hd (by decide)⟩), h.t0, ix_nI (by omega)]
  · rw [hgp.2.1 38 rfl]; exact h.z
  · refine hgp.1 t ?_
    unfold nT at ht ⊢
    rw [hgp.2.1 16 rfl] at ht
    exact ht
  · rcases ha with rfl | rfl | rfl <;> exact hgp.2.1 _ rfl
  · obtain ⟨-, -, -, -, c, -, c2, c3⟩ := hgp
    obtain ⟨b1, b2⟩ := h.2.2.2.2 p
    obtain ⟨c4, c5⟩ := c3 p
    have c6 : c ≤ 40 := by rw [c2]; exact Nat.le_trans (cnt_le _ _) (nT40 h.I)
    omega
end CN
