/-! what the class's thing does, in the reference's words -/
theorem tLeg_n (lay : xK → Nat) : tLeg lay (-1) = .null := if_pos rfl
theorem tLeg_s (lay : xK → Nat) {q : Int32} (h : ¬ q = -1) : tLeg lay q = .ref (lay (20, ix q)) := if_neg h
theorem signs_com {μ : Mu} {t : Nat} {v : Int32} (h : ¬ (80000 : Int32) ≤ μ.1 30 0) : (∀ j, com j = true → (M_signs μ t v).1 j = (KM_sign μ t).1 j) ∧ (M_signs μ t v).2 = (KM_sign μ t).2 := by
  unfold M_signs KM_sign
  by_cases h1 : μ.1 21 t = 0
  · rw [if_pos (Or.inl h1), if_pos h1]
    exact ⟨fun _ _ => rfl, rfl⟩
  · rw [if_neg (fun z => z.elim h1 h), if_neg h1]
    refine ⟨fun j hj => ?_, rfl⟩
    obtain ⟨h38, h37, h15, h30, h31, h32, h33, h34⟩ := com38 hj
    dsimp only
    rw [up2_ne _ _ _ _ _ h30]
    refine up2_com (fun j hj => ?_) j hj
    obtain ⟨h38, h37, h15, h30, h31, h32, h33, h34⟩ := com38 hj
    rw [up2_ne _ _ _ _ _ h34]
    split
    · rw [up2_ne _ _ _ _ _ h33, up2_ne _ _ _ _ _ h32, up2_ne _ _ _ _ _ h31]
    · rw [up2_ne _ _ _ _ _ h32, up2_ne _ _ _ _ _ h32, up2_ne _ _ _ _ _ h31]
theorem up2_comm {α : Type} (f : Nat → Nat → α) {j j' : Nat} (h : j ≠ j') (i i' : Nat) (v v' : α) : up2 (up2 f j i v) j' i' v' = up2 (up2 f j' i' v') j i v := by
  funext a b
  simp only [up2_at]
  by_cases h1 : a = j'
  · by_cases h2 : a = j
    · exact absurd (h2.symm.trans h1) h
    · simp [h1, h2, Ne.symm h]
  · simp [h1]
theorem isP_ix {μ : Mu} (hI : RI μ) {p : Int32} (h8 : vp_in p 8) (h : ix p < nP μ) : isP μ p := by
  obtain ⟨P, hP, eP⟩ := hI.1
  rw [nP_of hP eP] at h
  refine isP_of hI (fun z => h8 (Or.inl z)) ?_
  rw [eP, ← in_eq h8 (by decide)]
  exact (nI_ltI (by omega) (by omega)).mpr h
def K_owe (μ : Mu) (t : Nat) : Mu := if ¬ μ.1 21 t = 0 then M_pays μ (ix (μ.1 18 t)) (ix (μ.1 19 t)) (μ.1 3 (3 * ix (μ.1 19 t) + ix (μ.1 17 t))).toInt64 else if ¬ μ.1 36 0 = 0 then (μ.1, up2 μ.2 9 (8 * ix (μ.1 18 t) + ix (μ.1 19 t)) (μ.2 9 (8 * ix (μ.1 18 t) + ix (μ.1 19 t)) + (μ.1 3 (3 * ix (μ.1 19 t) + ix (μ.1 17 t))).toInt64)) else μ
theorem pays_0 {μ : Mu} (a b : Nat) : M_pays μ a b 0 = μ := by
  unfold M_pays
  rw [Int64.sub_zero, up2_id, Int64.add_zero, up2_id]
/-- a thing at its target that is not sent back -/
theorem comes_eq {μ : Mu} (hI : RI μ) {t : Nat} (ht : t < 40) (h27 : μ.1 27 t = 0) (hn : ¬ (¬ μ.1 28 t = 0 ∧ ¬ lg_cmp (M_taxOf μ t) 0 ≤ 0 ∧ ¬ μ.1 19 t = μ.1 18 t)) : (M_comes μ t).2 = if μ.1 19 t = μ.1 18 t then (up2 μ.1 23 t 2, up2 μ.2 8 (ix (μ.1 19 t)) (μ.2 8 (ix (μ.1 19 t)) + M_taxOf μ t)) else K_owe (up2 μ.1 23 t 2, up2 μ.2 8 (ix (μ.1 19 t)) (μ.2 8 (ix (μ.1 19 t)) + M_taxOf μ t)) t := by
  have e3 := (in_3k (hI.ta ht) (hI.kd ht)).2
  have e8 := (in_8k (hI.or ht) (hI.ta ht)).2
  unfold M_comes K_owe
  rw [if_neg (fun z => hn z.2), if_pos h27]
  dsimp only
  rw [e3, e8]
  by_cases h1 : μ.1 19 t = μ.1 18 t
  · rw [if_pos h1, if_pos h1]
    rw [show (0 : Int32).toInt64 = 0 from rfl, pays_0]
    by_cases h2 : ¬ μ.1 21 t = 0
    · rw [if_pos h2]
    · rw [if_neg h2]
      by_cases h3 : ¬ μ.1 36 0 = 0
      · rw [if_pos h3, Int64.add_zero]
        refine Prod.ext rfl ?_
        exact up2_id _ _ _
      · rw [if_neg h3]
  · rw [if_neg h1, if_neg h1]
    rfl
theorem comes_1 {μ : Mu} {t : Nat} (h : ¬ μ.1 23 t = 2) : (M_comes μ t).1 = if (M_comes μ t).2.1 23 t = 2 then 1 else 0 := by
  unfold M_comes
  split
  · dsimp only
    rw [if_neg (by rw [up2_ne _ _ _ _ _ (by decide), up2_ne _ _ _ _ _ (by decide)]; exact h)]
  · have e : up2 μ.1 23 t 2 23 t = 2 := if_pos ⟨rfl, rfl⟩
    split
    · dsimp only
      split
      · first | rfl | exact (if_pos e).symm
      · split
        · first | rfl | exact (if_pos e).symm
        · first | rfl | exact (if_pos e).symm
    · first | rfl | exact (if_pos e).symm
theorem across_ix {μ : Mu} (hI : RI μ) {g : Nat} (hg : g < 20) {f : Int32} (hf : vp_in f 8) : (if ix f = ix (μ.1 11 g) then ix (μ.1 12 g) else ix (μ.1 11 g)) = ix (M_across μ.1 g f) := by
  unfold M_across
  by_cases h : μ.1 11 g = f
  · rw [if_pos h, if_pos (by rw [h])]
  · rw [if_neg h, if_neg (fun z => h (ix_inj (hI.o1 hg) hf (by decide) z.symm))]
/-- a thing sent on -/
def K_dep (μ : Mu) (t : Nat) (q : Int32) : Mu := (up2 (up2 (up2 (up2 μ.1 25 t q) 24 t (M_across μ.1 (ix q) (μ.1 24 t))) 26 t (μ.1 13 (ix q))) 23 t 1, μ.2)
theorem leaves_com {μ : Mu} {t : Nat} (h6 : μ.1 6 (ix (μ.1 24 t)) = 0) : (∀ j, com j = true → (M_leaves μ t).1 j = (if (M_nextOf μ (μ.1 24 t) (μ.1 19 t)).1 = -1 then μ else K_dep (if μ.1 24 t = μ.1 18 t then μ else M_pays μ (ix (μ.1 18 t)) (ix (μ.1 24 t)) ((μ.1 4 (ix (μ.1 24 t))).toInt64 * ((μ.1 20 t + 9) / 10).toInt64)) t (M_nextOf μ (μ.1 24 t) (μ.1 19 t)).1).1 j) ∧ (M_leaves μ t).2 = (if (M_nextOf μ (μ.1 24 t) (μ.1 19 t)).1 = -1 then μ else K_dep (if μ.1 24 t = μ.1 18 t then μ else M_pays μ (ix (μ.1 18 t)) (ix (μ.1 24 t)) ((μ.1 4 (ix (μ.1 24 t))).toInt64 * ((μ.1 20 t + 9) / 10).toInt64)) t (M_nextOf μ (μ.1 24 t) (μ.1 19 t)).1).2 := by
  obtain ⟨g, hg⟩ : ∃ g, g = (M_nextOf μ (μ.1 24 t) (μ.1 19 t)).1 := ⟨_, rfl⟩
  have em : ∀ j, j ≠ 15 → (M_nextOf μ (μ.1 24 t) (μ.1 19 t)).2.1 j = μ.1 j := fun j hj => M_meas_ne μ (μ.1 19 t) hj
  have e2 : (M_nextOf μ (μ.1 24 t) (μ.1 19 t)).2.2 = μ.2 := rfl
  unfold M_leaves
  rw [if_neg (fun z => z h6), ← hg]
  obtain ⟨ν, hν⟩ : ∃ ν, ν = (M_nextOf μ (μ.1 24 t) (μ.1 19 t)).2 := ⟨_, rfl⟩
  rw [← hν] at em e2 ⊢
  dsimp only
  have ea : M_across ν.1 (ix g) (μ.1 24 t) = M_across μ.1 (ix g) (μ.1 24 t) := by unfold M_across; rw [em 11 (by decide), em 12 (by decide)]
  rw [em 13 (by decide), em 18 (by decide), em 4 (by decide), em 20 (by decide), ea]
  by_cases h1 : g = -1
  · rw [if_pos h1, if_pos h1]
    exact ⟨fun j hj => em j (com38 hj).2.2.1, e2⟩
  · rw [if_neg h1, if_neg h1]
    have key : ∀ j, com j = true → up2 (up2 (up2 (up2 ν.1 23 t 1) 25 t g) 26 t (μ.1 13 (ix g))) 24 t (M_across μ.1 (ix g) (μ.1 24 t)) j = up2 (up2 (up2 (up2 μ.1 25 t g) 24 t (M_across μ.1 (ix g) (μ.1 24 t))) 26 t (μ.1 13 (ix g))) 23 t 1 j := by
      intro j hj
      rw [up2_comm _ (j := 26) (j' := 24) (by decide), up2_comm _ (j := 23) (j' := 25) (by decide), up2_comm _ (j := 23) (j' := 24) (by decide), up2_comm _ (j := 23) (j' := 26) (by decide)]
      exact up2_com (up2_com (up2_com (up2_com (fun j hj => em j (com38 hj).2.2.1)))) j hj
    by_cases h2 : μ.1 24 t = μ.1 18 t
    · rw [if_pos h2, if_pos h2]
      exact ⟨key, e2⟩
    · rw [if_neg h2, if_neg h2]
      exact ⟨key, pays_com e2⟩
theorem leg_of {μ : Mu} (hI : RI μ) {g : Int32} (h : vp_in g 20) (h2 : ix g < ix (μ.1 10 0)) : ¬ g < 0 ∧ g < μ.1 10 0 := by
  obtain ⟨G, hG, eG⟩ := hI.2.1
  rw [eG, ix_nI (by omega)] at h2
  refine ⟨fun z => h (Or.inl z), ?_⟩
  rw [eG, ← in_eq h (by decide)]
  exact (nI_ltI (by omega) (by omega)).mpr h2
