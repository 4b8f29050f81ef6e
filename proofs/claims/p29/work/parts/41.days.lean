/-! a day of the class's, in the reference's words -/
def KT_g1 (tn : Nat) : Nat → Int32 × Mu → Tb → Tb
  | 0, _, tb => tb
  | n + 1, q, tb => if (M_g1 tn n q).2.1 23 n = 1 then KT_trav (M_g1 tn n q).2 (KT_g1 tn n q tb) n else KT_g1 tn n q tb
def KT_day (q : Int32 × Mu) (tb : Tb) : Tb := KT_g1 (nT q.2) (nT q.2) q tb
def KT_days : Nat → Int32 × Mu → Tb → Tb
  | 0, _, tb => tb
  | n + 1, q, tb => KT_day (M_days n q) (KT_days n q tb)
theorem M_g1_S (tn n : Nat) (q : Int32 × Mu) : M_g1 tn (n + 1) q = if (M_g1 tn n q).2.1 23 n = 1 then ((M_g1 tn n q).1 + (M_travels (M_g1 tn n q).2 n).1, (M_travels (M_g1 tn n q).2 n).2) else ((M_g1 tn n q).1 + 0, (M_g1 tn n q).2) := rfl
theorem M_g2_S (n : Nat) (μ : Mu) : M_g2 (n + 1) μ = if (M_g2 n μ).1 23 n = 0 then M_leaves (M_g2 n μ) n else M_g2 n μ := rfl
theorem KT_g1_S (tn n : Nat) (q : Int32 × Mu) (tb : Tb) : KT_g1 tn (n + 1) q tb = if (M_g1 tn n q).2.1 23 n = 1 then KT_trav (M_g1 tn n q).2 (KT_g1 tn n q tb) n else KT_g1 tn n q tb := rfl
theorem M_g1_add (tn : Nat) (d : Int32) (μ : Mu) : ∀ n, M_g1 tn n (d, μ) = (d + (M_g1 tn n (0, μ)).1, (M_g1 tn n (0, μ)).2)
  | 0 => by show (d, μ) = (d + 0, μ); rw [Int32.add_zero]
  | n + 1 => by
    rw [M_g1_S, M_g1_S, M_g1_add tn d μ n]
    dsimp only
    by_cases h : (M_g1 tn n (0, μ)).2.1 23 n = 1
    · rw [if_pos h, if_pos h, Int32.add_assoc]
    · rw [if_neg h, if_neg h, Int32.add_assoc]
theorem KT_g1_d (tn : Nat) (d : Int32) (μ : Mu) (tb : Tb) : ∀ n, KT_g1 tn n (d, μ) tb = KT_g1 tn n (0, μ) tb
  | 0 => rfl
  | n + 1 => by
    rw [KT_g1_S, KT_g1_S, KT_g1_d tn d μ tb n, M_g1_add tn d μ n]
theorem g1_T (tn : Nat) (q : Int32 × Mu) (n : Nat) : nT (M_g1 tn n q).2 = nT q.2 := by
  unfold nT; rw [kep_g1 q tn (j := 16) rfl n]
theorem g2_T (μ : Mu) (n : Nat) : nT (M_g2 n μ) = nT μ := by
  unfold nT; rw [kep_g2 μ (j := 16) rfl n]
theorem GI_g1 {q : Int32 × Mu} {tb : Tb} {M : Nat} (h : GI q.2 tb M) (hM : M ≤ 3600) (tn : Nat) : ∀ n, n ≤ nT q.2 → GI (M_g1 tn n q).2 (KT_g1 tn n q tb) M
  | 0, _ => h
  | n + 1, hn => by
    have ih := GI_g1 h hM tn n (by omega)
    have e16 := g1_T tn q n
    rw [M_g1_S, KT_g1_S]
    by_cases hc : (M_g1 tn n q).2.1 23 n = 1
    · rw [if_pos hc, if_pos hc]; exact GI_travels ih hM (by rw [e16]; omega) hc
    · rw [if_neg hc, if_neg hc]; exact ih
theorem GI_g2 {μ : Mu} {tb : Tb} {M : Nat} (h : GI μ tb M) : ∀ n, n ≤ nT μ → GI (M_g2 n μ) tb M
  | 0, _ => h
  | n + 1, hn => by
    have ih := GI_g2 h n (by omega)
    have e16 := g2_T μ n
    rw [M_g2_S]
    by_cases hc : (M_g2 n μ).1 23 n = 0
    · rw [if_pos hc]; exact GI_leaves ih (by rw [e16]; omega) hc
    · rw [if_neg hc]; exact ih
theorem GI_day {q : Int32 × Mu} {tb : Tb} {M : Nat} (h : GI q.2 tb M) (hM : M ≤ 3600) : GI (M_day q).2 (KT_day q tb) M :=
  GI_g2 (GI_g1 h hM (nT q.2) (nT q.2) (Nat.le_refl _)) (nT q.2) (Nat.le_of_eq (g1_T _ q _).symm)
theorem GI_days {q : Int32 × Mu} {tb : Tb} {M : Nat} (h : GI q.2 tb M) (hM : M ≤ 3600) : ∀ n, GI (M_days n q).2 (KT_days n q tb) M
  | 0 => h
  | n + 1 => GI_day (GI_days h hM n) hM
theorem KT_trav_1 (μ : Mu) (tb : Tb) (t : Nat) : (KT_trav μ tb t).1 = tb.1 := by
  unfold KT_trav
  split
  · rfl
  · exact KT_sign_1 _ _ _ _
theorem KT_g1_1 (tn : Nat) (q : Int32 × Mu) (tb : Tb) : ∀ n, (KT_g1 tn n q tb).1 = tb.1
  | 0 => rfl
  | n + 1 => by
    rw [KT_g1_S]
    split
    · rw [KT_trav_1, KT_g1_1 tn q tb n]
    · exact KT_g1_1 tn q tb n
theorem KT_days_1 (q : Int32 × Mu) (tb : Tb) : ∀ n, (KT_days n q tb).1 = tb.1
  | 0 => rfl
  | n + 1 => (KT_g1_1 _ _ _ _).trans (KT_days_1 q tb n)
theorem Pp_trav {μ : Mu} {tb : Tb} {t : Nat} (ht : t < 40) : Pp tb ≤ Pp (KT_trav μ tb t) := by
  unfold KT_trav
  split
  · exact Nat.le_refl _
  · exact Pp_sign_le ht
theorem Pp_g1s {tn : Nat} {q : Int32 × Mu} {tb : Tb} {n : Nat} (hn : n < 40) : Pp (KT_g1 tn n q tb) ≤ Pp (KT_g1 tn (n + 1) q tb) := by
  rw [KT_g1_S]
  split
  · exact Pp_trav hn
  · exact Nat.le_refl _
theorem Pp_g1m {tn : Nat} {q : Int32 × Mu} {tb : Tb} {n : Nat} : ∀ m, n + m ≤ 40 → Pp (KT_g1 tn n q tb) ≤ Pp (KT_g1 tn (n + m) q tb)
  | 0, _ => Nat.le_refl _
  | m + 1, h => Nat.le_trans (Pp_g1m m (by omega)) (Pp_g1s (n := n + m) (by omega))
theorem Pp_g1le {tn : Nat} {q : Int32 × Mu} {tb : Tb} {n m : Nat} (h : n ≤ m) (hm : m ≤ 40) : Pp (KT_g1 tn n q tb) ≤ Pp (KT_g1 tn m q tb) := by
  have := Pp_g1m (tn := tn) (q := q) (tb := tb) (n := n) (m - n) (by omega)
  rw [show n + (m - n) = m by omega] at this
  exact this
theorem Pp_day {q : Int32 × Mu} {tb : Tb} (hI : RI q.2) : Pp tb ≤ Pp (KT_day q tb) := Pp_g1le (n := 0) (tn := nT q.2) (q := q) (tb := tb) (Nat.zero_le _) (nT40 hI)
theorem Pp_days {q : Int32 × Mu} {tb : Tb} (hI : RI q.2) (n : Nat) : ∀ m, Pp (KT_days n q tb) ≤ Pp (KT_days (n + m) q tb)
  | 0 => Nat.le_refl _
  | m + 1 => Nat.le_trans (Pp_days hI n m) (Pp_day (RI_days hI (n + m)))
theorem Pp_daysle {q : Int32 × Mu} {tb : Tb} (hI : RI q.2) {n m : Nat} (h : n ≤ m) : Pp (KT_days n q tb) ≤ Pp (KT_days m q tb) := by
  have := Pp_days (tb := tb) hI n (m - n)
  rw [show n + (m - n) = m by omega] at this
  exact this
theorem lyk_trans {l1 l2 l3 : xK → Nat} (h1 : lyk l1 l2) (h2 : lyk l2 l3) : lyk l1 l3 := fun k hk => (h2 k hk).trans (h1 k hk)
/-- what one thing's day does: not there yet; there -/
theorem trav_0 {μ : Mu} {t : Nat} (h : ¬ μ.1 26 t - 1 ≤ 0) : M_travels μ t = (0, (up2 μ.1 26 t (μ.1 26 t - 1), μ.2)) := by
  unfold M_travels; rw [if_pos h]
theorem trav_1 {μ : Mu} {t : Nat} (h : μ.1 26 t - 1 ≤ 0) {ν : Mu} (hν : ν = M_signs (Ar μ t) t (μ.1 24 t)) : M_travels μ t = if ν.1 24 t = ν.1 19 t then M_comes ν t else (0, ν) := by
  subst hν
  unfold M_travels; rw [if_neg (fun z => z h)]
theorem KT_trav_0 {μ : Mu} {tb : Tb} {t : Nat} (h : ¬ μ.1 26 t - 1 ≤ 0) : KT_trav μ tb t = tb := if_pos h
theorem KT_trav_2 {μ : Mu} {tb : Tb} {t : Nat} (h : μ.1 26 t - 1 ≤ 0) : KT_trav μ tb t = KT_sign μ tb t (μ.1 24 t) := if_neg (fun z => z h)
theorem Pp_trav_lt {μ : Mu} {tb : Tb} {t : Nat} (h : μ.1 26 t - 1 ≤ 0) (ht : t < 40) (h21 : ¬ μ.1 21 t = 0) (h35 : ix (μ.1 35 t) = tb.2.2 t) : Pp (KT_trav μ tb t) = Pp tb + tb.2.2 t := by
  rw [KT_trav_2 h, Pp_sign ht, if_pos ⟨h21, by omega⟩]
