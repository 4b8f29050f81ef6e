/-! the routes' tables, as the class reckons them -/
abbrev Tt : Type := Nat → Nat → Int32
def T_fill (T : Tt) (v : Int32) : Tt := fun j i => if j = 0 ∧ i < 64 then v else T j i
def T_copy (T : Tt) : Tt := fun j i => if j = 1 ∧ i < 64 then T 0 i else T j i
def K_sh (T : Tt) (a b : Nat) (d : Int32) : Tt := up2 T 0 (8 * a + b) (K_min (T 0 (8 * a + b)) d)
def K_ds (μ : Mu) (n : Nat) (T : Tt) : Tt := if μ.1 14 n = 0 then K_sh (K_sh T (ix (μ.1 11 n)) (ix (μ.1 12 n)) (μ.1 13 n)) (ix (μ.1 12 n)) (ix (μ.1 11 n)) (μ.1 13 n) else T
def K_d1 (μ : Mu) : Nat → Tt → Tt
  | 0, T => T
  | n + 1, T => K_ds μ n (K_d1 μ n T)
def K_dir (μ : Mu) (T : Tt) : Tt := K_d1 μ (nG μ) (T_fill T 1000000)
def K_l1 : Nat → Tt → Tt
  | 0, T => T
  | n + 1, T => up2 (K_l1 n T) 1 (8 * n + n) 0
def K_f1 (v a : Nat) : Nat → Tt → Tt
  | 0, T => T
  | n + 1, T => up2 (K_f1 v a n T) 1 (8 * a + n) (K_min (K_f1 v a n T 1 (8 * a + n)) (K_f1 v a n T 1 (8 * a + v) + K_f1 v a n T 1 (8 * v + n)))
def K_f2 (v : Nat) : Nat → Tt → Tt
  | 0, T => T
  | n + 1, T => K_f1 v n 8 (K_f2 v n T)
def K_f3 : Nat → Tt → Tt
  | 0, T => T
  | n + 1, T => K_f2 n 8 (K_f3 n T)
def K_least (T : Tt) : Tt := K_f3 8 (K_l1 8 (T_copy T))
def K_fls (μ : Mu) (T : Tt) (a b n : Nat) (q : Int32 × Int32) : Int32 × Int32 := if ¬ K_leads μ n (nI a) = -1 ∧ ¬ q.2 ≤ K_leads μ n (nI a) ∧ μ.1 13 n + T 1 (ix (K_leads μ n (nI a) * 8 + nI b)) = T 1 (8 * a + b) then (nI n, K_leads μ n (nI a)) else q
def K_fl1 (μ : Mu) (T : Tt) (a b : Nat) : Nat → Int32 × Int32
  | 0 => (-1, 8)
  | n + 1 => K_fls μ T a b n (K_fl1 μ T a b n)
def K_o1 (μ : Mu) (a : Nat) : Nat → Tt → Tt
  | 0, T => T
  | n + 1, T => up2 (K_o1 μ a n T) 2 (8 * a + n) (K_fl1 μ (K_o1 μ a n T) a n (nG μ)).1
def K_o2 (μ : Mu) : Nat → Tt → Tt
  | 0, T => T
  | n + 1, T => K_o1 μ n 8 (K_o2 μ n T)
def K_reckon (μ : Mu) (T : Tt) : Tt := K_o2 μ 8 (K_least (K_dir μ T))
/-- the least sum over all ways that pass no post twice: k posts may still be passed -/
def K_wl (D : Nat → Int32) (a : Nat) (seen : Int32) (rec_ : Nat → Int32 → Int32) : Nat → Int32
  | 0 => 1000000
  | n + 1 => if D (8 * a + n) < 1000000 ∧ seen &&& (1 <<< (nI n &&& 31)) = 0 then K_min (K_wl D a seen rec_ n) (D (8 * a + n) + rec_ n (seen ||| (1 <<< (nI n &&& 31)))) else K_wl D a seen rec_ n
def K_w (D : Nat → Int32) (b : Nat) : Nat → Nat → Int32 → Int32
  | 0, a, _ => if a = b then 0 else 1000000
  | k + 1, a, seen => if a = b then 0 else K_wl D a seen (fun n s => K_w D b k n s) 8
theorem cell_nI (a b : Nat) : nI a * 8 + nI b = nI (8 * a + b) := by rw [n8, pk_mul, nI_add, Nat.mul_comm]
theorem nI_inj {a b : Nat} (ha : a < 2 ^ 31) (hb : b < 2 ^ 31) (h : nI a = nI b) : a = b := by
  have := congrArg ix h
  rw [ix_nI ha, ix_nI hb] at this
  exact this
theorem leads_in {μ : Mu} (hI : RI μ) (hL : KL μ) {g : Nat} (hg : g < nG μ) (f : Int32) : K_leads μ g f = -1 ∨ ∃ j, j < 8 ∧ K_leads μ g f = nI j := by
  have h8 := nP8 hI
  unfold K_leads
  split
  · exact Or.inl rfl
  · split
    · exact Or.inr ⟨_, by have := (hL g hg).2.1; omega, rfl⟩
    · split
      · exact Or.inr ⟨_, by have := (hL g hg).1; omega, rfl⟩
      · exact Or.inl rfl
theorem leads_cell {μ : Mu} (hI : RI μ) (hL : KL μ) {g : Nat} (hg : g < nG μ) {f : Int32} (h : ¬ K_leads μ g f = -1) {b : Nat} (hb : b < 8) : vp_in (K_leads μ g f * 8 + nI b) 64 := by
  rcases leads_in hI hL hg f with q | ⟨j, hj, q⟩
  · exact absurd q h
  · rw [q, cell_nI]; exact vp_in_nI (by omega) (by decide)
theorem in_leg {μ : Mu} (hI : RI μ) {n : Int32} (h1 : ¬ n < 0) (h2 : n < μ.1 10 0) : ix n < nG μ ∧ vp_in n 20 := by
  obtain ⟨G, hG, eG⟩ := hI.2.1
  obtain ⟨j, hj, rfl⟩ := nI_of h1
  rw [eG] at h2
  have hjG := (nI_ltI hj (by omega)).mp h2
  rw [nG_of hG eG, ix_nI hj]
  exact ⟨hjG, vp_in_nI (by omega) (by decide)⟩
