/-! the routes' tables, as the class reckons them -/
abbrev Tt : Type := Nat → Nat → Int32
def T_fill (T : Tt) (v : Int32) : Tt := fun j i => if j = 0 ∧ i < 64 then v else T j i
def T_copy (T : Tt) : Tt := fun j i => if j = 1 ∧ i < 64 then T 0 i else T j i
def K_sh (T : Tt) (a b : Nat) (d : Int32) : Tt := up2 T 0 (8 * a + b) (K_min (T 0 (8 * a + b)) d)
def K_ds (μ : Mu) (n : Nat) (T : Tt) : Tt := if μ.1 14 n = 0 then K_sh (K_sh T (ix (μ.1 11 n)) (ix (μ.1 12 n)) (μ.1 13 n)) (ix (μ.1 12 n)) (ix (μ.1 11 n)) (μ.1 13 n) else T
def K_d1 (μ : Mu) : Nat → Tt → Tt
  | 0, T => T
  | n + 1, T => K_ds μ n (K_d1 μ n T)
def K_dir (μ : Mu) (T : Tt) : Tt := K_d1 μ (nG μ) (T_fill T 1000000)
def K_l1 : Nat → Tt → Tt
  | 0, T => T
  | n + 1, T => up2 (K_l1 n T) 1 (8 * n + n) 0
def K_f1 (v a : Nat) : Nat → Tt → Tt
  | 0, T => T
  | n + 1, T => up2 (K_f1 v a n T) 1 (8 * a + n) (K_min (K_f1 v a n T 1 (8 * a + n)) (K_f1 v a n T 1 (8 * a + v) + K_f1 v a n T 1 (8 * v + n)))
def K_f2 (v : Nat) : Nat → Tt → Tt
  | 0, T => T
  | n + 1, T => K_f1 v n 8 (K_f2 v n T)
def K_f3 : Nat → Tt → Tt
  | 0, T => T
  | n + 1, T => K_f2 n 8 (K_f3 n T)
def K_least (T : Tt) : Tt := K_f3 8 (K_l1 8 (T_copy T))
def K_fls (μ : Mu) (T : Tt) (a b n : Nat) (q : Int32 × Int32) : Int32 × Int32 := if ¬ K_leads μ n (nI a) = -1 ∧ ¬ q.2 ≤ K_leads μ n (nI a) ∧ μ.1 13 n + T 1 (ix (K_leads μ n (nI a) * 8 + nI b)) = T 1 (8 * a + b) then (nI n, K_leads μ n (nI a)) else q
def K_fl1 (μ : Mu) (T : Tt) (a b : Nat) : Nat → Int32 × Int32
  | 0 => (-1, 8)
  | n + 1 => K_fls μ T a b n (K_fl1 μ T a b n)
def K_o1 (μ : Mu) (a : Nat) : Nat → Tt → Tt
  | 0, T => T
  | n + 1, T => up2 (K_o1 μ a n T) 2 (8 * a + n) (K_fl1 μ (K_o1 μ a n T) a n (nG μ)).1
def K_o2 (μ : Mu) : Nat → Tt → Tt
  | 0, T => T
  | n + 1, T => K_o1 μ n 8 (K_o2 μ n T)
def K_reckon (μ : Mu) (T : Tt) : Tt := K_o2 μ 8 (K_least (K_dir μ T))
/-- the least sum over all ways that pass no post twice: k posts may still be passed -/
def K_wl (D : Nat → Int32) (a : Nat) (seen : Int32) (rec_ : Nat → Int32 → Int32) : Nat → Int32
  | 0 => 1000000
  | n + 1 => if ¬ 1000000 ≤ D (8 * a + n) ∧ seen &&& (1 <<< (nI n &&& 31)) = 0 then K_min (K_wl D a seen rec_ n) (D (8 * a + n) + rec_ n (seen ||| (1 <<< (nI n &&& 31)))) else K_wl D a seen rec_ n
def K_w (D : Nat → Int32) (b : Nat) : Nat → Nat → Int32 → Int32
  | 0, a, _ => if a = b then 0 else 1000000
  | k + 1, a, seen => if a = b then 0 else K_wl D a seen (fun n s => K_w D b k n s) 8
theorem cell_nI (a b : Nat) : nI a * 8 + nI b = nI (8 * a + b) := by rw [n8, pk_mul, nI_add, Nat.mul_comm]
theorem nI_inj {a b : Nat} (ha : a < 2 ^ 31) (hb : b < 2 ^ 31) (h : nI a = nI b) : a = b := by
  have := congrArg ix h
  rw [ix_nI ha, ix_nI hb] at this
  exact this
theorem leads_in {μ : Mu} (hI : RI μ) (hL : KL μ) {g : Nat} (hg : g < nG μ) (f : Int32) : K_leads μ g f = -1 ∨ ∃ j, j < 8 ∧ K_leads μ g f = nI j := by
  have h8 := nP8 hI
  unfold K_leads
  split
  · exact Or.inl rfl
  · split
    · exact Or.inr ⟨_, by have := (hL g hg).2.1; omega, rfl⟩
    · split
      · exact Or.inr ⟨_, by have := (hL g hg).1; omega, rfl⟩
      · exact Or.inl rfl
theorem leads_cell {μ : Mu} (hI : RI μ) (hL : KL μ) {g : Nat} (hg : g < nG μ) {f : Int32} (h : ¬ K_leads μ g f = -1) {b : Nat} (hb : b < 8) : vp_in (K_leads μ g f * 8 + nI b) 64 := by
  rcases leads_in hI hL hg f with q | ⟨j, hj, q⟩
  · exact absurd q h
  · rw [q, cell_nI]; exact vp_in_nI (by omega) (by decide)
theorem in_leg {μ : Mu} (hI : RI μ) {n : Int32} (h1 : ¬ n < 0) (h2 : n < μ.1 10 0) : ix n < nG μ ∧ vp_in n 20 := by
  obtain ⟨G, hG, eG⟩ := hI.2.1
  obtain ⟨j, hj, rfl⟩ := nI_of h1
  rw [eG] at h2
  have hjG := (nI_ltI hj (by omega)).mp h2
  rw [nG_of hG eG, ix_nI hj]
  exact ⟨hjG, vp_in_nI (by omega) (by decide)⟩
section XR
variable {p : Program} {l : Launch} {e : Env} {R : Room} {s : State} {m : MethodId} {args : Array Value} {below : List Frame} {meth : Method} {c : Code} {Q : State → Prop} {Z : xZ} {B0 nL : Nat} {lay : xK → Nat} {C : xK → Option xE} {cells slots pc : Nat} {lv : List (Option Value)} {st : List Value}
theorem v_c {C' : xK → Option xE} (h : C = C') (k : V p l e R s m args below meth c Q Z B0 nL lay C' cells slots pc lv st) : V p l e R s m args below meth c Q Z B0 nL lay C cells slots pc lv st := h ▸ k
end XR
theorem myJ7_fill_53178 : xMS yJ7_fill_53178 cJ7_fill_53178 4 (none : Option FieldType) 2 := mJfill
theorem myJ7_copyOf_59c91 : xMS yJ7_copyOf_59c91 cJ7_copyOf_59c91 3 (some (FieldType.array FieldType.int)) 2 := mJcopyOf
theorem xup_xup (C : xK → Option xE) (k : xK) (e e' : xE) : xup (xup C k e) k e' = xup C k e' := by
  funext j
  unfold xup
  split <;> rfl
theorem xup_at (C : xK → Option xE) (k : xK) (e : xE) : xup C k e k = some e := if_pos rfl
theorem xup_ne (C : xK → Option xE) {k j : xK} (e : xE) (h : j ≠ k) : xup C k e j = C j := if_neg h
theorem xup_id {C : xK → Option xE} {k : xK} {e : xE} (h : C k = some e) : xup C k e = C := by
  funext j
  unfold xup
  split
  · next q => rw [q, h]
  · rfl
theorem fill_step {f : Nat → Int32} {v : Int32} {i : Nat} : upd (fun j => if j < i then v else f j) i v = fun j => if j < i + 1 then v else f j := by
  funext j
  unfold upd
  by_cases h : j = i
  · rw [if_pos h, if_pos (by omega)]
  · rw [if_neg h]
    dsimp only
    by_cases h2 : j < i
    · rw [if_pos h2, if_pos (by omega)]
    · rw [if_neg h2, if_neg (by omega)]
theorem fill_world {Z : xZ} {lay : xK → Nat} {μ : Mu} {tb : Tb} {r : xK → Option xE} {v : Int32} : xup (cX Z lay μ tb r) (5, 0) (.inl (Z.2 0, 64, .inl (fun j => if j < 64 then v else tb.1 0 j))) = cX Z lay μ (T_fill tb.1 v, tb.2) r := by
  have e1 : T_fill tb.1 v 1 = tb.1 1 := funext fun j => if_neg fun z => by cases z.1
  have e2 : T_fill tb.1 v 2 = tb.1 2 := funext fun j => if_neg fun z => by cases z.1
  have e0 : (fun j => if j < 64 then v else tb.1 0 j) = T_fill tb.1 v 0 := funext fun j => by
    show _ = (if 0 = 0 ∧ j < 64 then v else tb.1 0 j)
    by_cases h : j < 64
    · rw [if_pos h, if_pos ⟨rfl, h⟩]
    · rw [if_neg h, if_neg (fun z => h z.2)]
  funext k
  obtain ⟨a, b⟩ := k
  by_cases hk : (a, b) = ((5, 0) : xK)
  · rw [hk, xup_at, cX_t0, e0]; rfl
  · rw [xup_ne _ _ hk]
    unfold cX
    simp only [e1, e2]
    by_cases h5 : a = 5
    · subst h5
      have hb : b ≠ 0 := fun z => hk (by rw [z])
      simp [hb]
    · simp [h5]
theorem copy_world {Z : xZ} {lay : xK → Nat} {μ : Mu} {tb : Tb} {r : xK → Option xE} : cX Z lay μ (T_copy tb.1, tb.2) r = xup (cX Z lay μ tb r) (6, 0) (.inl (Z.2 0, 64, .inl (va_cpy (tb.1 0) (tb.1 1) 0 0 64))) := by
  have e1 : T_copy tb.1 0 = tb.1 0 := funext fun j => if_neg fun z => by cases z.1
  have e2 : T_copy tb.1 2 = tb.1 2 := funext fun j => if_neg fun z => by cases z.1
  have e0 : va_cpy (tb.1 0) (tb.1 1) 0 0 64 = T_copy tb.1 1 := funext fun j => by
    show (if 0 ≤ j ∧ j < 0 + 64 then tb.1 0 (0 + (j - 0)) else tb.1 1 j) = (if 1 = 1 ∧ j < 64 then tb.1 0 j else tb.1 1 j)
    by_cases h : j < 64
    · rw [if_pos ⟨by omega, by omega⟩, if_pos ⟨rfl, h⟩, show 0 + (j - 0) = j by omega]
    · rw [if_neg (by omega), if_neg (fun z => h z.2)]
  funext k
  obtain ⟨a, b⟩ := k
  by_cases hk : (a, b) = ((6, 0) : xK)
  · rw [hk, xup_at, cX_t1, e0]; rfl
  · rw [xup_ne _ _ hk]
    unfold cX
    simp only [e1, e2]
    by_cases h5 : a = 6
    · subst h5
      have hb : b ≠ 0 := fun z => hk (by rw [z])
      simp [hb]
    · simp [h5]
/-- what the tables say, in the reference's words -/
def TS (μ : Mu) (T : Tt) : Prop := ∀ a b : Int32, isP μ a → isP μ b → K_far (T 1 (8 * ix a + ix b)) = (M_told μ a b).1 ∧ T 2 (8 * ix a + ix b) = (M_nextOf μ a b).1 ∧ K_far (K_w (T 0) (ix b) 8 (ix a) (1 <<< (nI (ix a) &&& 31))) = (M_told μ a b).1
theorem meas_com {μ : Mu} {b : Int32} {j : Nat} (h : com j = true) : (M_meas μ b).1 j = μ.1 j := M_meas_ne μ b (com38 h).2.2.1
theorem told_m {Z : xZ} {lay : xK → Nat} {μ : Mu} {tb : Tb} {r : xK → Option xE} {a b : Int32} (ha : isP μ a) (hb : isP μ b) : (M_told μ a b).2.1 38 0 = 0 ∧ cX Z lay μ tb r = cX Z lay (M_told μ a b).2 tb r := by
  have e : (M_told μ a b).2 = M_meas (th μ 0) b := by unfold M_told; rw [if_pos ⟨ha, hb⟩]
  rw [e]
  exact ⟨by rw [M_meas_ne _ _ (by decide)]; rfl, (cX_eq (μ := μ) (μ' := M_meas (th μ 0) b) (fun j hj => (meas_com hj).trans (th_com j hj)) rfl).symm⟩
theorem leg_in {μ : Mu} (hI : RI μ) {n : Int32} (h1 : ¬ n < 0) (h2 : n < μ.1 10 0) : inR n 0 (μ.1 10 0 - 1) := by
  obtain ⟨G, hG, eG⟩ := hI.2.1
  obtain ⟨j, hj, rfl⟩ := nI_of h1
  rw [eG] at h2 ⊢
  exact inR_to (by omega) ((nI_ltI hj (by omega)).mp h2)
theorem leg_out {μ : Mu} (hI : RI μ) {n : Int32} (h : inR n 0 (μ.1 10 0 - 1)) : ¬ n < 0 ∧ n < μ.1 10 0 := by
  obtain ⟨G, hG, eG⟩ := hI.2.1
  rw [eG] at h ⊢
  obtain ⟨j, hj, rfl⟩ := inR_of (by omega) h
  exact ⟨nI_pos (by omega), (nI_ltI (by omega) (by omega)).mpr hj⟩
theorem m2_com {A A' : Nat → Nat → Int32} (hA : ∀ j, j ≠ 38 → A' j = A j) (g : Nat) : ∀ j, j ≠ 38 → M_m2 A' g j = M_m2 A g j := by
  have u : ∀ {X X' : Nat → Nat → Int32} {v v' : Int32} {i : Nat}, (∀ j, j ≠ 38 → X' j = X j) → v' = v → ∀ j, j ≠ 38 → up2 X' 15 i v' j = up2 X 15 i v j := fun hX hv j hj => by
    subst hv; funext b; rw [up2_at, up2_at, hX j hj]
  have e1 : ∀ j, j ≠ 38 → M_m2a A' g j = M_m2a A g j := by
    unfold M_m2a
    rw [hA 12 (by decide), hA 11 (by decide), hA 13 (by decide), hA 14 (by decide), hA 15 (by decide)]
    exact u hA rfl
  unfold M_m2
  rw [hA 12 (by decide), hA 11 (by decide), hA 13 (by decide), hA 14 (by decide), hA 15 (by decide), e1 15 (by decide)]
  exact u e1 rfl
theorem m3_com {A A' : Nat → Nat → Int32} (hA : ∀ j, j ≠ 38 → A' j = A j) : ∀ n j, j ≠ 38 → M_m3 n A' j = M_m3 n A j
  | 0 => hA
  | n + 1 => m2_com (m3_com hA n) n
theorem m4_com {A A' : Nat → Nat → Int32} (hA : ∀ j, j ≠ 38 → A' j = A j) (g : Nat) : ∀ n j, j ≠ 38 → M_m4 g n A' j = M_m4 g n A j
  | 0 => hA
  | n + 1 => m3_com (m4_com hA g n) g
theorem m1_c {A A' : Nat → Nat → Int32} (to : Int32) (hA : ∀ j, j ≠ 38 → A' j = A j) : ∀ n j, j ≠ 38 → M_m1 to n A' j = M_m1 to n A j
  | 0 => hA
  | n + 1 => fun j hj => by
    funext b
    rw [M_m1, M_m1, up2_at, up2_at, m1_c to hA n j hj]
theorem meas_th {μ : Mu} {k : Int32} (b : Int32) : ∀ j, j ≠ 38 → (M_meas (th μ k) b).1 j = (M_meas μ b).1 j :=
  m4_com (m1_c b (fun j hj => up2_ne _ _ _ _ _ hj) 8) _ 8
theorem nxs_com {A A' : Nat → Nat → Int32} (hA : ∀ j, j ≠ 38 → A' j = A j) (fr : Int32) (n : Nat) (fd : Int32) : M_nxs A' fr n fd = M_nxs A fr n fd := by
  unfold M_nxs M_across
  rw [hA 14 (by decide), hA 11 (by decide), hA 12 (by decide), hA 13 (by decide), hA 15 (by decide)]
theorem nx_com {A A' : Nat → Nat → Int32} (hA : ∀ j, j ≠ 38 → A' j = A j) (fr : Int32) : ∀ n fd, M_nx A' fr n fd = M_nx A fr n fd
  | 0, fd => rfl
  | n + 1, fd => by rw [M_nx, M_nx, nxs_com hA, nx_com hA fr n]
theorem nextOf_th {μ : Mu} {k : Int32} (a b : Int32) : (M_nextOf (th μ k) a b).1 = (M_nextOf μ a b).1 := by
  unfold M_nextOf
  dsimp only
  rw [meas_th b 15 (by decide), nx_com (meas_th b)]
  rfl
theorem next_1 {μ : Mu} {a b : Int32} (ha : isP μ a) (hb : isP μ b) : (M_next μ a b).1 = (M_nextOf μ a b).1 := by
  unfold M_next
  rw [if_pos ⟨ha, hb⟩, nextOf_th]
theorem next_m {Z : xZ} {lay : xK → Nat} {μ : Mu} {tb : Tb} {r : xK → Option xE} {a b : Int32} (ha : isP μ a) (hb : isP μ b) : (M_next μ a b).2.1 38 0 = 0 ∧ cX Z lay μ tb r = cX Z lay (M_next μ a b).2 tb r := by
  have e : (M_next μ a b).2 = M_meas (th μ 0) b := by unfold M_next; rw [if_pos ⟨ha, hb⟩]; rfl
  rw [e]
  exact ⟨by rw [M_meas_ne _ _ (by decide)]; rfl, (cX_eq (μ := μ) (μ' := M_meas (th μ 0) b) (fun j hj => (meas_com hj).trans (th_com j hj)) rfl).symm⟩
