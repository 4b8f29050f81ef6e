/-! a key renamed; the loop whose layout grows; answers that are arrays; copyOf's and sign's worlds -/
theorem xP.ren {Z : xZ} {B0 : Nat} {lay lay' : xK → Nat} {C C' : xK → Option xE} {H : Heap} (h : xP Z B0 lay C H) (k k' : xK) (hC : ∀ j, C' j ≠ none → (j = k ∧ C' j = C k' ∧ lay' j = lay k') ∨ (j ≠ k ∧ j ≠ k' ∧ C' j = C j ∧ lay' j = lay j)) : xP Z B0 lay' C' H := by
  refine ⟨fun j e hj => ?_, fun j j' h1 h2 h3 => ?_, fun j h1 => ?_⟩
  · rcases hC j (by rw [hj]; exact fun z => by cases z) with ⟨q, q1, q2⟩ | ⟨q, q0, q1, q2⟩
    · rw [q2]; exact h.1 k' e (q1 ▸ hj)
    · rw [q2]; exact h.1 j e (q1 ▸ hj)
  · rcases hC j h1 with ⟨q, q1, q2⟩ | ⟨q, q0, q1, q2⟩ <;> rcases hC j' h2 with ⟨r, r1, r2⟩ | ⟨r, r0, r1, r2⟩
    · rw [q, r]
    · rw [q2, r2] at h3
      exact absurd (h.2.1 k' j' (q1 ▸ h1) (r1 ▸ h2) h3).symm r0
    · rw [q2, r2] at h3
      exact absurd (h.2.1 j k' (q1 ▸ h1) (r1 ▸ h2) h3) q0
    · rw [q2, r2] at h3
      exact h.2.1 j j' (q1 ▸ h1) (r1 ▸ h2) h3
  · rcases hC j h1 with ⟨q, q1, q2⟩ | ⟨q, q0, q1, q2⟩
    · rw [q2]; exact h.2.2 k' (q1 ▸ h1)
    · rw [q2]; exact h.2.2 j (q1 ▸ h1)
section XN
variable {p : Program} {l : Launch} {e : Env} {R : Room} {s : State} {m : MethodId} {args : Array Value} {below : List Frame} {meth : Method} {c : Code} {Q : State → Prop} {Z : xZ} {B0 nL : Nat} {lay : xK → Nat} {C : xK → Option xE} {cells slots pc : Nat} {lv : List (Option Value)} {st : List Value} {cc : ByteArray} {own : String} {post : Option Value → (xK → Nat) → (xK → Option xE) → Prop} {ce sl : Nat}
theorem v_ren {lay' : xK → Nat} {C' : xK → Option xE} (k k' : xK) (hC : ∀ j, C' j ≠ none → (j = k ∧ C' j = C k' ∧ lay' j = lay k') ∨ (j ≠ k ∧ j ≠ k' ∧ C' j = C j ∧ lay' j = lay j)) (kk : V p l e R s m args below meth c Q Z B0 nL lay' C' cells slots pc lv st) : V p l e R s m args below meth c Q Z B0 nL lay C cells slots pc lv st := fun ls H locs hl hP hS => kk ls H locs hl (hP.ren k k' hC) hS
theorem v_room {cells' slots' : Nat} (h1 : cells = cells') (h2 : slots = slots') (kk : V p l e R s m args below meth c Q Z B0 nL lay C cells' slots' pc lv st) : V p l e R s m args below meth c Q Z B0 nL lay C cells slots pc lv st := by subst h1; subst h2; exact kk
theorem v_aretA (X : Cx p m meth c cc nL s args own Z B0) {ty : FieldType} (hr : meth.sig.returnType = some (.array ty)) {v : Value} (hv : v = .null ∨ ∃ a, v = .ref a) (hdg : decode cc pc = .ok (.areturn, 1)) (h1 : cells ≤ ce) (h2 : slots ≤ sl) (hp : post (some v) lay C) : V p l e R s m args below meth c (MQ below (yQ Z B0 post) args s ce sl (fun q => B0 ≤ q)) Z B0 nL lay C cells slots pc lv [v] :=
  fun ls H locs hl hP hS => W.widen h1 h2 (W.aret X.1.1 X.1.2.1 hr (Or.inr ⟨_, rfl⟩) hv (fun t ht hW => ⟨⟨_, lay, C, rfl, hp, by rw [ht]; exact hP⟩, hS.F ht⟩) hS.2.2 hdg X.2.2.2)
/-- a counted loop in which the layout grows -/
theorem v_lp (n : Nat) (I : (xK → Nat) → Prop) (Cf : Nat → (xK → Nat) → xK → Option xE) (cf sf : Nat → Nat) (lvf : Nat → (xK → Nat) → List (Option Value)) (head : Nat) (st : List Value) (step : ∀ i, i < n → ∀ lay, I lay → (∀ lay', I lay' → V p l e R s m args below meth c Q Z B0 nL lay' (Cf (i + 1) lay') (cf (i + 1)) (sf (i + 1)) head (lvf (i + 1) lay') st) → V p l e R s m args below meth c Q Z B0 nL lay (Cf i lay) (cf i) (sf i) head (lvf i lay) st) (ex : ∀ lay, I lay → V p l e R s m args below meth c Q Z B0 nL lay (Cf n lay) (cf n) (sf n) head (lvf n lay) st) (lay : xK → Nat) (h0 : I lay) : V p l e R s m args below meth c Q Z B0 nL lay (Cf 0 lay) (cf 0) (sf 0) head (lvf 0 lay) st := by
  have key : ∀ d i, i + d = n → ∀ lay, I lay → V p l e R s m args below meth c Q Z B0 nL lay (Cf i lay) (cf i) (sf i) head (lvf i lay) st := by
    intro d
    induction d with
    | zero => intro i hi lay h; rw [show i = n by omega]; exact ex lay h
    | succ d ih => intro i hi lay h; exact step i (by omega) lay h (fun lay' h' => ih (i + 1) (by omega) lay' h')
  exact key n 0 (by omega) lay h0
end XN
theorem min_nI {a b : Nat} (ha : a < 2 ^ 31) (hb : b < 2 ^ 31) : K_min (nI a) (nI b) = nI (min a b) := by
  unfold K_min
  by_cases h : b < a
  · rw [if_pos ((nI_ltI hb ha).mpr h), Nat.min_eq_right (by omega)]
  · rw [if_neg (fun z => h ((nI_ltI hb ha).mp z)), Nat.min_eq_left (by omega)]
theorem n8192 : (8192 : Int32) = nI 8192 := by decide
