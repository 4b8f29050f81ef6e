/-! the world by keys: a heap that is told by logical keys (a kind, an index), not by addresses; the judgement V over it; rows of V out of the kit's rows of W -/
abbrev xK : Type := Nat × Nat
abbrev xZ : Type := va_G × (Nat → ClassId)
abbrev xE : Type := (ClassId × vp_A) ⊕ (Nat × (Nat → Value))
def xTy (Z : xZ) : List (ClassId × FieldType) := [(Z.2 0, .int), (Z.2 1, .long), (Z.2 2, .int), (Z.2 3, .object "Postunion$Post"), (Z.2 4, .object "Postunion$Thing"), (Z.2 5, .object "Postunion$Leg")]
def x_at (Z : xZ) (a : Nat) (e : xE) (H : Heap) : Prop := match e with
  | .inl y => H[a]? = some (vp_cell y.1 y.2)
  | .inr o => ∃ r : vw_C, vwCl[o.1]? = some r ∧ t_OB a (Z.1.1 o.1) r.2.2 (Z.1.2 o.1) H o.2
def xP (Z : xZ) (B0 : Nat) (lay : xK → Nat) (C : xK → Option xE) (H : Heap) : Prop :=
  (∀ k e, C k = some e → x_at Z (lay k) e H) ∧ (∀ k k', C k ≠ none → C k' ≠ none → lay k = lay k' → k = k') ∧ (∀ k, C k ≠ none → B0 ≤ lay k)
theorem x_at.kept {Z : xZ} {a : Nat} {e : xE} {H H1 : Heap} (h : x_at Z a e H) (hq : H1[a]? = H[a]?) : x_at Z a e H1 := by
  cases e with
  | inl x => exact hq.trans h
  | inr o =>
    obtain ⟨r, h1, h2⟩ := h
    exact ⟨r, h1, h2.kept hq⟩
theorem x_at.lt {Z : xZ} {a : Nat} {e : xE} {H : Heap} (h : x_at Z a e H) : a < H.size := by
  cases e with
  | inl x => exact (Array.getElem?_eq_some_iff.mp h).1
  | inr o =>
    obtain ⟨r, h1, cell, h2, -⟩ := h
    exact (Array.getElem?_eq_some_iff.mp h2).1
/-- one key more, or changed -/
def xup (C : xK → Option xE) (k : xK) (e : xE) : xK → Option xE := fun j => if j = k then some e else C j
def xlay (lay : xK → Nat) (k : xK) (a : Nat) : xK → Nat := fun j => if j = k then a else lay j
theorem xP.put {Z : xZ} {B0 : Nat} {lay : xK → Nat} {C C' : xK → Option xE} {H H1 : Heap} {k : xK} {e0 e : xE} (h : xP Z B0 lay C H) (hk : C k = some e0) (he : x_at Z (lay k) e H1) (oq : ∀ q : Nat, q ≠ lay k → H1[q]? = H[q]?) (hC : ∀ j, C' j = xup C k e j) : xP Z B0 lay C' H1 := by
  have hn : ∀ j, C' j ≠ none → C j ≠ none := by
    intro j hj
    rw [hC j, xup] at hj
    split at hj
    · next q => rw [q, hk]; exact fun z => by cases z
    · exact hj
  refine ⟨fun j e1 hj => ?_, fun j j' h1 h2 => h.2.1 j j' (hn j h1) (hn j' h2), fun j h1 => h.2.2 j (hn j h1)⟩
  rw [hC j, xup] at hj
  split at hj
  · next q => cases hj; rw [q]; exact he
  · next q =>
    refine (h.1 j e1 hj).kept (oq _ fun z => q ?_)
    exact h.2.1 j k (by rw [hj]; exact fun z => by cases z) (by rw [hk]; exact fun z => by cases z) z
theorem xP.new {Z : xZ} {B0 : Nat} {lay lay' : xK → Nat} {C C' : xK → Option xE} {H H1 : Heap} {k : xK} {e : xE} (h : xP Z B0 lay C H) (hk : C k = none) (hB : B0 ≤ H.size) (he : x_at Z H.size e H1) (oq : ∀ q : Nat, q < H.size → H1[q]? = H[q]?) (hC : ∀ j, C' j = xup C k e j) (hl : ∀ j, C' j ≠ none → lay' j = xlay lay k H.size j) : xP Z B0 lay' C' H1 := by
  have key : ∀ j, C' j ≠ none → (j = k ∧ lay' j = H.size) ∨ (C j ≠ none ∧ j ≠ k ∧ lay' j = lay j ∧ lay j < H.size) := by
    intro j hj
    have hl' := hl j hj
    rw [hC j, xup] at hj
    rw [xlay] at hl'
    split at hj
    · next q => rw [if_pos q] at hl'; exact Or.inl ⟨q, hl'⟩
    · next q =>
      rw [if_neg q] at hl'
      cases hc : C j with
      | none => exact absurd hc hj
      | some e1 => exact Or.inr ⟨by simp, q, hl', (h.1 j e1 hc).lt⟩
  refine ⟨fun j e1 hj => ?_, fun j j' h1 h2 h3 => ?_, fun j h1 => ?_⟩
  · rcases key j (by rw [hj]; exact fun z => by cases z) with ⟨q1, q2⟩ | ⟨q1, q2, q3, q4⟩
    · rw [q2]
      rw [hC j, xup, if_pos q1] at hj
      cases hj
      exact he
    · rw [q3]
      rw [hC j, xup, if_neg q2] at hj
      exact (h.1 j e1 hj).kept (oq _ q4)
  · rcases key j h1 with ⟨q1, q2⟩ | ⟨q1, q2, q3, q4⟩ <;> rcases key j' h2 with ⟨r1, r2⟩ | ⟨r1, r2, r3, r4⟩
    · rw [q1, r1]
    · omega
    · omega
    · exact h.2.1 j j' q1 r1 (by omega)
  · rcases key j h1 with ⟨q1, q2⟩ | ⟨q1, q2, q3, q4⟩
    · omega
    · rw [q3]; exact h.2.2 j q1
theorem xP.congr {Z : xZ} {B0 : Nat} {lay lay' : xK → Nat} {C C' : xK → Option xE} {H : Heap} (h : xP Z B0 lay C H) (hC : ∀ j, C' j = none ∨ C' j = C j) (hl : ∀ j, C' j ≠ none → lay' j = lay j) : xP Z B0 lay' C' H := by
  have hn : ∀ j, C' j ≠ none → C j ≠ none := by
    intro j hj
    rcases hC j with q | q
    · exact absurd q hj
    · rw [← q]; exact hj
  refine ⟨fun j e hj => ?_, fun j j' h1 h2 h3 => h.2.1 j j' (hn j h1) (hn j' h2) (by rw [← hl j h1, ← hl j' h2]; exact h3), fun j h1 => by rw [hl j h1]; exact h.2.2 j (hn j h1)⟩
  have hj' : C' j ≠ none := by rw [hj]; exact fun z => by cases z
  rw [hl j hj']
  rcases hC j with q | q
  · exact absurd q hj'
  · exact h.1 j e (by rw [← q]; exact hj)
/-- the words that all methods need -/
def BG : List Cond := lw_tbl.filter goodWord
theorem BG_in {w : Cond} (n : Nat) (h : lw_tbl[n]? = some w) (g : goodWord w = true) : w ∈ BG := List.mem_filter.mpr ⟨List.mem_of_getElem? h, g⟩
theorem BG_good {y : MethodName} {cc : ByteArray} {nL : Nat} {ret : Option FieldType} (h : Cond.code y cc nL ret ∈ BG) : GoodIn BG (.code y cc nL ret :: BG) := by
  intro w hw
  rcases List.mem_cons.mp hw with rfl | hw
  · exact ⟨h, good_of_word (List.mem_filter.mp h).2⟩
  · exact ⟨hw, good_of_word (List.mem_filter.mp hw).2⟩
def xNest : Cond := .methodLinkNest "Postunion$Post" 46 yX4_begunParts "Postunion"
def xKn (Z : xZ) (U : State) : Prop := va_K Z.1 vwCl (xTy Z) U ∧ va_Nw xNest U
theorem xKn.warm {Z : xZ} {s U : State} (hW : s.WarmedH U.vm) (h : xKn Z s) : xKn Z U := ⟨va_K.moved hW.alike h.1, va_Nw.warmM hW h.2⟩
theorem xKn.calling {Z : xZ} {U : State} {g : JFrame} {mk : MethodId} {a : Array Value} (h : xKn Z U) : xKn Z (U.calling g mk a) := ⟨va_K.moved (u := U) (U := U.calling g mk a) (Vm.Alike.refl U.vm) h.1, va_Nw.same (u := U) (U := U.calling g mk a) rfl rfl h.2⟩
def yP (Z : xZ) (B0 : Nat) (av : List Value) (lay : xK → Nat) (C : xK → Option xE) : Array Value → State → Prop := fun v U => v = av.toArray ∧ xP Z B0 lay C U.heap ∧ xKn Z U ∧ B0 ≤ U.heap.size
def yQ (Z : xZ) (B0 : Nat) (post : Option Value → (xK → Nat) → (xK → Option xE) → Prop) : Array Value → State → Outcome → State → Prop := fun _ st oc t => (∃ (v : Option Value) (lay : xK → Nat) (C : xK → Option xE), oc = .returned v ∧ post v lay C ∧ xP Z B0 lay C t.heap) ∧ va_F (fun q => B0 ≤ q) st t
theorem yP.blind {Z : xZ} {B0 : Nat} {av : List Value} {lay : xK → Nat} {C : xK → Option xE} : FrameBlind (yP Z B0 av lay C) := fun _ _ _ _ h => ⟨h.1, h.2.1, h.2.2.1.calling, h.2.2.2⟩
/-- a method's contract that returns -/
def YM (l : Launch) (y : MethodName) (cc : ByteArray) (nL : Nat) (ret : Option FieldType) (fr lo ce sl : Nat) (Z : xZ) (B0 : Nat) (av : List Value) (lay : xK → Nat) (C : xK → Option xE) (post : Option Value → (xK → Nat) → (xK → Option xE) → Prop) : Prop :=
  Met l y (.code y cc nL ret :: BG) { frames := fr, cells := ce, slots := sl, locals := lo } (yP Z B0 av lay C) (yQ Z B0 post) ce sl (fun q => B0 ≤ q)
/-- the machine at a method: what does not change in it -/
def Cx (p : Program) (m : MethodId) (meth : Method) (c : Code) (cc : ByteArray) (nL : Nat) (s : State) (args : Array Value) (own : String) (Z : xZ) (B0 : Nat) : Prop :=
  (p.tables.exec = Jvm.exec ∧ c.code = cc ∧ c.maxLocals = nL ∧ s.vm.findClass own = some m.cls ∧ ∀ w ∈ BG, w.before args s = true) ∧ xKn Z s ∧ B0 ≤ s.heap.size ∧ meth.locks = false
/-- the locals by their places -/
def xl : List (Option Value) → Nat → List (Nat × Value)
  | [], _ => []
  | none :: r, i => xl r (i + 1)
  | some v :: r, i => (i, v) :: xl r (i + 1)
theorem xl_mem : ∀ (l : List (Option Value)) (n j : Nat) (v : Value), (j, v) ∈ xl l n ↔ ∃ i, j = n + i ∧ l[i]? = some (some v)
  | [], n, j, v => by simp [xl]
  | none :: r, n, j, v => by
    rw [xl, xl_mem r (n + 1) j v]
    constructor
    · rintro ⟨i, h1, h2⟩
      exact ⟨i + 1, by omega, by simpa using h2⟩
    · rintro ⟨i, h1, h2⟩
      cases i with
      | zero => simp at h2
      | succ i => exact ⟨i, by omega, by simpa using h2⟩
  | some w :: r, n, j, v => by
    rw [xl, List.mem_cons, xl_mem r (n + 1) j v]
    constructor
    · rintro (h | ⟨i, h1, h2⟩)
      · cases h; exact ⟨0, by omega, by simp⟩
      · exact ⟨i + 1, by omega, by simpa using h2⟩
    · rintro ⟨i, h1, h2⟩
      cases i with
      | zero => simp at h2; left; rw [h2, h1]; simp
      | succ i => right; exact ⟨i, by omega, by simpa using h2⟩
def xcl (a : Option Value) : Option Value := match a with
  | some w => if w.category = 2 then none else a
  | none => none
theorem xcl_some {a : Option Value} {w : Value} (h : xcl a = some w) : a = some w ∧ ¬ w.category = 2 := by
  cases a with
  | none => simp [xcl] at h
  | some z =>
    rw [xcl] at h
    split at h
    · cases h
    · next q => cases h; exact ⟨rfl, q⟩
def xs1 : List (Option Value) → Nat → Value → List (Option Value)
  | [], _, _ => []
  | _ :: r, 0, v => some v :: r
  | a :: r, 1, v => xcl a :: xs1 r 0 v
  | a :: r, i + 2, v => a :: xs1 r (i + 1) v
theorem xs1_at : ∀ (l : List (Option Value)) (i : Nat) (v : Value) (j : Nat) (z : Value), (xs1 l i v)[j]? = some (some z) → (j = i ∧ z = v) ∨ (j ≠ i ∧ ¬ (j + 1 = i ∧ z.category = 2) ∧ l[j]? = some (some z))
  | [], i, v, j, z, h => by simp [xs1] at h
  | a :: r, 0, v, j, z, h => by
    rw [xs1] at h
    cases j with
    | zero => simp at h; exact Or.inl ⟨rfl, h.symm⟩
    | succ j => exact Or.inr ⟨by omega, by omega, by simpa using h⟩
  | a :: r, 1, v, j, z, h => by
    rw [xs1] at h
    cases j with
    | zero =>
      simp at h
      obtain ⟨h1, h2⟩ := xcl_some h
      exact Or.inr ⟨by omega, fun q => h2 q.2, by simp [h1]⟩
    | succ j =>
      have h' : (xs1 r 0 v)[j]? = some (some z) := by simpa using h
      rcases xs1_at r 0 v j z h' with ⟨q1, q2⟩ | ⟨q1, q2, q3⟩
      · exact Or.inl ⟨by omega, q2⟩
      · exact Or.inr ⟨by omega, by omega, by simpa using q3⟩
  | a :: r, i + 2, v, j, z, h => by
    rw [xs1] at h
    cases j with
    | zero => exact Or.inr ⟨by omega, by omega, by simpa using h⟩
    | succ j =>
      have h' : (xs1 r (i + 1) v)[j]? = some (some z) := by simpa using h
      rcases xs1_at r (i + 1) v j z h' with ⟨q1, q2⟩ | ⟨q1, q2, q3⟩
      · exact Or.inl ⟨by omega, q2⟩
      · exact Or.inr ⟨by omega, fun q => q2 ⟨by omega, q.2⟩, by simpa using q3⟩
def xs2 : List (Option Value) → Nat → Value → List (Option Value)
  | [], _, _ => []
  | [_], 0, v => [some v]
  | _ :: _ :: r, 0, v => some v :: none :: r
  | a :: r, 1, v => xcl a :: xs2 r 0 v
  | a :: r, i + 2, v => a :: xs2 r (i + 1) v
theorem xs2_at : ∀ (l : List (Option Value)) (i : Nat) (v : Value) (j : Nat) (z : Value), (xs2 l i v)[j]? = some (some z) → (j = i ∧ z = v) ∨ (j ≠ i ∧ j ≠ i + 1 ∧ ¬ (j + 1 = i ∧ z.category = 2) ∧ l[j]? = some (some z))
  | [], i, v, j, z, h => by simp [xs2] at h
  | [a], 0, v, j, z, h => by
    rw [xs2] at h
    cases j with
    | zero => simp at h; exact Or.inl ⟨rfl, h.symm⟩
    | succ j => simp at h
  | a :: b :: r, 0, v, j, z, h => by
    rw [xs2] at h
    match j, h with
    | 0, h => simp at h; exact Or.inl ⟨rfl, h.symm⟩
    | 1, h => simp at h
    | j + 2, h => exact Or.inr ⟨by omega, by omega, by omega, by simpa using h⟩
  | a :: r, 1, v, j, z, h => by
    rw [xs2] at h
    cases j with
    | zero =>
      simp at h
      obtain ⟨h1, h2⟩ := xcl_some h
      exact Or.inr ⟨by omega, by omega, fun q => h2 q.2, by simp [h1]⟩
    | succ j =>
      have h' : (xs2 r 0 v)[j]? = some (some z) := by simpa using h
      rcases xs2_at r 0 v j z h' with ⟨q1, q2⟩ | ⟨q1, q2, q3, q4⟩
      · exact Or.inl ⟨by omega, q2⟩
      · exact Or.inr ⟨by omega, by omega, by omega, by simpa using q4⟩
  | a :: r, i + 2, v, j, z, h => by
    rw [xs2] at h
    cases j with
    | zero => exact Or.inr ⟨by omega, by omega, by omega, by simpa using h⟩
    | succ j =>
      have h' : (xs2 r (i + 1) v)[j]? = some (some z) := by simpa using h
      rcases xs2_at r (i + 1) v j z h' with ⟨q1, q2⟩ | ⟨q1, q2, q3, q4⟩
      · exact Or.inl ⟨by omega, q2⟩
      · exact Or.inr ⟨by omega, by omega, fun q => q3 ⟨by omega, q.2⟩, by simpa using q4⟩
theorem xl_at {ls : Array Slot} {nL : Nat} {lv : List (Option Value)} (h : lv_has ls nL (xl lv 0)) {i : Nat} {v : Value} (hi : lv[i]? = some (some v)) : ls[i]? = some (.val v) := h.2.2 (i, v) ((xl_mem lv 0 i v).mpr ⟨i, by omega, hi⟩)
theorem xl_s1 {ls : Array Slot} {nL i : Nat} {v : Value} {lv lv' : List (Option Value)} (h : lv_has ls nL ((i, v) :: (xl lv 0).filter (fun q => !(q.1 == i) && !(q.1 + 1 == i && q.2.category == 2)))) (e : xs1 lv i v = lv') : lv_has ls nL (xl lv' 0) := by
  refine ⟨h.1, h.2.1, fun q hq => h.2.2 q ?_⟩
  obtain ⟨j, z⟩ := q
  rw [xl_mem] at hq
  obtain ⟨j', q1, q2⟩ := hq
  have q1 : j = j' := by omega
  subst q1
  rw [← e] at q2
  rcases xs1_at lv i v j z q2 with ⟨r1, r2⟩ | ⟨r1, r2, r3⟩
  · rw [r1, r2]; exact List.mem_cons_self
  · refine List.mem_cons_of_mem _ (List.mem_filter.mpr ⟨(xl_mem lv 0 j z).mpr ⟨j, by omega, r3⟩, ?_⟩)
    simp only [Bool.and_eq_true, Bool.not_eq_true', beq_eq_false_iff_ne, Bool.and_eq_false_imp, beq_iff_eq]
    exact ⟨r1, fun z1 z2 => r2 ⟨z1, z2⟩⟩
theorem xl_s2 {ls : Array Slot} {nL i : Nat} {v : Value} {lv lv' : List (Option Value)} (h : lv_has ls nL ((i, v) :: (xl lv 0).filter (fun q => !(q.1 == i) && (!(q.1 == i + 1) && !(q.1 + 1 == i && q.2.category == 2))))) (e : xs2 lv i v = lv') : lv_has ls nL (xl lv' 0) := by
  refine ⟨h.1, h.2.1, fun q hq => h.2.2 q ?_⟩
  obtain ⟨j, z⟩ := q
  rw [xl_mem] at hq
  obtain ⟨j', q1, q2⟩ := hq
  have q1 : j = j' := by omega
  subst q1
  rw [← e] at q2
  rcases xs2_at lv i v j z q2 with ⟨r1, r2⟩ | ⟨r1, r0, r2, r3⟩
  · rw [r1, r2]; exact List.mem_cons_self
  · refine List.mem_cons_of_mem _ (List.mem_filter.mpr ⟨(xl_mem lv 0 j z).mpr ⟨j, by omega, r3⟩, ?_⟩)
    simp only [Bool.and_eq_true, Bool.not_eq_true', beq_eq_false_iff_ne, Bool.and_eq_false_imp, beq_iff_eq]
    exact ⟨r1, r0, fun z1 z2 => r2 ⟨z1, z2⟩⟩
/-- fewer known locals -/
def xle : List (Option Value) → List (Option Value) → Prop
  | [], _ => True
  | none :: r, _ :: r' => xle r r'
  | some v :: r, some w :: r' => v = w ∧ xle r r'
  | _, _ => False
theorem xle_at : ∀ (a b : List (Option Value)), xle a b → ∀ (j : Nat) (z : Value), a[j]? = some (some z) → b[j]? = some (some z)
  | [], b, _, j, z, h => by simp at h
  | none :: r, _ :: r', hx, j, z, h => by
    cases j with
    | zero => simp at h
    | succ j => simpa using xle_at r r' hx j z (by simpa using h)
  | some v :: r, some w :: r', hx, j, z, h => by
    obtain ⟨h1, h2⟩ := hx
    cases j with
    | zero => subst h1; simpa using h
    | succ j => simpa using xle_at r r' h2 j z (by simpa using h)
  | none :: r, [], hx, j, z, h => by simp [xle] at hx
  | some v :: r, [], hx, j, z, h => by simp [xle] at hx
  | some v :: r, none :: r', hx, j, z, h => by simp [xle] at hx
theorem xl_le {ls : Array Slot} {nL : Nat} {lv lv' : List (Option Value)} (h : lv_has ls nL (xl lv 0)) (e : xle lv' lv) : lv_has ls nL (xl lv' 0) := by
  refine ⟨h.1, h.2.1, fun q hq => h.2.2 q ?_⟩
  obtain ⟨j, z⟩ := q
  rw [xl_mem] at hq ⊢
  obtain ⟨j', q1, q2⟩ := hq
  exact ⟨j', q1, xle_at lv' lv e j' z q2⟩
/-- the judgement: the machine at pc, with locals lv, stack st, the world C laid by lay, comes to Q -/
def V (p : Program) (l : Launch) (e : Env) (R : Room) (s : State) (m : MethodId) (args : Array Value) (below : List Frame) (meth : Method) (c : Code) (Q : State → Prop) (Z : xZ) (B0 nL : Nat) (lay : xK → Nat) (C : xK → Option xE) (cells slots pc : Nat) (lv : List (Option Value)) (st : List Value) : Prop :=
  ∀ (ls : Array Slot) (H : Heap) (locs : List Loc), lv_has ls nL (xl lv 0) → xP Z B0 lay C H → va_S (fun q => B0 ≤ q) s.heap H locs → W p l e R s m args below meth c H locs cells slots Q (F0 m pc ls st)
section XV
variable {p : Program} {l : Launch} {e : Env} {R : Room} {s : State} {m : MethodId} {args : Array Value} {below : List Frame} {meth : Method} {c : Code} {Q : State → Prop} {Z : xZ} {B0 nL : Nat} {lay : xK → Nat} {C : xK → Option xE} {cells slots pc : Nat} {lv : List (Option Value)} {rest : List Value} {cc : ByteArray} {own : String}
theorem v_iconst (X : Cx p m meth c cc nL s args own Z B0) {n : Int} {v : Int32} (hdg : decode cc pc = .ok (.iconst n, 1)) (hv : Int32.ofInt n = v) (k : V p l e R s m args below meth c Q Z B0 nL lay C cells slots (pc + 1) lv (.int v :: rest)) : V p l e R s m args below meth c Q Z B0 nL lay C cells slots pc lv (rest) := fun ls H locs hl hP hS => lv_iconst X.1.1 X.1.2.1 hdg hv (k ls H locs hl hP hS)
theorem v_bipush (X : Cx p m meth c cc nL s args own Z B0) {n : Int} {v : Int32} (hdg : decode cc pc = .ok (.bipush n, 2)) (hv : (Int8.ofInt n).toInt32 = v) (k : V p l e R s m args below meth c Q Z B0 nL lay C cells slots (pc + 2) lv (.int v :: rest)) : V p l e R s m args below meth c Q Z B0 nL lay C cells slots pc lv (rest) := fun ls H locs hl hP hS => lv_bipush X.1.1 X.1.2.1 hdg hv (k ls H locs hl hP hS)
theorem v_sipush (X : Cx p m meth c cc nL s args own Z B0) {n : Int} {v : Int32} (hdg : decode cc pc = .ok (.sipush n, 3)) (hv : (Int16.ofInt n).toInt32 = v) (k : V p l e R s m args below meth c Q Z B0 nL lay C cells slots (pc + 3) lv (.int v :: rest)) : V p l e R s m args below meth c Q Z B0 nL lay C cells slots pc lv (rest) := fun ls H locs hl hP hS => lv_sipush X.1.1 X.1.2.1 hdg hv (k ls H locs hl hP hS)
theorem v_lconst (X : Cx p m meth c cc nL s args own Z B0) {n : Fin 2} {v : Int64} (hdg : decode cc pc = .ok (.lconst n, 1)) (hv : Int64.ofNat (n : Nat) = v) (k : V p l e R s m args below meth c Q Z B0 nL lay C cells slots (pc + 1) lv (.long v :: rest)) : V p l e R s m args below meth c Q Z B0 nL lay C cells slots pc lv (rest) := fun ls H locs hl hP hS => lv_lconst X.1.1 X.1.2.1 hdg hv (k ls H locs hl hP hS)
theorem v_null (X : Cx p m meth c cc nL s args own Z B0) (hdg : decode cc pc = .ok (.aconst_null, 1)) (k : V p l e R s m args below meth c Q Z B0 nL lay C cells slots (pc + 1) lv (.null :: rest)) : V p l e R s m args below meth c Q Z B0 nL lay C cells slots pc lv (rest) := fun ls H locs hl hP hS => lv_null X.1.1 X.1.2.1 hdg (k ls H locs hl hP hS)
theorem v_iload_n (X : Cx p m meth c cc nL s args own Z B0) {k : Fin 4} {i : Nat} {x : Int32} (hdg : decode cc pc = .ok (.iload_n k, 1)) (hi : (k : Nat) = i) (hl0 : lv[i]? = some (some (.int x))) (k : V p l e R s m args below meth c Q Z B0 nL lay C cells slots (pc + 1) lv (.int x :: rest)) : V p l e R s m args below meth c Q Z B0 nL lay C cells slots pc lv (rest) := fun ls H locs hl hP hS => lv_iload_n X.1.1 X.1.2.1 hdg hi (xl_at hl hl0) (k ls H locs hl hP hS)
theorem v_iload (X : Cx p m meth c cc nL s args own Z B0) {i : Nat} {x : Int32} (hdg : decode cc pc = .ok (.iload i, 2)) (hl0 : lv[i]? = some (some (.int x))) (k : V p l e R s m args below meth c Q Z B0 nL lay C cells slots (pc + 2) lv (.int x :: rest)) : V p l e R s m args below meth c Q Z B0 nL lay C cells slots pc lv (rest) := fun ls H locs hl hP hS => lv_iload X.1.1 X.1.2.1 hdg (xl_at hl hl0) (k ls H locs hl hP hS)
theorem v_istore_n (X : Cx p m meth c cc nL s args own Z B0) {k : Fin 4} {i : Nat} {x : Int32} {lv' : List (Option Value)} (hdg : decode cc pc = .ok (.istore_n k, 1)) (hi : (k : Nat) = i) (hn : i < nL) (hv : xs1 lv i (.int x) = lv') (kk : V p l e R s m args below meth c Q Z B0 nL lay C cells slots (pc + 1) lv' rest) : V p l e R s m args below meth c Q Z B0 nL lay C cells slots pc lv (.int x :: rest) := fun ls H locs hl hP hS => lv_istore_n X.1.1 X.1.2.1 hdg hi hl hn rfl (fun ls' hl' => kk ls' H locs (xl_s1 hl' hv) hP hS)
theorem v_istore (X : Cx p m meth c cc nL s args own Z B0) {i : Nat} {x : Int32} {lv' : List (Option Value)} (hdg : decode cc pc = .ok (.istore i, 2)) (hn : i < nL) (hv : xs1 lv i (.int x) = lv') (kk : V p l e R s m args below meth c Q Z B0 nL lay C cells slots (pc + 2) lv' rest) : V p l e R s m args below meth c Q Z B0 nL lay C cells slots pc lv (.int x :: rest) := fun ls H locs hl hP hS => lv_istore X.1.1 X.1.2.1 hdg hl hn rfl (fun ls' hl' => kk ls' H locs (xl_s1 hl' hv) hP hS)
theorem v_lload_n (X : Cx p m meth c cc nL s args own Z B0) {k : Fin 4} {i : Nat} {x : Int64} (hdg : decode cc pc = .ok (.lload_n k, 1)) (hi : (k : Nat) = i) (hl0 : lv[i]? = some (some (.long x))) (k : V p l e R s m args below meth c Q Z B0 nL lay C cells slots (pc + 1) lv (.long x :: rest)) : V p l e R s m args below meth c Q Z B0 nL lay C cells slots pc lv (rest) := fun ls H locs hl hP hS => lv_lload_n X.1.1 X.1.2.1 hdg hi (xl_at hl hl0) (k ls H locs hl hP hS)
theorem v_lload (X : Cx p m meth c cc nL s args own Z B0) {i : Nat} {x : Int64} (hdg : decode cc pc = .ok (.lload i, 2)) (hl0 : lv[i]? = some (some (.long x))) (k : V p l e R s m args below meth c Q Z B0 nL lay C cells slots (pc + 2) lv (.long x :: rest)) : V p l e R s m args below meth c Q Z B0 nL lay C cells slots pc lv (rest) := fun ls H locs hl hP hS => lv_lload X.1.1 X.1.2.1 hdg (xl_at hl hl0) (k ls H locs hl hP hS)
theorem v_lstore_n (X : Cx p m meth c cc nL s args own Z B0) {k : Fin 4} {i : Nat} {x : Int64} {lv' : List (Option Value)} (hdg : decode cc pc = .ok (.lstore_n k, 1)) (hi : (k : Nat) = i) (hn : i + 1 < nL) (hv : xs2 lv i (.long x) = lv') (kk : V p l e R s m args below meth c Q Z B0 nL lay C cells slots (pc + 1) lv' rest) : V p l e R s m args below meth c Q Z B0 nL lay C cells slots pc lv (.long x :: rest) := fun ls H locs hl hP hS => lv_lstore_n X.1.1 X.1.2.1 hdg hi hl hn rfl (fun ls' hl' => kk ls' H locs (xl_s2 hl' hv) hP hS)
theorem v_lstore (X : Cx p m meth c cc nL s args own Z B0) {i : Nat} {x : Int64} {lv' : List (Option Value)} (hdg : decode cc pc = .ok (.lstore i, 2)) (hn : i + 1 < nL) (hv : xs2 lv i (.long x) = lv') (kk : V p l e R s m args below meth c Q Z B0 nL lay C cells slots (pc + 2) lv' rest) : V p l e R s m args below meth c Q Z B0 nL lay C cells slots pc lv (.long x :: rest) := fun ls H locs hl hP hS => lv_lstore X.1.1 X.1.2.1 hdg hl hn rfl (fun ls' hl' => kk ls' H locs (xl_s2 hl' hv) hP hS)
theorem v_aload_n (X : Cx p m meth c cc nL s args own Z B0) {k : Fin 4} {i : Nat} {x : Nat} (hdg : decode cc pc = .ok (.aload_n k, 1)) (hi : (k : Nat) = i) (hl0 : lv[i]? = some (some (.ref x))) (k : V p l e R s m args below meth c Q Z B0 nL lay C cells slots (pc + 1) lv (.ref x :: rest)) : V p l e R s m args below meth c Q Z B0 nL lay C cells slots pc lv (rest) := fun ls H locs hl hP hS => lv_aload_n X.1.1 X.1.2.1 hdg hi (xl_at hl hl0) (k ls H locs hl hP hS)
theorem v_aload (X : Cx p m meth c cc nL s args own Z B0) {i : Nat} {x : Nat} (hdg : decode cc pc = .ok (.aload i, 2)) (hl0 : lv[i]? = some (some (.ref x))) (k : V p l e R s m args below meth c Q Z B0 nL lay C cells slots (pc + 2) lv (.ref x :: rest)) : V p l e R s m args below meth c Q Z B0 nL lay C cells slots pc lv (rest) := fun ls H locs hl hP hS => lv_aload X.1.1 X.1.2.1 hdg (xl_at hl hl0) (k ls H locs hl hP hS)
theorem v_astore_n (X : Cx p m meth c cc nL s args own Z B0) {k : Fin 4} {i : Nat} {x : Nat} {lv' : List (Option Value)} (hdg : decode cc pc = .ok (.astore_n k, 1)) (hi : (k : Nat) = i) (hn : i < nL) (hv : xs1 lv i (.ref x) = lv') (kk : V p l e R s m args below meth c Q Z B0 nL lay C cells slots (pc + 1) lv' rest) : V p l e R s m args below meth c Q Z B0 nL lay C cells slots pc lv (.ref x :: rest) := fun ls H locs hl hP hS => lv_astore_n X.1.1 X.1.2.1 hdg hi hl hn rfl (fun ls' hl' => kk ls' H locs (xl_s1 hl' hv) hP hS)
theorem v_astore (X : Cx p m meth c cc nL s args own Z B0) {i : Nat} {x : Nat} {lv' : List (Option Value)} (hdg : decode cc pc = .ok (.astore i, 2)) (hn : i < nL) (hv : xs1 lv i (.ref x) = lv') (kk : V p l e R s m args below meth c Q Z B0 nL lay C cells slots (pc + 2) lv' rest) : V p l e R s m args below meth c Q Z B0 nL lay C cells slots pc lv (.ref x :: rest) := fun ls H locs hl hP hS => lv_astore X.1.1 X.1.2.1 hdg hl hn rfl (fun ls' hl' => kk ls' H locs (xl_s1 hl' hv) hP hS)
theorem v_iinc (X : Cx p m meth c cc nL s args own Z B0) {i : Nat} {n : Int} {x v : Int32} {lv' : List (Option Value)} (hdg : decode cc pc = .ok (.iinc i n, 3)) (hl0 : lv[i]? = some (some (.int x))) (hv : x + Int32.ofInt n = v) (hn : i < nL) (hs : xs1 lv i (.int v) = lv') (kk : V p l e R s m args below meth c Q Z B0 nL lay C cells slots (pc + 3) lv' rest) : V p l e R s m args below meth c Q Z B0 nL lay C cells slots pc lv rest := fun ls H locs hl hP hS => by
  obtain ⟨k9, hk9⟩ := List.getElem?_of_mem ((xl_mem lv 0 i (.int x)).mpr ⟨i, by omega, hl0⟩)
  exact lv_iinc X.1.1 X.1.2.1 hdg hl hk9 hv hn rfl (fun ls' hl' => kk ls' H locs (xl_s1 hl' hs) hP hS)
theorem v_iadd (X : Cx p m meth c cc nL s args own Z B0) {x y : Int32} (hdg : decode cc pc = .ok (.iadd, 1)) (k : V p l e R s m args below meth c Q Z B0 nL lay C cells slots (pc + 1) lv (.int (x + y) :: rest)) : V p l e R s m args below meth c Q Z B0 nL lay C cells slots pc lv (.int y :: .int x :: rest) := fun ls H locs hl hP hS => lv_iadd X.1.1 X.1.2.1 hdg (k ls H locs hl hP hS)
theorem v_isub (X : Cx p m meth c cc nL s args own Z B0) {x y : Int32} (hdg : decode cc pc = .ok (.isub, 1)) (k : V p l e R s m args below meth c Q Z B0 nL lay C cells slots (pc + 1) lv (.int (x - y) :: rest)) : V p l e R s m args below meth c Q Z B0 nL lay C cells slots pc lv (.int y :: .int x :: rest) := fun ls H locs hl hP hS => lv_isub X.1.1 X.1.2.1 hdg (k ls H locs hl hP hS)
theorem v_imul (X : Cx p m meth c cc nL s args own Z B0) {x y : Int32} (hdg : decode cc pc = .ok (.imul, 1)) (k : V p l e R s m args below meth c Q Z B0 nL lay C cells slots (pc + 1) lv (.int (x * y) :: rest)) : V p l e R s m args below meth c Q Z B0 nL lay C cells slots pc lv (.int y :: .int x :: rest) := fun ls H locs hl hP hS => lv_imul X.1.1 X.1.2.1 hdg (k ls H locs hl hP hS)
theorem v_iand (X : Cx p m meth c cc nL s args own Z B0) {x y : Int32} (hdg : decode cc pc = .ok (.iand, 1)) (k : V p l e R s m args below meth c Q Z B0 nL lay C cells slots (pc + 1) lv (.int (x &&& y) :: rest)) : V p l e R s m args below meth c Q Z B0 nL lay C cells slots pc lv (.int y :: .int x :: rest) := fun ls H locs hl hP hS => lv_iand X.1.1 X.1.2.1 hdg (k ls H locs hl hP hS)
theorem v_ior (X : Cx p m meth c cc nL s args own Z B0) {x y : Int32} (hdg : decode cc pc = .ok (.ior, 1)) (k : V p l e R s m args below meth c Q Z B0 nL lay C cells slots (pc + 1) lv (.int (x ||| y) :: rest)) : V p l e R s m args below meth c Q Z B0 nL lay C cells slots pc lv (.int y :: .int x :: rest) := fun ls H locs hl hP hS => lv_ior X.1.1 X.1.2.1 hdg (k ls H locs hl hP hS)
theorem v_idiv (X : Cx p m meth c cc nL s args own Z B0) {x y : Int32} (hdg : decode cc pc = .ok (.idiv, 1)) (hne : ¬ y = 0) (k : V p l e R s m args below meth c Q Z B0 nL lay C cells slots (pc + 1) lv (.int (x / y) :: rest)) : V p l e R s m args below meth c Q Z B0 nL lay C cells slots pc lv (.int y :: .int x :: rest) := fun ls H locs hl hP hS => lv_idiv X.1.1 X.1.2.1 hdg hne (k ls H locs hl hP hS)
theorem v_irem (X : Cx p m meth c cc nL s args own Z B0) {x y : Int32} (hdg : decode cc pc = .ok (.irem, 1)) (hne : ¬ y = 0) (k : V p l e R s m args below meth c Q Z B0 nL lay C cells slots (pc + 1) lv (.int (x - x / y * y) :: rest)) : V p l e R s m args below meth c Q Z B0 nL lay C cells slots pc lv (.int y :: .int x :: rest) := fun ls H locs hl hP hS => lv_irem X.1.1 X.1.2.1 hdg hne (k ls H locs hl hP hS)
theorem v_ladd (X : Cx p m meth c cc nL s args own Z B0) {x y : Int64} (hdg : decode cc pc = .ok (.ladd, 1)) (k : V p l e R s m args below meth c Q Z B0 nL lay C cells slots (pc + 1) lv (.long (x + y) :: rest)) : V p l e R s m args below meth c Q Z B0 nL lay C cells slots pc lv (.long y :: .long x :: rest) := fun ls H locs hl hP hS => lv_ladd X.1.1 X.1.2.1 hdg (k ls H locs hl hP hS)
theorem v_lsub (X : Cx p m meth c cc nL s args own Z B0) {x y : Int64} (hdg : decode cc pc = .ok (.lsub, 1)) (k : V p l e R s m args below meth c Q Z B0 nL lay C cells slots (pc + 1) lv (.long (x - y) :: rest)) : V p l e R s m args below meth c Q Z B0 nL lay C cells slots pc lv (.long y :: .long x :: rest) := fun ls H locs hl hP hS => lv_lsub X.1.1 X.1.2.1 hdg (k ls H locs hl hP hS)
theorem v_lmul (X : Cx p m meth c cc nL s args own Z B0) {x y : Int64} (hdg : decode cc pc = .ok (.lmul, 1)) (k : V p l e R s m args below meth c Q Z B0 nL lay C cells slots (pc + 1) lv (.long (x * y) :: rest)) : V p l e R s m args below meth c Q Z B0 nL lay C cells slots pc lv (.long y :: .long x :: rest) := fun ls H locs hl hP hS => lv_lmul X.1.1 X.1.2.1 hdg (k ls H locs hl hP hS)
theorem v_ldiv (X : Cx p m meth c cc nL s args own Z B0) {x y : Int64} (hdg : decode cc pc = .ok (.ldiv, 1)) (hne : ¬ y = 0) (k : V p l e R s m args below meth c Q Z B0 nL lay C cells slots (pc + 1) lv (.long (x / y) :: rest)) : V p l e R s m args below meth c Q Z B0 nL lay C cells slots pc lv (.long y :: .long x :: rest) := fun ls H locs hl hP hS => lv_ldiv X.1.1 X.1.2.1 hdg hne (k ls H locs hl hP hS)
theorem v_ishl (X : Cx p m meth c cc nL s args own Z B0) {x y : Int32} (hdg : decode cc pc = .ok (.ishl, 1)) (k : V p l e R s m args below meth c Q Z B0 nL lay C cells slots (pc + 1) lv (.int (x <<< (y &&& 31)) :: rest)) : V p l e R s m args below meth c Q Z B0 nL lay C cells slots pc lv (.int y :: .int x :: rest) := fun ls H locs hl hP hS => lv_ishl X.1.1 X.1.2.1 hdg (k ls H locs hl hP hS)
theorem v_i2l (X : Cx p m meth c cc nL s args own Z B0) {x : Int32} {v : Int64} (hdg : decode cc pc = .ok (.i2l, 1)) (hv : x.toInt64 = v) (k : V p l e R s m args below meth c Q Z B0 nL lay C cells slots (pc + 1) lv (.long v :: rest)) : V p l e R s m args below meth c Q Z B0 nL lay C cells slots pc lv (.int x :: rest) := fun ls H locs hl hP hS => lv_i2l X.1.1 X.1.2.1 hdg hv (k ls H locs hl hP hS)
theorem v_lcmp (X : Cx p m meth c cc nL s args own Z B0) {x y : Int64} (hdg : decode cc pc = .ok (.lcmp, 1)) (k : V p l e R s m args below meth c Q Z B0 nL lay C cells slots (pc + 1) lv (.int (lg_cmp x y) :: rest)) : V p l e R s m args below meth c Q Z B0 nL lay C cells slots pc lv (.long y :: .long x :: rest) := fun ls H locs hl hP hS => W.lcmp X.1.1 X.1.2.1 hdg (k ls H locs hl hP hS)
theorem v_dup (X : Cx p m meth c cc nL s args own Z B0) {va : Value} (hdg : decode cc pc = .ok (.dup, 1)) (hva : va.category = 1) (k : V p l e R s m args below meth c Q Z B0 nL lay C cells slots (pc + 1) lv (va :: va :: rest)) : V p l e R s m args below meth c Q Z B0 nL lay C cells slots pc lv (va :: rest) := fun ls H locs hl hP hS => lv_dup X.1.1 X.1.2.1 hdg hva (k ls H locs hl hP hS)
theorem v_dup2_11 (X : Cx p m meth c cc nL s args own Z B0) {va vb : Value} (hdg : decode cc pc = .ok (.dup2, 1)) (hva : va.category = 1) (hvb : vb.category = 1) (k : V p l e R s m args below meth c Q Z B0 nL lay C cells slots (pc + 1) lv (va :: vb :: va :: vb :: rest)) : V p l e R s m args below meth c Q Z B0 nL lay C cells slots pc lv (va :: vb :: rest) := fun ls H locs hl hP hS => lv_dup2_11 X.1.1 X.1.2.1 hdg hva hvb (k ls H locs hl hP hS)
theorem v_goto (X : Cx p m meth c cc nL s args own Z B0) {off : Int} {tgt : Nat} (hdg : decode cc pc = .ok (.goto off, 3)) (ht : (pc : Int) + off = (tgt : Int)) (k : V p l e R s m args below meth c Q Z B0 nL lay C cells slots tgt lv rest) : V p l e R s m args below meth c Q Z B0 nL lay C cells slots pc lv rest := fun ls H locs hl hP hS => lv_goto X.1.1 X.1.2.1 hdg ht (k ls H locs hl hP hS)
theorem v_icmp_eq (X : Cx p m meth c cc nL s args own Z B0) {x y : Int32} {off : Int} {tgt : Nat} (hdg : decode cc pc = .ok (.if_icmp .eq off, 3)) (ht : (pc : Int) + off = (tgt : Int)) (kt : x = y → V p l e R s m args below meth c Q Z B0 nL lay C cells slots tgt lv rest) (kf : ¬ x = y → V p l e R s m args below meth c Q Z B0 nL lay C cells slots (pc + 3) lv rest) : V p l e R s m args below meth c Q Z B0 nL lay C cells slots pc lv (.int y :: .int x :: rest) := fun ls H locs hl hP hS => lv_icmp_eq X.1.1 X.1.2.1 hdg ht (fun q => kt q ls H locs hl hP hS) (fun q => kf q ls H locs hl hP hS)
theorem v_if_eq (X : Cx p m meth c cc nL s args own Z B0) {x : Int32} {off : Int} {tgt : Nat} (hdg : decode cc pc = .ok (.ifCond .eq off, 3)) (ht : (pc : Int) + off = (tgt : Int)) (kt : x = 0 → V p l e R s m args below meth c Q Z B0 nL lay C cells slots tgt lv rest) (kf : ¬ x = 0 → V p l e R s m args below meth c Q Z B0 nL lay C cells slots (pc + 3) lv rest) : V p l e R s m args below meth c Q Z B0 nL lay C cells slots pc lv (.int x :: rest) := fun ls H locs hl hP hS => lv_if_eq X.1.1 X.1.2.1 hdg ht (fun q => kt q ls H locs hl hP hS) (fun q => kf q ls H locs hl hP hS)
theorem v_icmp_ne (X : Cx p m meth c cc nL s args own Z B0) {x y : Int32} {off : Int} {tgt : Nat} (hdg : decode cc pc = .ok (.if_icmp .ne off, 3)) (ht : (pc : Int) + off = (tgt : Int)) (kt : ¬ x = y → V p l e R s m args below meth c Q Z B0 nL lay C cells slots tgt lv rest) (kf : x = y → V p l e R s m args below meth c Q Z B0 nL lay C cells slots (pc + 3) lv rest) : V p l e R s m args below meth c Q Z B0 nL lay C cells slots pc lv (.int y :: .int x :: rest) := fun ls H locs hl hP hS => lv_icmp_ne X.1.1 X.1.2.1 hdg ht (fun q => kt q ls H locs hl hP hS) (fun q => kf q ls H locs hl hP hS)
theorem v_if_ne (X : Cx p m meth c cc nL s args own Z B0) {x : Int32} {off : Int} {tgt : Nat} (hdg : decode cc pc = .ok (.ifCond .ne off, 3)) (ht : (pc : Int) + off = (tgt : Int)) (kt : ¬ x = 0 → V p l e R s m args below meth c Q Z B0 nL lay C cells slots tgt lv rest) (kf : x = 0 → V p l e R s m args below meth c Q Z B0 nL lay C cells slots (pc + 3) lv rest) : V p l e R s m args below meth c Q Z B0 nL lay C cells slots pc lv (.int x :: rest) := fun ls H locs hl hP hS => lv_if_ne X.1.1 X.1.2.1 hdg ht (fun q => kt q ls H locs hl hP hS) (fun q => kf q ls H locs hl hP hS)
theorem v_icmp_lt (X : Cx p m meth c cc nL s args own Z B0) {x y : Int32} {off : Int} {tgt : Nat} (hdg : decode cc pc = .ok (.if_icmp .lt off, 3)) (ht : (pc : Int) + off = (tgt : Int)) (kt : x < y → V p l e R s m args below meth c Q Z B0 nL lay C cells slots tgt lv rest) (kf : ¬ x < y → V p l e R s m args below meth c Q Z B0 nL lay C cells slots (pc + 3) lv rest) : V p l e R s m args below meth c Q Z B0 nL lay C cells slots pc lv (.int y :: .int x :: rest) := fun ls H locs hl hP hS => lv_icmp_lt X.1.1 X.1.2.1 hdg ht (fun q => kt q ls H locs hl hP hS) (fun q => kf q ls H locs hl hP hS)
theorem v_if_lt (X : Cx p m meth c cc nL s args own Z B0) {x : Int32} {off : Int} {tgt : Nat} (hdg : decode cc pc = .ok (.ifCond .lt off, 3)) (ht : (pc : Int) + off = (tgt : Int)) (kt : x < 0 → V p l e R s m args below meth c Q Z B0 nL lay C cells slots tgt lv rest) (kf : ¬ x < 0 → V p l e R s m args below meth c Q Z B0 nL lay C cells slots (pc + 3) lv rest) : V p l e R s m args below meth c Q Z B0 nL lay C cells slots pc lv (.int x :: rest) := fun ls H locs hl hP hS => lv_if_lt X.1.1 X.1.2.1 hdg ht (fun q => kt q ls H locs hl hP hS) (fun q => kf q ls H locs hl hP hS)
theorem v_icmp_ge (X : Cx p m meth c cc nL s args own Z B0) {x y : Int32} {off : Int} {tgt : Nat} (hdg : decode cc pc = .ok (.if_icmp .ge off, 3)) (ht : (pc : Int) + off = (tgt : Int)) (kt : y ≤ x → V p l e R s m args below meth c Q Z B0 nL lay C cells slots tgt lv rest) (kf : ¬ y ≤ x → V p l e R s m args below meth c Q Z B0 nL lay C cells slots (pc + 3) lv rest) : V p l e R s m args below meth c Q Z B0 nL lay C cells slots pc lv (.int y :: .int x :: rest) := fun ls H locs hl hP hS => lv_icmp_ge X.1.1 X.1.2.1 hdg ht (fun q => kt q ls H locs hl hP hS) (fun q => kf q ls H locs hl hP hS)
theorem v_if_ge (X : Cx p m meth c cc nL s args own Z B0) {x : Int32} {off : Int} {tgt : Nat} (hdg : decode cc pc = .ok (.ifCond .ge off, 3)) (ht : (pc : Int) + off = (tgt : Int)) (kt : 0 ≤ x → V p l e R s m args below meth c Q Z B0 nL lay C cells slots tgt lv rest) (kf : ¬ 0 ≤ x → V p l e R s m args below meth c Q Z B0 nL lay C cells slots (pc + 3) lv rest) : V p l e R s m args below meth c Q Z B0 nL lay C cells slots pc lv (.int x :: rest) := fun ls H locs hl hP hS => lv_if_ge X.1.1 X.1.2.1 hdg ht (fun q => kt q ls H locs hl hP hS) (fun q => kf q ls H locs hl hP hS)
theorem v_icmp_gt (X : Cx p m meth c cc nL s args own Z B0) {x y : Int32} {off : Int} {tgt : Nat} (hdg : decode cc pc = .ok (.if_icmp .gt off, 3)) (ht : (pc : Int) + off = (tgt : Int)) (kt : y < x → V p l e R s m args below meth c Q Z B0 nL lay C cells slots tgt lv rest) (kf : ¬ y < x → V p l e R s m args below meth c Q Z B0 nL lay C cells slots (pc + 3) lv rest) : V p l e R s m args below meth c Q Z B0 nL lay C cells slots pc lv (.int y :: .int x :: rest) := fun ls H locs hl hP hS => lv_icmp_gt X.1.1 X.1.2.1 hdg ht (fun q => kt q ls H locs hl hP hS) (fun q => kf q ls H locs hl hP hS)
theorem v_if_gt (X : Cx p m meth c cc nL s args own Z B0) {x : Int32} {off : Int} {tgt : Nat} (hdg : decode cc pc = .ok (.ifCond .gt off, 3)) (ht : (pc : Int) + off = (tgt : Int)) (kt : 0 < x → V p l e R s m args below meth c Q Z B0 nL lay C cells slots tgt lv rest) (kf : ¬ 0 < x → V p l e R s m args below meth c Q Z B0 nL lay C cells slots (pc + 3) lv rest) : V p l e R s m args below meth c Q Z B0 nL lay C cells slots pc lv (.int x :: rest) := fun ls H locs hl hP hS => lv_if_gt X.1.1 X.1.2.1 hdg ht (fun q => kt q ls H locs hl hP hS) (fun q => kf q ls H locs hl hP hS)
theorem v_icmp_le (X : Cx p m meth c cc nL s args own Z B0) {x y : Int32} {off : Int} {tgt : Nat} (hdg : decode cc pc = .ok (.if_icmp .le off, 3)) (ht : (pc : Int) + off = (tgt : Int)) (kt : x ≤ y → V p l e R s m args below meth c Q Z B0 nL lay C cells slots tgt lv rest) (kf : ¬ x ≤ y → V p l e R s m args below meth c Q Z B0 nL lay C cells slots (pc + 3) lv rest) : V p l e R s m args below meth c Q Z B0 nL lay C cells slots pc lv (.int y :: .int x :: rest) := fun ls H locs hl hP hS => lv_icmp_le X.1.1 X.1.2.1 hdg ht (fun q => kt q ls H locs hl hP hS) (fun q => kf q ls H locs hl hP hS)
theorem v_if_le (X : Cx p m meth c cc nL s args own Z B0) {x : Int32} {off : Int} {tgt : Nat} (hdg : decode cc pc = .ok (.ifCond .le off, 3)) (ht : (pc : Int) + off = (tgt : Int)) (kt : x ≤ 0 → V p l e R s m args below meth c Q Z B0 nL lay C cells slots tgt lv rest) (kf : ¬ x ≤ 0 → V p l e R s m args below meth c Q Z B0 nL lay C cells slots (pc + 3) lv rest) : V p l e R s m args below meth c Q Z B0 nL lay C cells slots pc lv (.int x :: rest) := fun ls H locs hl hP hS => lv_if_le X.1.1 X.1.2.1 hdg ht (fun q => kt q ls H locs hl hP hS) (fun q => kf q ls H locs hl hP hS)
theorem v_acmp_eq (X : Cx p m meth c cc nL s args own Z B0) {rx ry : Option Nat} {off : Int} {tgt : Nat} (hdg : decode cc pc = .ok (.if_acmp .eq off, 3)) (ht : (pc : Int) + off = (tgt : Int)) (kt : rx = ry → V p l e R s m args below meth c Q Z B0 nL lay C cells slots tgt lv rest) (kf : ¬ rx = ry → V p l e R s m args below meth c Q Z B0 nL lay C cells slots (pc + 3) lv rest) : V p l e R s m args below meth c Q Z B0 nL lay C cells slots pc lv (va_rf ry :: va_rf rx :: rest) := fun ls H locs hl hP hS => lv_acmp_eq X.1.1 X.1.2.1 hdg ht (fun q => kt q ls H locs hl hP hS) (fun q => kf q ls H locs hl hP hS)
theorem v_acmpR_eq (X : Cx p m meth c cc nL s args own Z B0) {rx ry : Nat} {off : Int} {tgt : Nat} (hdg : decode cc pc = .ok (.if_acmp .eq off, 3)) (ht : (pc : Int) + off = (tgt : Int)) (kt : rx = ry → V p l e R s m args below meth c Q Z B0 nL lay C cells slots tgt lv rest) (kf : ¬ rx = ry → V p l e R s m args below meth c Q Z B0 nL lay C cells slots (pc + 3) lv rest) : V p l e R s m args below meth c Q Z B0 nL lay C cells slots pc lv (.ref ry :: .ref rx :: rest) := fun ls H locs hl hP hS => lv_acmp_eq (rx := some rx) (ry := some ry) X.1.1 X.1.2.1 hdg ht (fun q => kt (Option.some.inj q) ls H locs hl hP hS) (fun q => kf (fun z => q (congrArg some z)) ls H locs hl hP hS)
theorem v_acmp_ne (X : Cx p m meth c cc nL s args own Z B0) {rx ry : Option Nat} {off : Int} {tgt : Nat} (hdg : decode cc pc = .ok (.if_acmp .ne off, 3)) (ht : (pc : Int) + off = (tgt : Int)) (kt : ¬ rx = ry → V p l e R s m args below meth c Q Z B0 nL lay C cells slots tgt lv rest) (kf : rx = ry → V p l e R s m args below meth c Q Z B0 nL lay C cells slots (pc + 3) lv rest) : V p l e R s m args below meth c Q Z B0 nL lay C cells slots pc lv (va_rf ry :: va_rf rx :: rest) := fun ls H locs hl hP hS => lv_acmp_ne X.1.1 X.1.2.1 hdg ht (fun q => kt q ls H locs hl hP hS) (fun q => kf q ls H locs hl hP hS)
theorem v_acmpR_ne (X : Cx p m meth c cc nL s args own Z B0) {rx ry : Nat} {off : Int} {tgt : Nat} (hdg : decode cc pc = .ok (.if_acmp .ne off, 3)) (ht : (pc : Int) + off = (tgt : Int)) (kt : ¬ rx = ry → V p l e R s m args below meth c Q Z B0 nL lay C cells slots tgt lv rest) (kf : rx = ry → V p l e R s m args below meth c Q Z B0 nL lay C cells slots (pc + 3) lv rest) : V p l e R s m args below meth c Q Z B0 nL lay C cells slots pc lv (.ref ry :: .ref rx :: rest) := fun ls H locs hl hP hS => lv_acmp_ne (rx := some rx) (ry := some ry) X.1.1 X.1.2.1 hdg ht (fun q => kt (fun z => q (congrArg some z)) ls H locs hl hP hS) (fun q => kf (Option.some.inj q) ls H locs hl hP hS)
theorem v_ifnullR (X : Cx p m meth c cc nL s args own Z B0) {x : Nat} {off : Int} (hdg : decode cc pc = .ok (.ifnull off, 3)) (k : V p l e R s m args below meth c Q Z B0 nL lay C cells slots (pc + 3) lv (rest)) : V p l e R s m args below meth c Q Z B0 nL lay C cells slots pc lv (.ref x :: rest) := fun ls H locs hl hP hS => lv_ifnull X.1.1 X.1.2.1 hdg (k ls H locs hl hP hS)
theorem v_ifnonnullR (X : Cx p m meth c cc nL s args own Z B0) {x : Nat} {off : Int} {tgt : Nat} (hdg : decode cc pc = .ok (.ifnonnull off, 3)) (ht : (pc : Int) + off = (tgt : Int)) (k : V p l e R s m args below meth c Q Z B0 nL lay C cells slots tgt lv rest) : V p l e R s m args below meth c Q Z B0 nL lay C cells slots pc lv (.ref x :: rest) := fun ls H locs hl hP hS => lv_ifnonnull X.1.1 X.1.2.1 hdg ht (k ls H locs hl hP hS)
theorem v_ifnullN (X : Cx p m meth c cc nL s args own Z B0) {off : Int} {tgt : Nat} (hdg : decode cc pc = .ok (.ifnull off, 3)) (ht : (pc : Int) + off = (tgt : Int)) (k : V p l e R s m args below meth c Q Z B0 nL lay C cells slots tgt lv rest) : V p l e R s m args below meth c Q Z B0 nL lay C cells slots pc lv (.null :: rest) := fun ls H locs hl hP hS => lv_ifnullN X.1.1 X.1.2.1 hdg ht (k ls H locs hl hP hS)
theorem v_ifnonnullN (X : Cx p m meth c cc nL s args own Z B0) {off : Int} (hdg : decode cc pc = .ok (.ifnonnull off, 3)) (k : V p l e R s m args below meth c Q Z B0 nL lay C cells slots (pc + 3) lv (rest)) : V p l e R s m args below meth c Q Z B0 nL lay C cells slots pc lv (.null :: rest) := fun ls H locs hl hP hS => lv_ifnonnullN X.1.1 X.1.2.1 hdg (k ls H locs hl hP hS)
theorem v_tableOut (X : Cx p m meth c cc nL s args own Z B0) {dflt lo hi : Int} {offs : Array Int} {len : Nat} {x : Int32} {tgt : Nat} (hdg : decode cc pc = .ok (.tableswitch dflt lo hi offs, len)) (h : x.toInt < lo ∨ hi < x.toInt) (ht : (pc : Int) + dflt = (tgt : Int)) (k : V p l e R s m args below meth c Q Z B0 nL lay C cells slots tgt lv rest) : V p l e R s m args below meth c Q Z B0 nL lay C cells slots pc lv (.int x :: rest) := fun ls H locs hl hP hS => lv_tableOut X.1.1 X.1.2.1 hdg h ht (k ls H locs hl hP hS)
theorem v_tableIn (X : Cx p m meth c cc nL s args own Z B0) {dflt lo hi : Int} {offs : Array Int} {len : Nat} {x : Int32} {off : Int} {tgt : Nat} (hdg : decode cc pc = .ok (.tableswitch dflt lo hi offs, len)) (h1 : ¬ x.toInt < lo) (h2 : ¬ hi < x.toInt) (ho : offs[(x.toInt - lo).toNat]? = some off) (ht : (pc : Int) + off = (tgt : Int)) (k : V p l e R s m args below meth c Q Z B0 nL lay C cells slots tgt lv rest) : V p l e R s m args below meth c Q Z B0 nL lay C cells slots pc lv (.int x :: rest) := fun ls H locs hl hP hS => lv_tableIn X.1.1 X.1.2.1 hdg h1 h2 ho ht (k ls H locs hl hP hS)
theorem v_ldc (X : Cx p m meth c cc nL s args own Z B0) {index : Nat} {v : Int32} (hc : Jvm.Cond.constant own index v ∈ BG) (hdg : decode cc pc = .ok (.ldc index, 2)) (k : V p l e R s m args below meth c Q Z B0 nL lay C cells slots (pc + 2) lv (.int v :: rest)) : V p l e R s m args below meth c Q Z B0 nL lay C cells slots pc lv rest := fun ls H locs hl hP hS => lv_ldc X.1.1 X.1.2.1 X.1.2.2.2.1 (X.1.2.2.2.2 _ hc) hdg (k ls H locs hl hP hS)
theorem v_ldc2 (X : Cx p m meth c cc nL s args own Z B0) {index : Nat} {v : Int64} (hc : Jvm.Cond.constantLong own index v ∈ BG) (hdg : decode cc pc = .ok (.ldc2_w index, 3)) (k : V p l e R s m args below meth c Q Z B0 nL lay C cells slots (pc + 3) lv (.long v :: rest)) : V p l e R s m args below meth c Q Z B0 nL lay C cells slots pc lv rest := fun ls H locs hl hP hS => lv_ldc2 X.1.1 X.1.2.1 X.1.2.2.2.1 (X.1.2.2.2.2 _ hc) hdg (k ls H locs hl hP hS)
theorem v_le {lv' : List (Option Value)} (h : xle lv' lv) (k : V p l e R s m args below meth c Q Z B0 nL lay C cells slots pc lv' rest) : V p l e R s m args below meth c Q Z B0 nL lay C cells slots pc lv rest := fun ls H locs hl hP hS => k ls H locs (xl_le hl h) hP hS
theorem v_widen {cells' slots' : Nat} (h1 : cells ≤ cells') (h2 : slots ≤ slots') (k : V p l e R s m args below meth c Q Z B0 nL lay C cells' slots' pc lv rest) : V p l e R s m args below meth c Q Z B0 nL lay C cells slots pc lv rest := fun ls H locs hl hP hS => W.widen h1 h2 (k ls H locs hl hP hS)
theorem v_congr {lay' : xK → Nat} {C' : xK → Option xE} (hC : ∀ j, C' j = none ∨ C' j = C j) (hl0 : ∀ j, C' j ≠ none → lay' j = lay j) (k : V p l e R s m args below meth c Q Z B0 nL lay' C' cells slots pc lv rest) : V p l e R s m args below meth c Q Z B0 nL lay C cells slots pc lv rest := fun ls H locs hl hP hS => k ls H locs hl (hP.congr hC hl0) hS
theorem x_get (X : Cx p m meth c cc nL s args own Z B0) {ref Cn : String} {T : u_T} {N ci index : Nat} (hin : ∀ w ∈ u_ws Cn T N, w ∈ BG) (k : xK) {f : Nat → Value} (he : C k = some (.inr (ci, f))) (hc : vwCl[ci]? = some (Cn, T, N)) (j : Nat) (hj : j < N) (hlink : Cond.fieldLink own index ref (T j).2.1 (T j).2.2.1 ∈ BG) (hrf : ref = (T j).1) {a : Nat} (ha : lay k = a) {v : Value} (hv : f j = v) (hdg : decode cc pc = .ok (.getfield index, 3))
    (kk : V p l e R s m args below meth c Q Z B0 nL lay C cells slots (pc + 3) lv (v :: rest)) : V p l e R s m args below meth c Q Z B0 nL lay C cells slots pc lv (.ref a :: rest) := by
  intro ls H locs hl hP hS
  subst ha
  obtain ⟨r, h1, cell, q1, q2, q3, q4⟩ := hP.1 k _ he
  have hr : r = (Cn, T, N) := Option.some.inj (h1.symm.trans hc)
  subst hr
  obtain ⟨hS', hfc, kC, hkC, hkind⟩ := X.2.1.1.1 ci _ hc
  obtain ⟨cf, kf, fi, fd, hi, hsl⟩ := hS' j hj
  have hts := X.1.2.2.2.2
  refine W.getf X.1.1 X.1.2.1 X.1.2.2.2.1 (hts _ hlink) (by rw [hrf]; exact hi) (u_facts hfc hkC (u_lays hts hin hj) hi).1 q1 (by rw [q3]; exact fun h => by cases h) (v := v) ?_ rfl rfl hdg (kk ls H locs hl hP hS)
  rw [hsl, q4 j hj]
  exact congrArg some hv
theorem x_put (X : Cx p m meth c cc nL s args own Z B0) {ref Cn : String} {T : u_T} {N ci index : Nat} (hin : ∀ w ∈ u_ws Cn T N, w ∈ BG) (ty0 : Nat → FieldType) (hty : ∀ k, k < N → parseFieldDescriptor (T k).2.2.1 = some (ty0 k)) (hnm : ∀ a, a < N → ∀ b, b < N → a ≠ b → (T a).2.1 ≠ (T b).2.1) (k : xK) {f : Nat → Value} (he : C k = some (.inr (ci, f))) (hc : vwCl[ci]? = some (Cn, T, N)) (j : Nat) (hj : j < N) (hlink : Cond.fieldLink own index ref (T j).2.1 (T j).2.2.1 ∈ BG) (hrf : ref = (T j).1) (hfin : (T j).2.2.2 = false) {v : Value} (hn : narrow (ty0 j) v = v) (hfit : fits (ty0 j) v = true) {a : Nat} (ha : lay k = a) {C' : xK → Option xE} (hC : ∀ i, C' i = xup C k (.inr (ci, updV f j v)) i) (hdg : decode cc pc = .ok (.putfield index, 3))
    (kk : V p l e R s m args below meth c Q Z B0 nL lay C' cells slots (pc + 3) lv rest) : V p l e R s m args below meth c Q Z B0 nL lay C cells slots pc lv (v :: .ref a :: rest) := by
  intro ls H locs hl hP hS0
  subst ha
  have hts := X.1.2.2.2.2
  have hap := va_apart (own := own) hts hin ty0 hty hnm X.2.1.1 hc
  obtain ⟨r, h1, cell, q1, q2, q3, q4⟩ := hP.1 k _ he
  have hr : r = (Cn, T, N) := Option.some.inj (h1.symm.trans hc)
  subst hr
  obtain ⟨hS, hfc, kC, hkC, hkind⟩ := X.2.1.1.1 ci _ hc
  obtain ⟨cf, kf, fi, fd, hi, hsl⟩ := hS j hj
  have hlay := hts _ (hin _ (u_in_lay hj))
  unfold u_lay at hlay
  rw [if_neg (by rw [hfin]; decide)] at hlay
  have hst := (u_facts hfc hkC (u_lays hts hin hj) hi).1
  have h6 := u_store hfc hkC hkind hlay hi (hty j hj) hn hfit
  refine W.putK X.1.1 X.1.2.1 (f := fd) ⟨X.1.2.2.2.1, hts _ hlink, ⟨_, _, _, by rw [hrf]; exact hi⟩, hst⟩ (by rw [q2]; exact h6) q1 q3 (by rw [hsl]; exact k2_hasslot (q4 j hj)) rfl rfl hdg fun H' e1 e2 e3 => ?_
  rw [hsl] at e1 ⊢
  exact kk ls H' _ hl (hP.put he (show x_at Z (lay k) (.inr (ci, updV f j v)) H' from ⟨_, hc, ⟨_, e1, q2, q3, t_set q4 hap hj v⟩⟩) e3 hC) (hS0.put e2 e3 (hP.2.2 k (by rw [he]; exact fun z => by cases z)))
theorem x_putF (X : Cx p m meth c cc nL s args own Z B0) {ref Cn : String} {T : u_T} {N ci index : Nat} (hin : ∀ w ∈ u_ws Cn T N, w ∈ BG) (ty0 : Nat → FieldType) (hty : ∀ k, k < N → parseFieldDescriptor (T k).2.2.1 = some (ty0 k)) (hnm : ∀ a, a < N → ∀ b, b < N → a ≠ b → (T a).2.1 ≠ (T b).2.1) (k : xK) {f : Nat → Value} (he : C k = some (.inr (ci, f))) (hc : vwCl[ci]? = some (Cn, T, N)) (j : Nat) (hj : j < N) (hlink : Cond.fieldLink own index ref (T j).2.1 (T j).2.2.1 ∈ BG) (hrf : ref = (T j).1) (hfin : (T j).2.2.2 = true) (hin2 : meth.name = "<init>") (hdecl : (T j).1 = own) {v : Value} (hn : narrow (ty0 j) v = v) (hfit : fits (ty0 j) v = true) {a : Nat} (ha : lay k = a) {C' : xK → Option xE} (hC : ∀ i, C' i = xup C k (.inr (ci, updV f j v)) i) (hdg : decode cc pc = .ok (.putfield index, 3))
    (kk : V p l e R s m args below meth c Q Z B0 nL lay C' cells slots (pc + 3) lv rest) : V p l e R s m args below meth c Q Z B0 nL lay C cells slots pc lv (v :: .ref a :: rest) := by
  intro ls H locs hl hP hS0
  subst ha
  have hts := X.1.2.2.2.2
  have hown := X.1.2.2.2.1
  have hap := va_apart (own := own) hts hin ty0 hty hnm X.2.1.1 hc
  obtain ⟨r, h1, cell, q1, q2, q3, q4⟩ := hP.1 k _ he
  have hr : r = (Cn, T, N) := Option.some.inj (h1.symm.trans hc)
  subst hr
  obtain ⟨hS, hfc, kC, hkC, hkind⟩ := X.2.1.1.1 ci _ hc
  obtain ⟨cf, kf, fi, fd, hi, hsl⟩ := hS j hj
  have hlay := hts _ (hin _ (u_in_lay hj))
  unfold u_lay at hlay
  rw [if_pos hfin] at hlay
  have hst := (u_facts hfc hkC (u_lays hts hin hj) hi).1
  have hcf : m.cls = cf := by
    obtain ⟨_, _, c', _, _, _, -, -, hf', -, -, -, hown2, -⟩ := Cond.laysFinal_spec hlay
    have e1 : c' = cf := by have := hi.symm.trans hf'; simp at this; exact this.1.symm
    rw [hdecl] at hown2
    rw [← e1]; exact Option.some.inj (hown.symm.trans hown2)
  have h6 := u_fits hfc hkC hkind (Or.inr hlay) hi (hty j hj) hn hfit
  refine W.putFinK X.1.1 X.1.2.1 hown (hts _ hlink) (by rw [hrf]; exact hi) hst hcf hin2 (by rw [q2]; exact h6) q1 q3 (by rw [hsl]; exact k2_hasslot (q4 j hj)) rfl rfl hdg fun H' e1 e2 e3 => ?_
  rw [hsl] at e1 ⊢
  exact kk ls H' _ hl (hP.put he (show x_at Z (lay k) (.inr (ci, updV f j v)) H' from ⟨_, hc, ⟨_, e1, q2, q3, t_set q4 hap hj v⟩⟩) e3 hC) (hS0.put e2 e3 (hP.2.2 k (by rw [he]; exact fun z => by cases z)))
theorem x_iald (X : Cx p m meth c cc nL s args own Z B0) (k : xK) {n : Nat} {f : Nat → Int32} (he : C k = some (.inl (Z.2 0, n, .inl f))) {i : Int32} (hin : vp_in i n) {a : Nat} (ha : lay k = a) {v : Int32} (hv : f i.toNatClampNeg = v) (hdg : decode cc pc = .ok (.iaload, 1))
    (kk : V p l e R s m args below meth c Q Z B0 nL lay C cells slots (pc + 1) lv (.int v :: rest)) : V p l e R s m args below meth c Q Z B0 nL lay C cells slots pc lv (.int i :: .ref a :: rest) := by
  intro ls H locs hl hP hS
  subst ha
  subst hv
  have hlt : i.toNatClampNeg < n := Nat.not_le.mp fun q => hin (Or.inr q)
  exact W.iald (v := .int (f i.toNatClampNeg)) X.1.1 X.1.2.1 (hP.1 k _ he) ((X.2.1.1.2 0 (Z.2 0, _) rfl).1 n (fun j => .int (f j))) (fun q => by cases q) (by show ¬ (i < 0 ∨ (arrV _ _ _).slots.size ≤ _); rw [arrV_size]; exact hin) (by show (arrV _ _ _).slots[_]? = _; rw [arrV_read _ _ hlt]) rfl rfl hdg (kk ls H locs hl hP hS)
theorem x_lald (X : Cx p m meth c cc nL s args own Z B0) (k : xK) {n : Nat} {f : Nat → Int64} (he : C k = some (.inl (Z.2 1, n, .inr (.inl f)))) {i : Int32} (hin : vp_in i n) {a : Nat} (ha : lay k = a) {v : Int64} (hv : f i.toNatClampNeg = v) (hdg : decode cc pc = .ok (.laload, 1))
    (kk : V p l e R s m args below meth c Q Z B0 nL lay C cells slots (pc + 1) lv (.long v :: rest)) : V p l e R s m args below meth c Q Z B0 nL lay C cells slots pc lv (.int i :: .ref a :: rest) := by
  intro ls H locs hl hP hS
  subst ha
  subst hv
  have hlt : i.toNatClampNeg < n := Nat.not_le.mp fun q => hin (Or.inr q)
  exact W.lald (v := .long (f i.toNatClampNeg)) X.1.1 X.1.2.1 (hP.1 k _ he) ((X.2.1.1.2 1 (Z.2 1, _) rfl).1 n (fun j => .long (f j))) (fun q => by cases q) (by show ¬ (i < 0 ∨ (arrV _ _ _).slots.size ≤ _); rw [arrV_size]; exact hin) (by show (arrV _ _ _).slots[_]? = _; rw [arrV_read _ _ hlt]) rfl rfl hdg (kk ls H locs hl hP hS)
theorem x_aald3 (X : Cx p m meth c cc nL s args own Z B0) (k : xK) {n : Nat} {f : Nat → Option Nat} (he : C k = some (.inl (Z.2 3, n, .inr (.inr (.inr (.inr f)))))) {i : Int32} (hin : vp_in i n) {a : Nat} (ha : lay k = a) {v : Value} (hv : va_rf (f i.toNatClampNeg) = v) (hdg : decode cc pc = .ok (.aaload, 1))
    (kk : V p l e R s m args below meth c Q Z B0 nL lay C cells slots (pc + 1) lv (v :: rest)) : V p l e R s m args below meth c Q Z B0 nL lay C cells slots pc lv (.int i :: .ref a :: rest) := by
  intro ls H locs hl hP hS
  subst ha
  subst hv
  have hlt : i.toNatClampNeg < n := Nat.not_le.mp fun q => hin (Or.inr q)
  exact W.aald (v := va_rf (f i.toNatClampNeg)) (ty := .object "Postunion$Post") X.1.1 X.1.2.1 (hP.1 k _ he) ((X.2.1.1.2 3 (Z.2 3, _) rfl).1 n (fun j => va_rf (f j))) rfl (fun q => by cases q) (by show ¬ (i < 0 ∨ (arrV _ _ _).slots.size ≤ _); rw [arrV_size]; exact hin) (by show (arrV _ _ _).slots[_]? = _; rw [arrV_read _ _ hlt]) rfl rfl hdg (kk ls H locs hl hP hS)
theorem x_aald4 (X : Cx p m meth c cc nL s args own Z B0) (k : xK) {n : Nat} {f : Nat → Option Nat} (he : C k = some (.inl (Z.2 4, n, .inr (.inr (.inr (.inr f)))))) {i : Int32} (hin : vp_in i n) {a : Nat} (ha : lay k = a) {v : Value} (hv : va_rf (f i.toNatClampNeg) = v) (hdg : decode cc pc = .ok (.aaload, 1))
    (kk : V p l e R s m args below meth c Q Z B0 nL lay C cells slots (pc + 1) lv (v :: rest)) : V p l e R s m args below meth c Q Z B0 nL lay C cells slots pc lv (.int i :: .ref a :: rest) := by
  intro ls H locs hl hP hS
  subst ha
  subst hv
  have hlt : i.toNatClampNeg < n := Nat.not_le.mp fun q => hin (Or.inr q)
  exact W.aald (v := va_rf (f i.toNatClampNeg)) (ty := .object "Postunion$Thing") X.1.1 X.1.2.1 (hP.1 k _ he) ((X.2.1.1.2 4 (Z.2 4, _) rfl).1 n (fun j => va_rf (f j))) rfl (fun q => by cases q) (by show ¬ (i < 0 ∨ (arrV _ _ _).slots.size ≤ _); rw [arrV_size]; exact hin) (by show (arrV _ _ _).slots[_]? = _; rw [arrV_read _ _ hlt]) rfl rfl hdg (kk ls H locs hl hP hS)
theorem x_aald5 (X : Cx p m meth c cc nL s args own Z B0) (k : xK) {n : Nat} {f : Nat → Option Nat} (he : C k = some (.inl (Z.2 5, n, .inr (.inr (.inr (.inr f)))))) {i : Int32} (hin : vp_in i n) {a : Nat} (ha : lay k = a) {v : Value} (hv : va_rf (f i.toNatClampNeg) = v) (hdg : decode cc pc = .ok (.aaload, 1))
    (kk : V p l e R s m args below meth c Q Z B0 nL lay C cells slots (pc + 1) lv (v :: rest)) : V p l e R s m args below meth c Q Z B0 nL lay C cells slots pc lv (.int i :: .ref a :: rest) := by
  intro ls H locs hl hP hS
  subst ha
  subst hv
  have hlt : i.toNatClampNeg < n := Nat.not_le.mp fun q => hin (Or.inr q)
  exact W.aald (v := va_rf (f i.toNatClampNeg)) (ty := .object "Postunion$Leg") X.1.1 X.1.2.1 (hP.1 k _ he) ((X.2.1.1.2 5 (Z.2 5, _) rfl).1 n (fun j => va_rf (f j))) rfl (fun q => by cases q) (by show ¬ (i < 0 ∨ (arrV _ _ _).slots.size ≤ _); rw [arrV_size]; exact hin) (by show (arrV _ _ _).slots[_]? = _; rw [arrV_read _ _ hlt]) rfl rfl hdg (kk ls H locs hl hP hS)
theorem x_iast (X : Cx p m meth c cc nL s args own Z B0) (k : xK) {n : Nat} {f : Nat → Int32} (he : C k = some (.inl (Z.2 0, n, .inl f))) {i : Int32} {x : Int32} (hin : vp_in i n) {a : Nat} (ha : lay k = a) {C' : xK → Option xE} (hC : ∀ j, C' j = xup C k (.inl (Z.2 0, n, .inl (upd f i.toNatClampNeg x))) j) (hdg : decode cc pc = .ok (.iastore, 1))
    (kk : V p l e R s m args below meth c Q Z B0 nL lay C' cells slots (pc + 1) lv rest) : V p l e R s m args below meth c Q Z B0 nL lay C cells slots pc lv (.int x :: .int i :: .ref a :: rest) := by
  intro ls H locs hl hP hS
  subst ha
  refine W.iast X.1.1 X.1.2.1 (hP.1 k _ he) ((X.2.1.1.2 0 (Z.2 0, _) rfl).1 n (fun j => .int (f j))) (fun q => by cases q) (by show ¬ (i < 0 ∨ (arrV _ _ _).slots.size ≤ _); rw [arrV_size]; exact hin) rfl rfl hdg fun H1 e z oq => ?_
  refine kk ls H1 _ hl (hP.put he ?_ oq hC) (hS.put z oq (hP.2.2 k (by rw [he]; exact fun z => by cases z)))
  show H1[lay k]? = some (vp_cell _ _)
  rw [e]
  rw [vp_cell_i, vp_cell_i, arrV_store]
  congr 2
  funext q
  by_cases hq : q = i.toNatClampNeg
  · subst hq
    simp [updV, upd]
  · simp [updV, upd, hq]
theorem x_last (X : Cx p m meth c cc nL s args own Z B0) (k : xK) {n : Nat} {f : Nat → Int64} (he : C k = some (.inl (Z.2 1, n, .inr (.inl f)))) {i : Int32} {x : Int64} (hin : vp_in i n) {a : Nat} (ha : lay k = a) {C' : xK → Option xE} (hC : ∀ j, C' j = xup C k (.inl (Z.2 1, n, .inr (.inl (vp_updL f i.toNatClampNeg x)))) j) (hdg : decode cc pc = .ok (.lastore, 1))
    (kk : V p l e R s m args below meth c Q Z B0 nL lay C' cells slots (pc + 1) lv rest) : V p l e R s m args below meth c Q Z B0 nL lay C cells slots pc lv (.long x :: .int i :: .ref a :: rest) := by
  intro ls H locs hl hP hS
  subst ha
  refine W.last X.1.1 X.1.2.1 (hP.1 k _ he) ((X.2.1.1.2 1 (Z.2 1, _) rfl).1 n (fun j => .long (f j))) (fun q => by cases q) (by show ¬ (i < 0 ∨ (arrV _ _ _).slots.size ≤ _); rw [arrV_size]; exact hin) rfl rfl hdg fun H1 e z oq => ?_
  refine kk ls H1 _ hl (hP.put he ?_ oq hC) (hS.put z oq (hP.2.2 k (by rw [he]; exact fun z => by cases z)))
  show H1[lay k]? = some (vp_cell _ _)
  rw [e]
  rw [vp_cell_l, vp_cell_l, arrV_store]
  congr 2
  funext q
  by_cases hq : q = i.toNatClampNeg
  · subst hq
    simp [updV, vp_updL]
  · simp [updV, vp_updL, hq]
theorem x_alen (X : Cx p m meth c cc nL s args own Z B0) (k : xK) (t0 : Nat) {y : ClassId × vp_A} (he : C k = some (.inl y)) {ty : FieldType} (ht : (xTy Z)[t0]? = some (y.1, ty)) {a : Nat} (ha : lay k = a) {v : Int32} (hv : Int32.ofNat y.2.1 = v) (hdg : decode cc pc = .ok (.arraylength, 1))
    (kk : V p l e R s m args below meth c Q Z B0 nL lay C cells slots (pc + 1) lv (.int v :: rest)) : V p l e R s m args below meth c Q Z B0 nL lay C cells slots pc lv (.ref a :: rest) := by
  intro ls H locs hl hP hS
  subst ha
  obtain ⟨cA, n, f⟩ := y
  refine va_alen (D := Z.1) (cl := vwCl) (ws := [(lay k, .inl (cA, n, f))]) X.1.1 X.1.2.1 X.2.1.1 (fun i q hq => ?_) 0 t0 rfl ht hv hdg (kk ls H locs hl hP hS)
  cases i with
  | zero => cases hq; exact hP.1 k _ he
  | succ i => simp at hq
theorem x_aast3 (X : Cx p m meth c cc nL s args own Z B0) (k kv : xK) {n : Nat} {f : Nat → Option Nat} {fv : Nat → Value} (he : C k = some (.inl (Z.2 3, n, .inr (.inr (.inr (.inr f)))))) (hkv : C kv = some (.inr (1, fv))) {i : Int32} (hin : vp_in i n) {a v : Nat} (ha : lay k = a) (hv : lay kv = v) {C' : xK → Option xE} (hC : ∀ j, C' j = xup C k (.inl (Z.2 3, n, .inr (.inr (.inr (.inr (va_up f i.toNatClampNeg (some v))))))) j) (hdg : decode cc pc = .ok (.aastore, 1))
    (kk : V p l e R s m args below meth c Q Z B0 nL lay C' cells slots (pc + 1) lv rest) : V p l e R s m args below meth c Q Z B0 nL lay C cells slots pc lv (.ref v :: .int i :: .ref a :: rest) := by
  intro ls H locs hl hP hS
  subst ha
  have hlt : i.toNatClampNeg < n := Nat.not_le.mp fun q => hin (Or.inr q)
  have h0 : ¬ i < 0 := fun q => hin (Or.inl q)
  obtain ⟨r', hr', cellV, g1, g2, g3, -⟩ := hP.1 kv _ hkv
  rw [hv] at g1
  have hcls := (X.2.1.1.1 1 _ rfl).2
  obtain ⟨kA, comp, k1, k2, k3, -⟩ := (X.2.1.1.2 3 (Z.2 3, _) rfl).2
  have hcomp : comp = Z.1.1 1 := Option.some.inj (k3.symm.trans hcls.1)
  subst hcomp
  obtain ⟨kC, hkC, -⟩ := hcls.2
  refine W.aast X.1.1 X.1.2.1 (hP.1 k _ he) (fun q h => by cases h) (fun h => by cases h) k1 k2 rfl hkC ⟨h0, by show _ < (arrV _ _ _).slots.size; rw [arrV_size]; exact hlt⟩ g1 (fun q h => by rw [g3] at h; cases h) (by rw [g2]; exact hkC) (by rw [g2]; exact va_assign hcls) rfl rfl hdg fun H1 e z oq => ?_
  refine kk ls H1 _ hl (hP.put he ?_ oq hC) (hS.put z oq (hP.2.2 k (by rw [he]; exact fun z => by cases z)))
  show H1[lay k]? = some (vp_cell _ _)
  rw [e]
  rw [vp_cell_q, vp_cell_q, arrV_store]
  congr 2
  funext q
  by_cases hq : q = i.toNatClampNeg
  · subst hq
    simp [updV, va_up, va_rf]
  · simp [updV, va_up, hq]
theorem x_aast4 (X : Cx p m meth c cc nL s args own Z B0) (k kv : xK) {n : Nat} {f : Nat → Option Nat} {fv : Nat → Value} (he : C k = some (.inl (Z.2 4, n, .inr (.inr (.inr (.inr f)))))) (hkv : C kv = some (.inr (3, fv))) {i : Int32} (hin : vp_in i n) {a v : Nat} (ha : lay k = a) (hv : lay kv = v) {C' : xK → Option xE} (hC : ∀ j, C' j = xup C k (.inl (Z.2 4, n, .inr (.inr (.inr (.inr (va_up f i.toNatClampNeg (some v))))))) j) (hdg : decode cc pc = .ok (.aastore, 1))
    (kk : V p l e R s m args below meth c Q Z B0 nL lay C' cells slots (pc + 1) lv rest) : V p l e R s m args below meth c Q Z B0 nL lay C cells slots pc lv (.ref v :: .int i :: .ref a :: rest) := by
  intro ls H locs hl hP hS
  subst ha
  have hlt : i.toNatClampNeg < n := Nat.not_le.mp fun q => hin (Or.inr q)
  have h0 : ¬ i < 0 := fun q => hin (Or.inl q)
  obtain ⟨r', hr', cellV, g1, g2, g3, -⟩ := hP.1 kv _ hkv
  rw [hv] at g1
  have hcls := (X.2.1.1.1 3 _ rfl).2
  obtain ⟨kA, comp, k1, k2, k3, -⟩ := (X.2.1.1.2 4 (Z.2 4, _) rfl).2
  have hcomp : comp = Z.1.1 3 := Option.some.inj (k3.symm.trans hcls.1)
  subst hcomp
  obtain ⟨kC, hkC, -⟩ := hcls.2
  refine W.aast X.1.1 X.1.2.1 (hP.1 k _ he) (fun q h => by cases h) (fun h => by cases h) k1 k2 rfl hkC ⟨h0, by show _ < (arrV _ _ _).slots.size; rw [arrV_size]; exact hlt⟩ g1 (fun q h => by rw [g3] at h; cases h) (by rw [g2]; exact hkC) (by rw [g2]; exact va_assign hcls) rfl rfl hdg fun H1 e z oq => ?_
  refine kk ls H1 _ hl (hP.put he ?_ oq hC) (hS.put z oq (hP.2.2 k (by rw [he]; exact fun z => by cases z)))
  show H1[lay k]? = some (vp_cell _ _)
  rw [e]
  rw [vp_cell_q, vp_cell_q, arrV_store]
  congr 2
  funext q
  by_cases hq : q = i.toNatClampNeg
  · subst hq
    simp [updV, va_up, va_rf]
  · simp [updV, va_up, hq]
theorem x_aast5 (X : Cx p m meth c cc nL s args own Z B0) (k kv : xK) {n : Nat} {f : Nat → Option Nat} {fv : Nat → Value} (he : C k = some (.inl (Z.2 5, n, .inr (.inr (.inr (.inr f)))))) (hkv : C kv = some (.inr (0, fv))) {i : Int32} (hin : vp_in i n) {a v : Nat} (ha : lay k = a) (hv : lay kv = v) {C' : xK → Option xE} (hC : ∀ j, C' j = xup C k (.inl (Z.2 5, n, .inr (.inr (.inr (.inr (va_up f i.toNatClampNeg (some v))))))) j) (hdg : decode cc pc = .ok (.aastore, 1))
    (kk : V p l e R s m args below meth c Q Z B0 nL lay C' cells slots (pc + 1) lv rest) : V p l e R s m args below meth c Q Z B0 nL lay C cells slots pc lv (.ref v :: .int i :: .ref a :: rest) := by
  intro ls H locs hl hP hS
  subst ha
  have hlt : i.toNatClampNeg < n := Nat.not_le.mp fun q => hin (Or.inr q)
  have h0 : ¬ i < 0 := fun q => hin (Or.inl q)
  obtain ⟨r', hr', cellV, g1, g2, g3, -⟩ := hP.1 kv _ hkv
  rw [hv] at g1
  have hcls := (X.2.1.1.1 0 _ rfl).2
  obtain ⟨kA, comp, k1, k2, k3, -⟩ := (X.2.1.1.2 5 (Z.2 5, _) rfl).2
  have hcomp : comp = Z.1.1 0 := Option.some.inj (k3.symm.trans hcls.1)
  subst hcomp
  obtain ⟨kC, hkC, -⟩ := hcls.2
  refine W.aast X.1.1 X.1.2.1 (hP.1 k _ he) (fun q h => by cases h) (fun h => by cases h) k1 k2 rfl hkC ⟨h0, by show _ < (arrV _ _ _).slots.size; rw [arrV_size]; exact hlt⟩ g1 (fun q h => by rw [g3] at h; cases h) (by rw [g2]; exact hkC) (by rw [g2]; exact va_assign hcls) rfl rfl hdg fun H1 e z oq => ?_
  refine kk ls H1 _ hl (hP.put he ?_ oq hC) (hS.put z oq (hP.2.2 k (by rw [he]; exact fun z => by cases z)))
  show H1[lay k]? = some (vp_cell _ _)
  rw [e]
  rw [vp_cell_q, vp_cell_q, arrV_store]
  congr 2
  funext q
  by_cases hq : q = i.toNatClampNeg
  · subst hq
    simp [updV, va_up, va_rf]
  · simp [updV, va_up, hq]
end XV
