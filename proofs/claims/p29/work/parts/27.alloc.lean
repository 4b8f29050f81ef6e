/-! static methods of other classes; copying ints; new arrays and objects at new keys -/
theorem mJfill : xMS yJ7_fill_53178 cJ7_fill_53178 4 (none : Option FieldType) 2 := ⟨(xw_at tW_1 15 rfl), ⟨(xw_at tW_0 18 rfl), (xw_at tW_1 16 rfl), by decide +kernel, by decide +kernel⟩⟩
theorem mJcopyOf : xMS yJ7_copyOf_59c91 cJ7_copyOf_59c91 3 (some (FieldType.array FieldType.int)) 2 := ⟨(xw_at tW_10 20 rfl), ⟨(xw_at tW_0 18 rfl), (xw_at tW_10 21 rfl), by decide +kernel, by decide +kernel⟩⟩
def K_min (a b : Int32) : Int32 := if b < a then b else a
def K_max (a b : Int32) : Int32 := if a < b then b else a
section XAl
variable {p : Program} {l : Launch} {e : Env} {R : Room} {s : State} {m : MethodId} {args : Array Value} {below : List Frame} {meth : Method} {c : Code} {Q : State → Prop} {Z : xZ} {B0 nL : Nat} {lay : xK → Nat} {C : xK → Option xE} {cells slots pc : Nat} {lv : List (Option Value)} {rest st : List Value} {cc : ByteArray} {own : String} {y : MethodName} {cb : ByteArray} {nLb fr lo ce sl n : Nat} {ret : Option FieldType} {post : Option Value → (xK → Nat) → (xK → Option xE) → Prop}
/-- a static method of another class -/
theorem v_callSO (X : Cx p m meth c cc nL s args own Z B0) (M : xMS y cb nLb ret n) (As : List Value) (rest : List Value) (h : YM l y cb nLb ret fr lo ce sl Z B0 As lay C post) {index : Nat} (hlink : Cond.methodLink own index y ∈ BG) (hn : As.length = n) (hst : st = As.reverse ++ rest) (hW : (rest.map fun v => v.category).sum ≤ 8) (hdg : decode cc pc = .ok (.invokestatic index, 3)) (hR : fr + 1 ≤ R.frames ∧ 8 + (nLb + 11) + lo ≤ R.locals) (hf : cells + ce ≤ R.cells ∧ slots + sl ≤ R.slots)
    (kk : ∀ (v : Option Value) (lay' : xK → Nat) (C' : xK → Option xE), post v lay' C' → V p l e R s m args below meth c Q Z B0 nL lay' C' (cells + ce) (slots + sl) (pc + 3) lv (v.toList ++ rest)) : V p l e R s m args below meth c Q Z B0 nL lay C cells slots pc lv st := by
  intro ls H locs hl hP hS
  subst hst
  refine x_call (va_runS (n := n) (As := As) (rest := rest) X.1 h (va_cwS n X.1.2.2.2.2 (BG_sub (fun w hw => ?_)) rfl rfl rfl M.2.2.2.1 hR) ⟨yP.blind, fun U hU hW9 => ⟨rfl, by rw [hU]; exact hP, X.2.1.warm hW9, by rw [hU]; exact Nat.le_trans X.2.2.1 hS.1⟩⟩ rfl hn hl.1 rfl (lv_room hW) hdg hf) X.2.2.1 hS hl kk
  rcases List.mem_append.mp hw with hw | hw
  · simp only [List.mem_cons, List.not_mem_nil, or_false] at hw
    rcases hw with rfl | rfl | rfl
    · exact hlink
    · exact M.1
    · exact M.2.1
  · rcases List.mem_cons.mp hw with rfl | hw
    · exact M.2.2.1
    · exact hw
theorem v_min (X : Cx p m meth c cc nL s args own Z B0) {index : Nat} (hlink : Cond.methodLink own index Lib.Math.min.name ∈ BG) (hR : 1 ≤ R.frames ∧ (rest.map fun v => v.category).sum + 13 ≤ R.locals) (hf : cells ≤ R.cells ∧ slots ≤ R.slots) {x y : Int32} (hdg : decode cc pc = .ok (.invokestatic index, 3))
    (kk : V p l e R s m args below meth c Q Z B0 nL lay C cells slots (pc + 3) lv (.int (K_min x y) :: rest)) : V p l e R s m args below meth c Q Z B0 nL lay C cells slots pc lv (.int y :: .int x :: rest) := fun ls H locs hl hP hS =>
  va_mmin X.1.1 X.1.2.1 (by rw [X.1.2.2.1, hl.1]) X.1.2.2.2.1 (X.1.2.2.2.2 _ hlink) (X.1.2.2.2.2 _ (xw_at tW_1 24 rfl)) (X.1.2.2.2.2 _ (xw_at tW_0 19 rfl)) (X.1.2.2.2.2 _ (xw_at tW_1 25 rfl)) hR.1 hR.2 hf.1 hf.2 hdg (kk ls H locs hl hP hS)
theorem v_max (X : Cx p m meth c cc nL s args own Z B0) {index : Nat} (hlink : Cond.methodLink own index Lib.Math.max.name ∈ BG) (hR : 1 ≤ R.frames ∧ (rest.map fun v => v.category).sum + 13 ≤ R.locals) (hf : cells ≤ R.cells ∧ slots ≤ R.slots) {x y : Int32} (hdg : decode cc pc = .ok (.invokestatic index, 3))
    (kk : V p l e R s m args below meth c Q Z B0 nL lay C cells slots (pc + 3) lv (.int (K_max x y) :: rest)) : V p l e R s m args below meth c Q Z B0 nL lay C cells slots pc lv (.int y :: .int x :: rest) := fun ls H locs hl hP hS =>
  va_mmax X.1.1 X.1.2.1 (by rw [X.1.2.2.1, hl.1]) X.1.2.2.2.1 (X.1.2.2.2.2 _ hlink) (X.1.2.2.2.2 _ (xw_at tW_12 16 rfl)) (X.1.2.2.2.2 _ (xw_at tW_0 19 rfl)) (X.1.2.2.2.2 _ (xw_at tW_12 17 rfl)) hR.1 hR.2 hf.1 hf.2 hdg (kk ls H locs hl hP hS)
theorem x_copyi (X : Cx p m meth c cc nL s args own Z B0) {index : Nat} (hlink : Cond.methodLink own index arraycopyName ∈ BG) (k0 k1 : xK) {n0 n1 : Nat} {f g : Nat → Int32} (he0 : C k0 = some (.inl (Z.2 0, n0, .inl f))) (he1 : C k1 = some (.inl (Z.2 0, n1, .inl g))) {a0 a1 : Nat} (ha0 : lay k0 = a0) (ha1 : lay k1 = a1) {n : Int32} (h3 : ¬ n < 0) (h4 : ix n ≤ n0) (h5 : ix n ≤ n1) {C' : xK → Option xE} (hC : ∀ j, C' j = xup C k1 (.inl (Z.2 0, n1, .inl (va_cpy f g 0 0 (ix n)))) j)
    (hframes : 1 ≤ R.frames) (hlocals : (rest.map fun v => v.category).sum + (nativeFrameWords "java/lang/System" "arraycopy" 5 + 11) ≤ R.locals) (hdg : decode cc pc = .ok (.invokestatic index, 3))
    (kk : V p l e R s m args below meth c Q Z B0 nL lay C' cells slots (pc + 3) lv rest) : V p l e R s m args below meth c Q Z B0 nL lay C cells slots pc lv (.int n :: .int 0 :: .ref a1 :: .int 0 :: .ref a0 :: rest) := by
  intro ls H locs hl hP hS T hT Xs
  subst ha0 ha1
  have hts := X.1.2.2.2.2
  have hc0 : H[lay k0]? = some (vp_cell (Z.2 0) (n0, .inl f)) := hP.1 k0 _ he0
  have hc1 : H[lay k1]? = some (vp_cell (Z.2 0) (n1, .inl g)) := hP.1 k1 _ he1
  obtain ⟨-, kA, hkA, cmA, hkkA⟩ := (X.2.1.1.2 0 (Z.2 0, _) rfl).1 n0 (fun j => .int (f j))
  have nn : n.toInt = (ix n : Int) := by
    have hz0 : (0 : Int) ≤ n.toInt := by simpa using Int32.le_iff_toInt_le.mp (Int32.not_lt.mp h3)
    show n.toInt = ((n.toInt.toNat : Nat) : Int)
    omega
  obtain ⟨vm', X', step⟩ := Xs.arraycopy X.1.1 X.1.2.2.2.1 (hts _ hlink) (hts _ (xw_at tW_1 31 rfl)) (hts _ (xw_at tW_1 30 rfl)) (hts _ (xw_at tW_0 20 rfl)) (src := lay k0) (dst := lay k1) (cs := vp_cell (Z.2 0) (n0, .inl f)) (cd := vp_cell (Z.2 0) (n1, .inl g)) (srcPos := 0) (destPos := 0) (n := n) (by rw [hT]; exact hc0) (by rw [hT]; exact hc1)
    (fun _ h => by cases h) (fun _ h => by cases h) (fun h => by cases h) (fun h => by cases h) hkA hkA hkkA hkkA (by simp [refKind]) (by decide) (by decide) h3
    (by rw [nn]; show ¬ _ > ((arrV (Z.2 0) n0 (fun j => .int (f j))).slots.size : Int); rw [arrV_size, show (0 : Int32).toInt = 0 from rfl]; omega)
    (by rw [nn]; show ¬ _ > ((arrV (Z.2 0) n1 (fun j => .int (g j))).slots.size : Int); rw [arrV_size, show (0 : Int32).toInt = 0 from rfl]; omega)
    (fun vm₁ _ i hi => by
      have hz : (0 : Int32).toNatClampNeg = 0 := rfl
      have e : (vp_cell (Z.2 0) (n0, .inl f)).slots.getD ((0 : Int32).toNatClampNeg + i) .null = .int (f ((0 : Int32).toNatClampNeg + i)) := by
        show (arrV (Z.2 0) n0 (fun j => .int (f j))).slots.getD _ _ = _
        rw [Array.getD_eq_getD_getElem?, arrV_read _ _ (by rw [hz]; have : i < ix n := hi; omega)]
        rfl
      refine ⟨?_, ?_⟩
      · rw [e]; rfl
      · rw [e]; exact trivial)
    (g := F0 m pc ls (.int n :: .int 0 :: .ref (lay k1) :: .int 0 :: .ref (lay k0) :: rest)) rfl (by rw [X.1.2.2.1, hl.1]) (rest := rest) rfl (by rw [X.1.2.1]; exact hdg) hframes (by show 2 * 0 + _ + _ ≤ _; omega)
  have e1 : copied (vp_cell (Z.2 0) (n0, .inl f)) (vp_cell (Z.2 0) (n1, .inl g)) 0 0 n = vp_cell (Z.2 0) (n1, .inl (va_cpy f g 0 0 (ix n))) := va_copied (fun z => .int z) (Z.2 0) (Z.2 0) f g (by show 0 + ix n ≤ n0; omega)
  rw [e1] at X' step
  have hlt : lay k1 < H.size := (Array.getElem?_eq_some_iff.mp hc1).1
  have hheap : ((T.setVm vm').setCell (lay k1) (vp_cell (Z.2 0) (n1, .inl (va_cpy f g 0 0 (ix n))))).heap = H.setIfInBounds (lay k1) (vp_cell (Z.2 0) (n1, .inl (va_cpy f g 0 0 (ix n)))) := by rw [← hT]; rfl
  have oq : ∀ q : Nat, q ≠ lay k1 → (H.setIfInBounds (lay k1) (vp_cell (Z.2 0) (n1, .inl (va_cpy f g 0 0 (ix n)))))[q]? = H[q]? := fun q hq => by simp [Array.getElem?_setIfInBounds, Ne.symm hq]
  have hk1 : C k1 ≠ none := by rw [he1]; exact fun z => by cases z
  obtain ⟨t, b1, b2⟩ := kk ls _ _ hl (hP.put he1 (show x_at Z (lay k1) _ (H.setIfInBounds (lay k1) (vp_cell (Z.2 0) (n1, .inl (va_cpy f g 0 0 (ix n))))) from by show (H.setIfInBounds (lay k1) _)[lay k1]? = some _; simp [Array.getElem?_setIfInBounds, hlt]) oq hC) ⟨by simp; exact hS.1, fun q g1 g2 => by
      rw [oq q (fun e => g2 (by rw [e]; exact hP.2.2 k1 hk1))]
      exact hS.2.1 q g1 g2, fun q hq => by
      rcases List.mem_append.mp hq with h | h
      · exact hS.2.2 q h
      · obtain ⟨z, -, hz⟩ := List.mem_map.mp h
        rw [← hz]
        exact hP.2.2 k1 hk1⟩ _ hheap X'
  exact ⟨t, step t b1, b2⟩
theorem x_newi (X : Cx p m meth c cc nL s args own Z B0) (k : xK) (hk : C k = none) {n : Int32} {N : Nat} (hn : ¬ n < 0) (hN : ix n = N) (hb : N * 4 ≤ 536870912) (hR : cells + 1 ≤ R.cells ∧ slots + N ≤ R.slots) (hdg : decode cc pc = .ok (.newarray .int, 2))
    (kk : ∀ a, (∀ j, C j ≠ none → lay j ≠ a) → V p l e R s m args below meth c Q Z B0 nL (xlay lay k a) (xup C k (.inl (Z.2 0, N, .inl (fun _ => 0)))) (cells + 1) (slots + N) (pc + 2) lv (.ref a :: rest)) : V p l e R s m args below meth c Q Z B0 nL lay C cells slots pc lv (.int n :: rest) := by
  intro ls H locs hl hP hS
  have hZ := (X.2.1.1.2 0 (Z.2 0, _) rfl).2
  refine va_newaK X.1.1 X.1.2.1 (X.1.2.2.2.2 _ (xw_at tW_2 12 rfl)) rfl hdg rfl hn hN hb hR.1 hR.2 rfl fun H1 cA e1 z1 o1 hAr hNm => ?_
  have hcA : cA = Z.2 0 := Option.some.inj (hNm.symm.trans hZ)
  subst hcA
  exact kk H.size (fun j hj z => by obtain ⟨e9, h9⟩ := Option.ne_none_iff_exists'.mp hj; have := (hP.1 j e9 h9).lt; omega) ls H1 locs hl (hP.new (e := .inl (Z.2 0, N, .inl (fun _ => 0))) hk (Nat.le_trans X.2.2.1 hS.1) e1 o1 (fun j => rfl) (fun j _ => rfl)) ⟨Nat.le_trans hS.1 (by omega), fun x h1 h2 => (o1 x (Nat.lt_of_lt_of_le h1 hS.1)).trans (hS.2.1 x h1 h2), hS.2.2⟩
theorem x_newl (X : Cx p m meth c cc nL s args own Z B0) (k : xK) (hk : C k = none) {n : Int32} {N : Nat} (hn : ¬ n < 0) (hN : ix n = N) (hb : N * 8 ≤ 536870912) (hR : cells + 1 ≤ R.cells ∧ slots + N ≤ R.slots) (hdg : decode cc pc = .ok (.newarray .long, 2))
    (kk : ∀ a, (∀ j, C j ≠ none → lay j ≠ a) → V p l e R s m args below meth c Q Z B0 nL (xlay lay k a) (xup C k (.inl (Z.2 1, N, .inr (.inl (fun _ => 0))))) (cells + 1) (slots + N) (pc + 2) lv (.ref a :: rest)) : V p l e R s m args below meth c Q Z B0 nL lay C cells slots pc lv (.int n :: rest) := by
  intro ls H locs hl hP hS
  have hZ := (X.2.1.1.2 1 (Z.2 1, _) rfl).2
  refine va_newaK X.1.1 X.1.2.1 (X.1.2.2.2.2 _ (xw_at tW_7 36 rfl)) rfl hdg rfl hn hN hb hR.1 hR.2 rfl fun H1 cA e1 z1 o1 hAr hNm => ?_
  have hcA : cA = Z.2 1 := Option.some.inj (hNm.symm.trans hZ)
  subst hcA
  exact kk H.size (fun j hj z => by obtain ⟨e9, h9⟩ := Option.ne_none_iff_exists'.mp hj; have := (hP.1 j e9 h9).lt; omega) ls H1 locs hl (hP.new (e := .inl (Z.2 1, N, .inr (.inl (fun _ => 0)))) hk (Nat.le_trans X.2.2.1 hS.1) e1 o1 (fun j => rfl) (fun j _ => rfl)) ⟨Nat.le_trans hS.1 (by omega), fun x h1 h2 => (o1 x (Nat.lt_of_lt_of_le h1 hS.1)).trans (hS.2.1 x h1 h2), hS.2.2⟩
theorem x_newc (X : Cx p m meth c cc nL s args own Z B0) {C1 : String} {T : u_T} {N ci index : Nat} (hin : ∀ w ∈ u_ws C1 T N, w ∈ BG) (ty : Nat → FieldType) (hty : ∀ k, k < N → parseFieldDescriptor (T k).2.2.1 = some (ty k)) (hcl : Cond.classLink own index C1 ∈ BG) (hinst : Cond.instantiable C1 N ∈ BG) (hini : Cond.initialized C1 ∈ BG) (hc : vwCl[ci]? = some (C1, T, N)) (k : xK) (hk : C k = none) {f : Nat → Value} (hf : ∀ j, j < N → defaultValue (ty j) = f j) (hR : cells + 1 ≤ R.cells ∧ slots + N ≤ R.slots) (hdg : decode cc pc = .ok (.new index, 3))
    (kk : ∀ a, (∀ j, C j ≠ none → lay j ≠ a) → V p l e R s m args below meth c Q Z B0 nL (xlay lay k a) (xup C k (.inr (ci, f))) (cells + 1) (slots + N) (pc + 3) lv (.ref a :: rest)) : V p l e R s m args below meth c Q Z B0 nL lay C cells slots pc lv rest := by
  intro ls H locs hl hP hS
  have hts := X.1.2.2.2.2
  have hKn := X.2.1.1.1 ci _ hc
  refine W.newcK X.1.1 X.1.2.1 X.1.2.2.2.1 (hts _ hcl) (hts _ hinst) (hts _ hini) rfl hdg hR.1 hR.2 hKn.2.1 rfl fun H1 kC hkC e1 z1 o1 => ?_
  refine kk H.size (fun j hj z => by obtain ⟨e9, h9⟩ := Option.ne_none_iff_exists'.mp hj; have := (hP.1 j e9 h9).lt; omega) ls H1 locs hl (hP.new hk (Nat.le_trans X.2.2.1 hS.1) (show x_at Z H.size (.inr (ci, f)) H1 from ⟨_, hc, ?_⟩) o1 (fun j => rfl) (fun j _ => rfl)) ⟨Nat.le_trans hS.1 (by omega), fun x h1 h2 => (o1 x (Nat.lt_of_lt_of_le h1 hS.1)).trans (hS.2.1 x h1 h2), hS.2.2⟩
  have h9 := u_born ty hts hin hKn hkC e1 hty
  obtain ⟨cell, g1, g2, g3, g4⟩ := h9
  exact ⟨cell, g1, g2, g3, fun j hj => by show cell.slots[Z.1.2 ci j]? = some (f j); rw [← hf j hj]; exact g4 j hj⟩
end XAl
