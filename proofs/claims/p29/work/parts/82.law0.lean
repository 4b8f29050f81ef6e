/-! what the law's loop stands on -/
theorem nI_two (i : Nat) : (2 : Int32) * nI i = nI (2 * i) := by
  rw [show 2 * i = i + i by omega, ← nI_add]
  grind
theorem nI_gt0 {n : Nat} (hn : n < 2 ^ 31) (h : ¬ 0 < nI n) : n = 0 := by
  rcases Nat.eq_zero_or_pos n with z | z
  · exact z
  · exact absurd (nI_lt (a := 0) z hn) h
theorem capS_b {tb : Tb} {c : Nat} (h : ∀ t, tb.2.2 t ≤ c) : ∀ n, capS tb n ≤ n * c
  | 0 => by rw [capS]; omega
  | n + 1 => by
    have := capS_b h n
    have := h n
    rw [capS, Nat.add_mul]
    omega
/-- the hands' rows have room -/
theorem Pp_b {μ : Mu} {tb : Tb} {k : Nat} (h : LJ μ tb k) (hk : k < 500) : Pp tb ≤ 144320 := by
  have h1 : ∀ t, tb.2.2 t ≤ 3608 := fun t => by
    rcases Nat.lt_or_ge t (nT μ) with ht | ht
    · obtain ⟨n, n1, n2, n3, -⟩ := (h.T ht).2.2.2.2.2.1
      have h2 := h.1.2.h (by omega) ht
      rw [n2, ix_nI (by omega)] at h2
      omega
    · rw [h.1.1.2.2.2.2.2.2 t ht]
      exact Nat.zero_le _
  have := capS_b h1 40
  unfold Pp
  omega
theorem tb_days0 {μ : Mu} {tb : Tb} (hI : RI μ) (n : Nat) : Pp tb ≤ Pp (KT_days n (0, μ) tb) := by
  have h := Pp_daysle (q := (0, μ)) (tb := tb) hI (Nat.zero_le n)
  rw [show KT_days 0 (0, μ) tb = tb from by rw [KT_days]] at h
  exact h
section LK
variable {p : Program} {l : Launch} {e : Env} {R : Room} {s : State} {m : MethodId} {args : Array Value} {below : List Frame} {meth : Method} {c : Code} {Q : State → Prop} {Z : xZ} {B0 nL : Nat} {lay : xK → Nat} {C : xK → Option xE} {cells slots pc : Nat} {lv : List (Option Value)} {st : List Value} {cc : ByteArray} {own : String}
/-- the keys' kinds exchanged -/
theorem v_sw (k : V p l e R s m args below meth c Q Z B0 nL (csw lay) (csw C) cells slots pc lv st) : V p l e R s m args below meth c Q Z B0 nL lay C cells slots pc lv st := fun ls H locs hl hP hS => k ls H locs hl (xP_sw hP) hS
/-- a cell of the script -/
theorem v_wK (X : Cx p m meth c cc nL s args own Z B0) (hE : xEx B0 s ∧ xNc s) {b L : Nat} {xs : Nat → Int32} (hX : va_X b L xs s s.heap) (hbl : b < B0) (hL : L ≤ 3584) {k : Nat} (hk : k < 2 ^ 30) (rest : List Value) {index : Nat} (hlink : Cond.methodLink own index yL_cell ∈ BG) (hown : yL_cell.cls = own) (hW : (rest.map fun v => v.category).sum ≤ 8) (hdg : decode cc pc = .ok (.invokestatic index, 3)) (hR : 0 + 1 ≤ R.frames ∧ 8 + (3 + 11) + 0 ≤ R.locals) (hf : cells + 0 ≤ R.cells ∧ slots + 0 ≤ R.slots)
    (kk : ∀ x : Int32, V p l e R s m args below meth c Q Z B0 nL lay C cells slots (pc + 3) lv (.int x :: rest)) : V p l e R s m args below meth c Q Z B0 nL lay C cells slots pc lv (.int (nI k) :: .ref b :: rest) := by
  intro ls H locs hl hP hS
  have M := myL_cell
  have hr := vx_runS (e := e) (below := below) (meth := meth) (H := H) (locs := locs) (cells := cells) (slots := slots) (n := 2) (As := [.ref b, .int (nI k)]) (rest := rest) (g := F0 m pc ls (([.ref b, .int (nI k)] : List Value).reverse ++ rest)) X.1 (c_cell (l := l) (Z := Z) (lay := lay) (C := C) (xs := xs) hbl hL hk) (cwS 2 X.1.2.2.2.2 (BG_sub (fun w hw => by
    rcases List.mem_append.mp hw with hw | hw
    · simp only [List.mem_cons, List.not_mem_nil, or_false] at hw
      rcases hw with rfl | rfl | rfl
      · exact hlink
      · exact M.1
      · rw [← hown]; exact M.2.1
    · rcases List.mem_cons.mp hw with rfl | hw
      · exact M.2.2.1
      · exact hw)) rfl rfl rfl ⟨hown, M.2.2.2.1⟩ hR) ⟨yPC.blind, fun U hU hW9 => ⟨⟨⟨⟨rfl, by rw [hU]; exact hP, X.2.1.warm hW9, by rw [hU]; exact Nat.le_trans X.2.2.1 hS.1⟩, hE.1.go (locs := locs) hW9 (by rw [hU]; exact hS)⟩, hE.2.moved hW9.alike⟩, by rw [hU]; exact (hX.kept (hS.2.1 b (Nat.lt_of_lt_of_le hbl X.2.2.1) (Nat.not_le.mpr hbl))).moved hW9.alike⟩⟩ rfl rfl hl.1 rfl (lv_room hW) hdg hf
  intro T hT X9
  rcases hr T hT X9 with ⟨v, st₀, t, T', L9, h0, X', hL9, e1, e2, ⟨⟨v', lay', C', hv, ⟨rfl, rfl, x, rfl⟩, hP'⟩, hF⟩, stp⟩ | ⟨q, st₀, t, T', L9, E, ce9, h0, X', hL9, e1, e2, hF, -⟩
  · cases hv
    obtain ⟨k1, k2, k3⟩ := vx_keep (free := fun q => B0 ≤ q) h0 e1 hS (fun _ _ h => h) (fun _ h => h) hL9 hF
    obtain ⟨t2, a1, b1⟩ := kk x ls T'.heap (locs ++ L9) hl (by rw [e1]; exact hP') k3 T' rfl X'
    exact ⟨t2, stp t2 a1, b1⟩
  · exact hF.elim
end LK
theorem law_end {p : Program} {l : Launch} {e : Env} {s : State} {m : MethodId} {below : List Frame} {meth : Method} {c : Code} {Z : xZ} {b : Nat} {cells slots : Nat} {lay : xK → Nat} {C : xK → Option xE} {lv : List (Option Value)} (hx : p.tables.exec = Jvm.exec) (hb : c.code = code) (hr : meth.sig.returnType = ret) (hlocks : meth.locks = false) (h1 : cells ≤ 600074) (h2 : slots ≤ 7301550) : V p l e room_1 s m #[Value.ref b] below meth c (lw_Z below #[Value.ref b] s) Z s.heap.size 9 lay C cells slots 272 lv [.int 1] := by
  intro ls H locs hl hP hS
  exact va_forget hS.2.2 (W.widen h1 h2 (lw_ret hx hb hr hlocks (xdec_at tL_law_3 26 rfl)))
/-- the law's room, by turns gone by -/
def RM (cells slots i : Nat) (tb : Tb) : Prop := cells ≤ 3000 + 1000 * i + 4800 * ((i + 29) / 30) + 2 * Pp tb ∧ slots ≤ 20000 + 7000 * i + 28800 * ((i + 29) / 30) + 4 * Pp tb
/-- the law goes well from the head of its loop on -/
def LST (p : Program) (l : Launch) (e : Env) (s : State) (m : MethodId) (below : List Frame) (meth : Method) (c : Code) (Z : xZ) (b i : Nat) : Prop := ∀ (lay : xK → Nat) (μ : Mu) (tb : Tb) (cells slots : Nat) (v6 v7 v8 : Option Value), LJ μ tb (2 * i) → (0 < nG μ → 3 ≤ nP μ) → RM cells slots i tb → V p l e room_1 s m #[Value.ref b] below meth c (lw_Z below #[Value.ref b] s) Z s.heap.size 9 lay (W2 Z lay μ tb μ tb (dR Z (dv μ))) cells slots 30 [some (.ref b), some (.ref (lay (0, 0))), some (.ref (lay (500, 0))), some (.ref (lay (300, 0))), some (.int 1), some (.int (nI i)), v6, v7, v8] []
theorem LI_0 : LI μ0 (K_reckon μ0 tb0.1, tb0.2) 0 := by
  have z : ∀ {P : Prop} (t : Nat), t < nT μ0 → P := fun t ht => absurd ht (Nat.not_lt_zero t)
  have hs : ix (μ0.1 30 0) = sumH μ0 (nT μ0) := rfl
  exact ⟨⟨RI_0, KI_0, ⟨fun _ _ => 0, fun t ht => z t ht⟩, ⟨tb0.1, rfl⟩, hs, fun t ht => z t ht, fun _ _ => rfl⟩, fun t ht => z t ht, hs⟩
theorem LJ_0 : LJ μ0 (K_reckon μ0 tb0.1, tb0.2) 0 := by
  refine ⟨LI_0, rfl, fun t ht => absurd ht (Nat.not_lt_zero t), fun i => ?_, fun p => ?_⟩
  · show inR (0 : Int32) 0 10000 ∧ inR (0 : Int32) 0 10000 ∧ inR (0 : Int32) 0 10000
    decide
  · show -(((0 + 1 : Nat) : Int) * 1000000000000) ≤ (0 : Int64).toInt ∧ (0 : Int64).toInt ≤ ((0 + 1 : Nat) : Int) * 1000000000000
    decide
/-- two objects made one after the other are the law's world -/
theorem W2_made {Z : xZ} {l1 l2 : xK → Nat} {T : Tb} (h : ∀ k, (∀ j, 1 ≤ j → j ≤ 7 → k ≠ ((j, 0) : xK)) → k ≠ (0, 0) → l2 k = csw l1 k) : csw (cX Z l2 μ0 T (csw (cX Z l1 μ0 T fun _ => none))) = W2 Z (csw l2) μ0 T μ0 T fun _ => none := by
  rw [← W2_sw]
  refine congrArg csw ?_
  unfold W2
  funext k
  refine cX_rk ?_
  unfold tw
  obtain ⟨a, b⟩ := k
  have hl : cX Z (csw l2) μ0 T (fun _ => none) = cX Z l1 μ0 T (fun _ => none) := cXg_lay (fun q hq => by
    obtain ⟨a, b⟩ := q
    have hq' : a < 40 := hq
    show l2 (sw (a, b)) = l1 (a, b)
    rw [sw_o b hq', h (a + 500, b) (fun j h1 h2 z => by have := congrArg Prod.fst z; dsimp only at this; omega) (fun z => by have := congrArg Prod.fst z; dsimp only at this; omega)]
    show l1 (sw (a + 500, b)) = _
    rw [sw_t b ⟨by omega, by omega⟩, Nat.add_sub_cancel])
  by_cases h1 : a < 40
  · rw [if_pos h1]
    show cX Z l1 μ0 T (fun _ => none) (sw (a, b)) = none
    rw [sw_o b h1, cX_hi (show 40 ≤ a + 500 by omega)]
  · rw [if_neg h1]
    by_cases h2 : 500 ≤ a ∧ a < 540
    · rw [if_pos h2, hl]
      show cX Z l1 μ0 T (fun _ => none) (sw (a, b)) = _
      rw [sw_t b h2]
    · rw [if_neg h2]
      show cX Z l1 μ0 T (fun _ => none) (sw (a, b)) = none
      rw [sw_r (k := (a, b)) (by show 40 ≤ a; omega) (by show a < 500 ∨ 540 ≤ a; omega), cX_hi (show 40 ≤ a by omega)]
