abbrev ix (x : Int32) : Nat := x.toNatClampNeg
abbrev Mu : Type := (Nat → Nat → Int32) × (Nat → Nat → Int64)
def up2 {α : Type} (f : Nat → Nat → α) (j i : Nat) (v : α) : Nat → Nat → α := fun a b => if a = j ∧ b = i then v else f a b
def mSc : Nat → Bool := fun j => match j with | 0 => true | 10 => true | 16 => true | 30 => true | 36 => true | 38 => true | _ => false
def mLen : Nat → Nat := fun j => match j with | 1 => 24 | 2 => 24 | 3 => 24 | 4 => 8 | 5 => 8 | 6 => 8 | 7 => 8 | 8 => 8 | 9 => 64 | 11 => 20 | 12 => 20 | 13 => 20 | 14 => 20 | 15 => 8 | 17 => 40 | 18 => 40 | 19 => 40 | 20 => 40 | 21 => 40 | 22 => 40 | 23 => 40 | 24 => 40 | 25 => 40 | 26 => 40 | 27 => 40 | 28 => 40 | 29 => 40 | 31 => 80000 | 32 => 80000 | 33 => 40 | 34 => 40 | 35 => 40 | 37 => 3 | _ => 0
def mTy : Nat → Nat := fun j => match j with | 6 => 2 | 7 => 1 | 8 => 1 | 9 => 1 | 14 => 2 | 21 => 2 | 27 => 2 | 28 => 2 | 29 => 2 | _ => 0
theorem up2_ne {α : Type} (f : Nat → Nat → α) (j i : Nat) (v : α) (a : Nat) (h : a ≠ j) : up2 f j i v a = f a := by funext b; simp [up2, h]
section XM
variable {p : Program} {l : Launch} {e : Env} {R : Room} {s : State} {m : MethodId} {args : Array Value} {below : List Frame} {meth : Method} {c : Code} {Q : State → Prop} {Z : xZ} {B0 nL : Nat} {lay : xK → Nat} {μ : Mu} {r : xK → Option xE} {cells slots pc : Nat} {lv : List (Option Value)} {rest : List Value} {cc : ByteArray}
theorem v_st {C : xK → Option xE} {st st' : List Value} (h : st = st') (k : V p l e R s m args below meth c Q Z B0 nL lay C cells slots pc lv st') : V p l e R s m args below meth c Q Z B0 nL lay C cells slots pc lv st := h ▸ k
end XM
