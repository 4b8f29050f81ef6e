/-! constructors: the reference -/
section XMM
variable {p : Program} {l : Launch} {e : Env} {R : Room} {s : State} {m : MethodId} {args : Array Value} {below : List Frame} {meth : Method} {c : Code} {Q : State → Prop} {Z : xZ} {B0 nL : Nat} {lay : xK → Nat} {r : xK → Option xE} {cells slots pc : Nat} {lv : List (Option Value)} {rest : List Value} {cc : ByteArray}
end XMM