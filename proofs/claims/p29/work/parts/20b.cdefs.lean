/-! the class's small answers -/
def K_bp (g p : Int32) : Int32 := if ¬ p ≤ 0 ∧ ¬ g ≤ 0 then (g - 1) / p + 1 else 0
def K_far (x : Int32) : Int32 := if 1000000 ≤ x then -1 else x
def K_rateOf (μ : Mu) (i : Nat) (k g b : Int32) : Int32 := row3 μ.1 1 i (ix k) + row3 μ.1 2 i (ix k) * K_bp (g - 20) 20 + (if b = 0 then 0 else 50)
def K_gainOf (μ : Mu) (i j : Nat) : Int32 := if i = j then 0 else if μ.1 5 i = 0 then 0 else row3 μ.1 1 j (ix 0) - μ.1 5 i
def K_leads (μ : Mu) (g : Nat) (f : Int32) : Int32 := if ¬ μ.1 14 g = 0 then -1 else if f = nI (ix (μ.1 11 g)) then nI (ix (μ.1 12 g)) else if f = nI (ix (μ.1 12 g)) then nI (ix (μ.1 11 g)) else -1
def K_tax (μ : Mu) (t : Nat) : Int64 := if row3 μ.1 1 (ix (μ.1 18 t)) (ix 0) = 0 then 2 * (μ.1 22 t).toInt64 else 2 * (μ.1 22 t).toInt64 * (row3 μ.1 1 (ix (μ.1 19 t)) (ix 0)).toInt64 / (row3 μ.1 1 (ix (μ.1 18 t)) (ix 0)).toInt64
def K_last (μ : Mu) (hd : Nat → Nat → Int32) (t : Nat) : Int32 := if μ.1 35 t ≤ 0 then -1 else hd t (ix (μ.1 35 t - 1))
