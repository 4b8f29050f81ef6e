/-! what each method of the reference does, as a function of its state: M_<method> -/
abbrev inR (v a b : Int32) : Prop := a ≤ v ∧ v ≤ b
abbrev isP (μ : Mu) (p : Int32) : Prop := inR p 0 (μ.1 0 0 - 1)
abbrev isT (μ : Mu) (t : Int32) : Prop := inR t 0 (μ.1 16 0 - 1)
abbrev isK (k : Int32) : Prop := inR k 0 2
abbrev arG (k g : Int32) : Prop := inR g 1 (if k = 1 then 20 else 2000)
abbrev undW (μ : Mu) (t : Nat) : Prop := μ.1 23 t = 0 ∨ μ.1 23 t = 1
abbrev th (μ : Mu) (k : Int32) : Mu := (up2 μ.1 38 0 k, μ.2)
def M_post (μ : Mu) : Int32 × Mu := if 8 ≤ μ.1 0 0 then (0, th μ 1) else (μ.1 0 0 + 1 - 1, (up2 (up2 μ.1 38 0 0) 0 0 (μ.1 0 0 + 1), μ.2))
def M_rates (μ : Mu) (p k f g : Int32) : Mu := if isP μ p then (if isK k ∧ inR f 0 10000 ∧ inR g 0 10000 then (up2 (up2 (up2 μ.1 38 0 0) 1 (ix (3 * p + k)) f) 2 (ix (3 * p + k)) g, μ.2) else th (th μ 0) 2) else th μ 1
def M_due (μ : Mu) (p k c : Int32) : Int32 × Mu := if isP μ p then (if isK k ∧ inR c 0 10000 then (μ.1 3 (ix (3 * p + k)), (up2 (up2 μ.1 38 0 0) 3 (ix (3 * p + k)) c, μ.2)) else (0, th (th μ 0) 2)) else (0, th μ 1)
def M_charge (μ : Mu) (p c : Int32) : Int32 × Mu := if isP μ p then (if inR c 0 1000 then (μ.1 4 (ix p), (up2 (up2 μ.1 38 0 0) 4 (ix p) c, μ.2)) else (0, th (th μ 0) 2)) else (0, th μ 1)
def M_coupon (μ : Mu) (p c : Int32) : Int32 × Mu := if isP μ p then (if inR c 0 10000 then (μ.1 5 (ix p), (up2 (up2 μ.1 38 0 0) 5 (ix p) c, μ.2)) else (0, th (th μ 0) 2)) else (0, th μ 1)
def M_strike (μ : Mu) (p c : Int32) : Int32 × Mu := if isP μ p then (μ.1 6 (ix p), (up2 (up2 μ.1 38 0 0) 6 (ix p) c, μ.2)) else (0, th μ 1)
def M_leg (μ : Mu) (a b d : Int32) : Int32 × Mu := if isP μ a ∧ isP μ b then (if a = b ∨ ¬ inR d 1 100 then (0, th (th μ 0) 2) else if μ.1 10 0 = 20 then (0, th (th μ 0) 3) else (μ.1 10 0 + 1 - 1, (up2 (up2 (up2 (up2 (up2 μ.1 38 0 0) 11 (ix (μ.1 10 0)) a) 12 (ix (μ.1 10 0)) b) 13 (ix (μ.1 10 0)) d) 10 0 (μ.1 10 0 + 1), μ.2))) else (0, th μ 1)
def M_close (μ : Mu) (g c : Int32) : Int32 × Mu := if inR g 0 (μ.1 10 0 - 1) then (μ.1 14 (ix g), (up2 (up2 μ.1 38 0 0) 14 (ix g) c, μ.2)) else (0, th μ 1)
def M_across (A : Nat → Nat → Int32) (g : Nat) (e : Int32) : Int32 := if A 11 g = e then A 12 g else A 11 g
def M_m1 (to : Int32) : Nat → (Nat → Nat → Int32) → (Nat → Nat → Int32)
  | 0, A => A
  | n + 1, A => up2 (M_m1 to n A) 15 n (if nI n = to then 0 else 1000000)
def M_m2a (A : Nat → Nat → Int32) (g : Nat) : Nat → Nat → Int32 := up2 A 15 (ix (A 12 g)) (if A 14 g = 0 ∧ ¬ A 15 (ix (A 12 g)) ≤ A 15 (ix (A 11 g)) + A 13 g then A 15 (ix (A 11 g)) + A 13 g else A 15 (ix (A 12 g)))
def M_m2 (A : Nat → Nat → Int32) (g : Nat) : Nat → Nat → Int32 := up2 (M_m2a A g) 15 (ix (A 11 g)) (if A 14 g = 0 ∧ ¬ M_m2a A g 15 (ix (A 11 g)) ≤ A 15 (ix (A 12 g)) + A 13 g then A 15 (ix (A 12 g)) + A 13 g else M_m2a A g 15 (ix (A 11 g)))
def M_m3 : Nat → (Nat → Nat → Int32) → (Nat → Nat → Int32)
  | 0, A => A
  | n + 1, A => M_m2 (M_m3 n A) n
def M_m4 (legs : Nat) : Nat → (Nat → Nat → Int32) → (Nat → Nat → Int32)
  | 0, A => A
  | n + 1, A => M_m3 legs (M_m4 legs n A)
def M_meas (μ : Mu) (to : Int32) : Mu := (M_m4 (ix (μ.1 10 0)) 8 (M_m1 to 8 μ.1), μ.2)
def M_told (μ : Mu) (a b : Int32) : Int32 × Mu := if isP μ a ∧ isP μ b then (if (M_meas (th μ 0) b).1 15 (ix a) < 1000000 then (M_meas (th μ 0) b).1 15 (ix a) else (-1), M_meas (th μ 0) b) else (0, th μ 1)
def M_nxs (A : Nat → Nat → Int32) (fr : Int32) (g : Nat) (fd : Int32) : Int32 := if A 14 g = 0 ∧ (A 11 g = fr ∨ A 12 g = fr) then (if A 13 g + A 15 (ix (M_across A g fr)) = A 15 (ix fr) ∧ (fd = -1 ∨ ¬ M_across A (ix fd) fr < M_across A g fr) then nI g else fd) else fd
def M_nx (A : Nat → Nat → Int32) (fr : Int32) : Nat → Int32 → Int32
  | 0, fd => fd
  | n + 1, fd => M_nx A fr n (M_nxs A fr n fd)
def M_nextOf (μ : Mu) (a b : Int32) : Int32 × Mu := (if ¬ a = b ∧ ¬ 1000000 ≤ (M_meas μ b).1 15 (ix a) then M_nx (M_meas μ b).1 a (ix (μ.1 10 0)) (-1) else (-1), M_meas μ b)
def M_next (μ : Mu) (a b : Int32) : Int32 × Mu := if isP μ a ∧ isP μ b then M_nextOf (th μ 0) a b else (0, th μ 1)
def M_rateOf (μ : Mu) (k p g b : Int32) : Int32 := μ.1 1 (ix (3 * p + k)) + μ.1 2 (ix (3 * p + k)) * ((g - 1) / 20) + (if b = 0 then 0 else 50)
def M_signs (μ : Mu) (t : Nat) (at' : Int32) : Mu :=
  if μ.1 21 t = 0 ∨ 80000 ≤ μ.1 30 0 then μ else
  let A := up2 (up2 μ.1 31 (ix (μ.1 30 0)) at') 32 (ix (μ.1 30 0)) (-1)
  let B := if μ.1 35 t = 0 then up2 A 33 t (μ.1 30 0) else up2 A 32 (ix (μ.1 34 t)) (μ.1 30 0)
  (up2 (up2 (up2 B 34 t (μ.1 30 0)) 35 t (μ.1 35 t + 1)) 30 0 (μ.1 30 0 + 1), μ.2)
def M_mailS (μ : Mu) (k a b g pd rg : Int32) : Mu :=
  let t := ix (μ.1 16 0)
  let rate := M_rateOf μ k a g rg
  let A := up2 (up2 (up2 (up2 (up2 (up2 (up2 (up2 (up2 μ.1 17 t k) 18 t a) 19 t b) 20 t g) 21 t rg) 22 t (if rate ≤ pd then 0 else rate - pd)) 23 t 0) 24 t a) 25 t (-1)
  let μ' := M_signs (A, up2 μ.2 8 (ix a) (μ.2 8 (ix a) + pd.toInt64)) t a
  (up2 μ'.1 16 0 (μ'.1 16 0 + 1), μ'.2)
def M_mail (μ : Mu) (k a b g pd rg : Int32) : Int32 × Mu := if isP μ a ∧ isP μ b then (if ¬ isK k ∨ ¬ arG k g ∨ ¬ inR pd 0 100000 ∨ a = b then (0, th (th μ 0) 2) else if μ.1 16 0 = 40 then (0, th (th μ 0) 3) else (μ.1 16 0, M_mailS (th μ 0) k a b g pd rg)) else (0, th μ 1)
def M_redirect (μ : Mu) (t b : Int32) : Int32 × Mu := if isT μ t ∧ isP μ b then (if μ.1 23 (ix t) = 0 ∧ μ.1 24 (ix t) = b then (0, th (th μ 0) 2) else if ¬ undW μ (ix t) ∨ ¬ μ.1 27 (ix t) = 0 then (0, th (th μ 0) 3) else (μ.1 19 (ix t), (up2 (up2 μ.1 38 0 0) 19 (ix t) b, μ.2))) else (0, th μ 1)
def M_refuse (μ : Mu) (t c : Int32) : Int32 × Mu := if isT μ t then (if ¬ undW μ (ix t) ∨ ¬ μ.1 27 (ix t) = 0 then (0, th (th μ 0) 2) else (μ.1 28 (ix t), (up2 (up2 μ.1 38 0 0) 28 (ix t) c, μ.2))) else (0, th μ 1)
def M_taxOf (μ : Mu) (t : Nat) : Int64 := if μ.1 1 (ix (3 * μ.1 18 t)) = 0 then 2 * (μ.1 22 t).toInt64 else 2 * (μ.1 22 t).toInt64 * (μ.1 1 (ix (3 * μ.1 19 t))).toInt64 / (μ.1 1 (ix (3 * μ.1 18 t))).toInt64
def M_pays (μ : Mu) (a b : Nat) (c : Int64) : Mu := (μ.1, up2 (up2 μ.2 7 a (μ.2 7 a - c)) 7 b (up2 μ.2 7 a (μ.2 7 a - c) 7 b + c))
def M_comes (μ : Mu) (t : Nat) : Int32 × Mu :=
  if μ.1 27 t = 0 ∧ ¬ μ.1 28 t = 0 ∧ ¬ lg_cmp (M_taxOf μ t) 0 ≤ 0 ∧ ¬ μ.1 19 t = μ.1 18 t then (0, (up2 (up2 μ.1 27 t 1) 19 t (μ.1 18 t), μ.2)) else
  if μ.1 27 t = 0 then
    let ow := if μ.1 19 t = μ.1 18 t then (0 : Int32) else μ.1 3 (ix (3 * μ.1 19 t + μ.1 17 t))
    let μ' : Mu := (up2 μ.1 23 t 2, up2 μ.2 8 (ix (μ.1 19 t)) (μ.2 8 (ix (μ.1 19 t)) + M_taxOf μ t))
    (1, if ¬ μ.1 21 t = 0 then M_pays μ' (ix (μ.1 18 t)) (ix (μ.1 19 t)) ow.toInt64 else if ¬ μ.1 36 0 = 0 then (μ'.1, up2 μ'.2 9 (ix (8 * μ.1 18 t + μ.1 19 t)) (μ'.2 9 (ix (8 * μ.1 18 t + μ.1 19 t)) + ow.toInt64)) else μ')
  else (1, (up2 μ.1 23 t 2, μ.2))
def M_travels (μ : Mu) (t : Nat) : Int32 × Mu :=
  if ¬ μ.1 26 t - 1 ≤ 0 then (0, (up2 μ.1 26 t (μ.1 26 t - 1), μ.2)) else
  let μ' := M_signs (up2 (up2 (up2 μ.1 26 t (μ.1 26 t - 1)) 23 t 0) 25 t (-1), μ.2) t (μ.1 24 t)
  if μ'.1 24 t = μ'.1 19 t then M_comes μ' t else (0, μ')
def M_leaves (μ : Mu) (t : Nat) : Mu :=
  if ¬ μ.1 6 (ix (μ.1 24 t)) = 0 then μ else
  let g := (M_nextOf μ (μ.1 24 t) (μ.1 19 t)).1
  let μ1 := (M_nextOf μ (μ.1 24 t) (μ.1 19 t)).2
  if g = -1 then μ1 else
  let μ2 : Mu := (up2 (up2 (up2 (up2 μ1.1 23 t 1) 25 t g) 26 t (μ1.1 13 (ix g))) 24 t (M_across μ1.1 (ix g) (μ.1 24 t)), μ1.2)
  if μ.1 24 t = μ1.1 18 t then μ2 else M_pays μ2 (ix (μ1.1 18 t)) (ix (μ.1 24 t)) ((μ1.1 4 (ix (μ.1 24 t))).toInt64 * ((μ1.1 20 t + 9) / 10).toInt64)
def M_g1 (tn : Nat) : Nat → Int32 × Mu → Int32 × Mu
  | 0, q => q
  | n + 1, q => let q' := M_g1 tn n q; if q'.2.1 23 n = 1 then (q'.1 + (M_travels q'.2 n).1, (M_travels q'.2 n).2) else (q'.1 + 0, q'.2)
def M_g2 : Nat → Mu → Mu
  | 0, μ => μ
  | n + 1, μ => let μ' := M_g2 n μ; if μ'.1 23 n = 0 then M_leaves μ' n else μ'
def M_day (q : Int32 × Mu) : Int32 × Mu := ((M_g1 (ix (q.2.1 16 0)) (ix (q.2.1 16 0)) q).1, M_g2 (ix (q.2.1 16 0)) (M_g1 (ix (q.2.1 16 0)) (ix (q.2.1 16 0)) q).2)
def M_days : Nat → Int32 × Mu → Int32 × Mu
  | 0, q => q
  | n + 1, q => M_day (M_days n q)
def M_go (μ : Mu) (d : Int32) : Int32 × Mu := if inR d 1 200 then M_days (ix d) (0, th μ 0) else (0, th μ 1)
def M_lose (μ : Mu) (t : Int32) : Int32 × Mu := if isT μ t then (if undW μ (ix t) then (if μ.1 35 (ix t) = 0 then -1 else μ.1 31 (ix (μ.1 34 (ix t))), (up2 (up2 (up2 μ.1 38 0 0) 23 (ix t) 3) 26 (ix t) 0, μ.2)) else (0, th (th μ 0) 2)) else (0, th μ 1)
def M_paysFor (μ : Mu) (t : Nat) (a c : Int32) : Int32 × Mu := if a = μ.1 18 t then (0, μ) else (c, M_pays μ (ix a) (ix (μ.1 18 t)) c.toInt64)
def M_claimS (μ : Mu) (t : Nat) : Int32 × Mu :=
  let μ1 : Mu := (up2 μ.1 29 t 1, up2 μ.2 8 (ix (μ.1 18 t)) (μ.2 8 (ix (μ.1 18 t)) - 4000))
  if μ.1 25 t = -1 then M_paysFor μ1 t (μ.1 24 t) 4000 else
  let q1 := M_paysFor μ1 t (μ.1 11 (ix (μ.1 25 t))) 2000
  let q2 := M_paysFor q1.2 t (q1.2.1 12 (ix (q1.2.1 25 t))) 2000
  (q1.1 + q2.1, q2.2)
def M_claim (μ : Mu) (t : Int32) : Int32 × Mu := if isT μ t then (if ¬ μ.1 23 (ix t) = 3 ∨ μ.1 21 (ix t) = 0 ∨ ¬ μ.1 29 (ix t) = 0 then (0, th (th μ 0) 2) else M_claimS (th μ 0) (ix t)) else (0, th μ 1)
def M_sample (μ : Mu) (c : Int32) : Int32 × Mu := (μ.1 36 0, (up2 (up2 μ.1 38 0 0) 36 0 c, μ.2))
def M_st1 (f : Int32) : Nat → Int64 × Mu → Int64 × Mu
  | 0, q => q
  | n + 1, q => let q' := M_st1 f n q
    (q'.1 + q'.2.2 9 n * f.toInt64, ((M_pays q'.2 (n / 8) (n % 8) (q'.2.2 9 n * f.toInt64)).1, up2 (M_pays q'.2 (n / 8) (n % 8) (q'.2.2 9 n * f.toInt64)).2 9 n 0))
def M_settle (μ : Mu) (f : Int32) : Int64 × Mu := if inR f 1 1000 then M_st1 f 64 (0, th μ 0) else (0, th μ 1)
def M_rate (μ : Mu) (k p g b : Int32) : Int32 × Mu := if isP μ p then (if isK k ∧ arG k g then (M_rateOf μ k p g b, th μ 0) else (0, th (th μ 0) 2)) else (0, th μ 1)
def M_ofThing (μ : Mu) (t w : Int32) : Int64 × Mu := if isT μ t then
  (if w = 0 then ((μ.1 23 (ix t)).toInt64, th μ 0) else if w = 1 then ((μ.1 24 (ix t)).toInt64, th μ 0) else if w = 2 then ((μ.1 26 (ix t)).toInt64, th μ 0) else if w = 3 then ((μ.1 19 (ix t)).toInt64, th μ 0) else if w = 4 then (M_taxOf μ (ix t), th μ 0) else if w = 5 then (if μ.1 27 (ix t) = 0 then 0 else 1, th μ 0) else if w = 6 then ((μ.1 35 (ix t)).toInt64, th μ 0) else (0, th (th μ 0) 2)) else (0, th μ 1)
def M_hd (A : Nat → Nat → Int32) (k : Int32) : Nat → Int32
  | 0 => k
  | n + 1 => A 32 (ix (M_hd A k n))
def M_hand (μ : Mu) (t n : Int32) : Int32 × Mu := if isT μ t ∧ ¬ n < 0 ∧ ¬ μ.1 35 (ix t) ≤ n then (μ.1 31 (ix (M_hd μ.1 (μ.1 33 (ix t)) (ix n))), th μ 0) else (0, th μ 1)
def M_account (μ : Mu) (p : Int32) : Int64 × Mu := if isP μ p then (μ.2 7 (ix p), th μ 0) else (0, th μ 1)
def M_till (μ : Mu) (p : Int32) : Int64 × Mu := if isP μ p then (μ.2 8 (ix p), th μ 0) else (0, th μ 1)
def M_counted (μ : Mu) (a b : Int32) : Int64 × Mu := if isP μ a ∧ isP μ b then (μ.2 9 (ix (8 * a + b)), th μ 0) else (0, th μ 1)
def M_gs (a b : Nat) (A : Nat → Nat → Int32) : Nat → Nat → Int32 := if ¬ a = b ∧ ¬ A 5 a ≤ 0 ∧ ¬ A 1 (3 * b) - A 5 a ≤ A 37 0 then up2 (up2 (up2 A 37 0 (A 1 (3 * b) - A 5 a)) 37 1 (nI a)) 37 2 (nI b) else A
def M_g3 (a : Nat) : Nat → (Nat → Nat → Int32) → (Nat → Nat → Int32)
  | 0, A => A
  | n + 1, A => M_gs a n (M_g3 a n A)
def M_g4 (nP : Nat) : Nat → (Nat → Nat → Int32) → (Nat → Nat → Int32)
  | 0, A => A
  | n + 1, A => M_g3 n nP (M_g4 nP n A)
def M_gain (μ : Mu) (w : Int32) : Int32 × Mu := if inR w 0 2 then
  let A := M_g4 (ix (μ.1 0 0)) (ix (μ.1 0 0)) (up2 (up2 μ.1 38 0 0) 37 0 0)
  (if A 37 0 = 0 then -1 else A 37 (ix w), (A, μ.2)) else (0, th μ 1)
