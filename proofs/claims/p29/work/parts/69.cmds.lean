/-! the calls that change: what they answer, what they leave -/
section CM
variable {μ : Mu} {tb : Tb} {k : Nat}
theorem LJ_up {j i : Nat} {v : Int32} {tbn : Tb} (h : LJ μ tb k) (hN : NI (up2 μ.1 j i v, μ.2) tbn (16 + 7 * k)) (hj : j ≠ 16 ∧ j ≠ 19 ∧ j ≠ 21 ∧ j ≠ 22 ∧ j ≠ 23 ∧ j ≠ 24 ∧ j ≠ 26 ∧ j ≠ 35 ∧ j ≠ 38) (hV : JV (up2 μ.1 j i v, μ.2)) (et : tbn.2 = tb.2) : LJ (up2 μ.1 j i v, μ.2) tbn (k + 1) :=
  LJ_mk hN ((congrFun (up2_ne _ _ _ _ _ (by omega)) 0).trans h.z) (TPs h.2.2.1 (fun a ha => up2_ne _ _ _ _ _ (by omega)) et) hV (JB_same h.2.2.2.2 rfl (by omega))
theorem JV_o {j i : Nat} {v : Int32} {J : Nat → Nat → Int64} (h : JV μ) (hj : j ≠ 3 ∧ j ≠ 4 ∧ j ≠ 5) : JV (up2 μ.1 j i v, J) := JV_same h (fun a ha => up2_ne _ _ _ _ _ (by omega))
theorem cm_post (h : LJ μ tb k) (hP : nP μ < 8) : M_post μ = (nI (nP μ), (up2 μ.1 0 0 (nI (nP μ + 1)), μ.2)) ∧ LJ (up2 μ.1 0 0 (nI (nP μ + 1)), μ.2) tb (k + 1) := by
  have e0 := nPe h.I
  have hn : ¬ 8 ≤ μ.1 0 0 := by rw [e0]; exact nI_ge (b := 8) hP (by decide)
  have hN := ni_post h.1.1 hn
  rw [h.u, e0, nI_1] at hN
  refine ⟨?_, LJ_up h hN (by decide) (JV_o h.2.2.2.1 (by decide)) rfl⟩
  unfold M_post
  rw [if_neg hn, h.u, e0, nI_1, nI_pred]
theorem cm_post8 (h : LJ μ tb k) (hP : nP μ = 8) : (M_post μ).2.1 38 0 = 1 := by
  unfold M_post
  rw [if_pos (by rw [nPe h.I, hP]; decide)]
  exact th_38 μ 1
theorem nP_post (h : LJ μ tb k) (hP : nP μ < 8) : nP (up2 μ.1 0 0 (nI (nP μ + 1)), μ.2) = nP μ + 1 ∧ nG (up2 μ.1 0 0 (nI (nP μ + 1)), μ.2) = nG μ ∧ nT (up2 μ.1 0 0 (nI (nP μ + 1)), μ.2) = nT μ := by
  refine ⟨?_, ?_, ?_⟩
  · show ix (up2 μ.1 0 0 (nI (nP μ + 1)) 0 0) = _
    rw [up2_at, if_pos ⟨rfl, rfl⟩, ix_nI (by omega)]
  · show ix (up2 μ.1 0 0 (nI (nP μ + 1)) 10 0) = _
    rw [up2_ne _ _ _ _ _ (by decide)]
  · show ix (up2 μ.1 0 0 (nI (nP μ + 1)) 16 0) = _
    rw [up2_ne _ _ _ _ _ (by decide)]
theorem cm_rates (h : LJ μ tb k) {p : Nat} {q f g : Int32} (hp : p < nP μ) (hq : isK q) (hf : inR f 0 10000) (hg : inR g 0 10000) : M_rates μ (nI p) q f g = (up2 (up2 μ.1 1 (3 * p + ix q) f) 2 (3 * p + ix q) g, μ.2) ∧ LJ (up2 (up2 μ.1 1 (3 * p + ix q) f) 2 (3 * p + ix q) g, μ.2) tb (k + 1) := by
  have h1 := isP_n h.I hp
  have hN := ni_rates h.1.1 ⟨h1.1, hq, hf, hg⟩
  rw [h.u, i3k h.I h1.1 hq, h1.2] at hN
  refine ⟨?_, LJ_mk hN ?_ (TPs h.2.2.1 (fun a ha => ?_) rfl) (JV_same h.2.2.2.1 fun a ha => ?_) (JB_same h.2.2.2.2 rfl (by omega))⟩
  · unfold M_rates
    rw [if_pos h1.1, if_pos ⟨hq, hf, hg⟩, h.u, i3k h.I h1.1 hq, h1.2]
  · dsimp only
    rw [up2_ne _ _ _ _ _ (by decide), up2_ne _ _ _ _ _ (by decide)]; exact h.z
  · dsimp only
    rw [up2_ne _ _ _ _ _ (by omega), up2_ne _ _ _ _ _ (by omega)]
  · dsimp only
    rw [up2_ne _ _ _ _ _ (by omega), up2_ne _ _ _ _ _ (by omega)]
theorem rates_at {p : Nat} {q f g : Int32} (hI : RI μ) (hp : p < nP μ) (hq : isK q) (w b : Int32) : M_rateOf (up2 (up2 μ.1 1 (3 * p + ix q) f) 2 (3 * p + ix q) g, μ.2) q (nI p) w b = f + g * ((w - 1) / 20) + (if b = 0 then 0 else 50) := by
  have h1 := isP_n hI hp
  unfold M_rateOf
  dsimp only
  rw [i3k hI h1.1 hq, h1.2, up2_ne _ _ _ _ _ (show (1 : Nat) ≠ 2 by decide), up2_at, up2_at, if_pos ⟨rfl, rfl⟩, if_pos ⟨rfl, rfl⟩]
theorem cm_due (h : LJ μ tb k) {p : Nat} {q c : Int32} (hp : p < nP μ) (hq : isK q) (hc : inR c 0 10000) : M_due μ (nI p) q c = (μ.1 3 (3 * p + ix q), (up2 μ.1 3 (3 * p + ix q) c, μ.2)) ∧ LJ (up2 μ.1 3 (3 * p + ix q) c, μ.2) tb (k + 1) := by
  have h1 := isP_n h.I hp
  have hN := ni_due h.1.1 ⟨h1.1, hq, hc⟩
  rw [h.u, i3k h.I h1.1 hq, h1.2] at hN
  refine ⟨?_, LJ_up h hN (by decide) (JV_up h.2.2.2.1 hc) rfl⟩
  unfold M_due
  rw [if_pos h1.1, if_pos ⟨hq, hc⟩, h.u, i3k h.I h1.1 hq, h1.2]
theorem cm_charge (h : LJ μ tb k) {p : Nat} {c : Int32} (hp : p < nP μ) (hc : inR c 0 1000) : M_charge μ (nI p) c = (μ.1 4 p, (up2 μ.1 4 p c, μ.2)) ∧ LJ (up2 μ.1 4 p c, μ.2) tb (k + 1) := by
  have h1 := isP_n h.I hp
  have hN := ni_p h.1.1 (j := 4) (Or.inl rfl) h1.1 (okF rfl c) (fun z => absurd z (by decide))
  rw [h.u, h1.2] at hN
  refine ⟨?_, LJ_up h hN (by decide) (JV_up h.2.2.2.1 ⟨hc.1, Int32.le_trans hc.2 (by decide)⟩) rfl⟩
  unfold M_charge
  rw [if_pos h1.1, if_pos hc, h.u, h1.2]
theorem cm_coupon (h : LJ μ tb k) {p : Nat} {c : Int32} (hp : p < nP μ) (hc : inR c 0 10000) : M_coupon μ (nI p) c = (μ.1 5 p, (up2 μ.1 5 p c, μ.2)) ∧ LJ (up2 μ.1 5 p c, μ.2) tb (k + 1) := by
  have h1 := isP_n h.I hp
  have hN := ni_p h.1.1 (j := 5) (Or.inr (Or.inl rfl)) h1.1 (okF rfl c) (fun _ => Int32.not_lt.mpr hc.1)
  rw [h.u, h1.2] at hN
  refine ⟨?_, LJ_up h hN (by decide) (JV_up h.2.2.2.1 hc) rfl⟩
  unfold M_coupon
  rw [if_pos h1.1, if_pos hc, h.u, h1.2]
theorem cm_strike (h : LJ μ tb k) {p : Nat} {c : Int32} (hp : p < nP μ) (hc : c = 0 ∨ c = 1) : M_strike μ (nI p) c = (μ.1 6 p, (up2 μ.1 6 p c, μ.2)) ∧ LJ (up2 μ.1 6 p c, μ.2) tb (k + 1) := by
  have h1 := isP_n h.I hp
  have hN := ni_p h.1.1 (j := 6) (Or.inr (Or.inr rfl)) h1.1 (okb (Or.inl rfl) hc) (fun z => absurd z (by decide))
  rw [h.u, h1.2] at hN
  refine ⟨?_, LJ_up h hN (by decide) (JV_o h.2.2.2.1 (by decide)) rfl⟩
  unfold M_strike
  rw [if_pos h1.1, h.u, h1.2]
theorem cm_sample (h : LJ μ tb k) {c : Int32} (hc : c = 0 ∨ c = 1) : M_sample μ c = (μ.1 36 0, (up2 μ.1 36 0 c, μ.2)) ∧ LJ (up2 μ.1 36 0 c, μ.2) tb (k + 1) := by
  have hN := ni_sample h.1.1 hc
  rw [h.u] at hN
  refine ⟨?_, LJ_up h hN (by decide) (JV_o h.2.2.2.1 (by decide)) rfl⟩
  unfold M_sample
  rw [h.u]
/-- the state behind a new leg -/
def nuL (μ : Mu) (a b d : Int32) : Mu := (up2 (up2 (up2 (up2 μ.1 11 (ix (μ.1 10 0)) a) 12 (ix (μ.1 10 0)) b) 13 (ix (μ.1 10 0)) d) 10 0 (μ.1 10 0 + 1), μ.2)
theorem nuL_f (a b d : Int32) {j : Nat} (hj : j ≠ 10 ∧ j ≠ 11 ∧ j ≠ 12 ∧ j ≠ 13) : (nuL μ a b d).1 j = μ.1 j := by
  unfold nuL
  dsimp only
  rw [up2_ne _ _ _ _ _ hj.1, up2_ne _ _ _ _ _ hj.2.2.2, up2_ne _ _ _ _ _ hj.2.2.1, up2_ne _ _ _ _ _ hj.2.1]
theorem nuL_at (a b d : Int32) : (nuL μ a b d).1 10 0 = μ.1 10 0 + 1 ∧ (nuL μ a b d).1 11 (nG μ) = a ∧ (nuL μ a b d).1 12 (nG μ) = b ∧ (nuL μ a b d).1 13 (nG μ) = d := by
  unfold nuL nG
  dsimp only
  refine ⟨?_, ?_, ?_, ?_⟩
  · rw [up2_at, if_pos ⟨rfl, rfl⟩]
  · rw [up2_ne _ _ _ _ _ (by decide), up2_ne _ _ _ _ _ (by decide), up2_ne _ _ _ _ _ (by decide), up2_at, if_pos ⟨rfl, rfl⟩]
  · rw [up2_ne _ _ _ _ _ (by decide), up2_ne _ _ _ _ _ (by decide), up2_at, if_pos ⟨rfl, rfl⟩]
  · rw [up2_ne _ _ _ _ _ (by decide), up2_at, if_pos ⟨rfl, rfl⟩]
theorem cm_leg (h : LJ μ tb k) {p q : Nat} {d : Int32} (hp : p < nP μ) (hq : q < nP μ) (hpq : p ≠ q) (hd : inR d 1 100) (hG : nG μ < 20) : M_leg μ (nI p) (nI q) d = (nI (nG μ), nuL μ (nI p) (nI q) d) ∧ LJ (nuL μ (nI p) (nI q) d) (K_reckon (nuL μ (nI p) (nI q) d) tb.1, tb.2) (k + 1) := by
  have h1 := isP_n h.I hp
  have h2 := isP_n h.I hq
  have h8 := nP8 h.I
  have e0 := nGe h.I
  have hn : ¬ μ.1 10 0 = 20 := by
    rw [e0]
    intro z
    have := nI_inj (b := 20) (by omega) (by decide) z
    omega
  have hN := ni_leg h.1.1 ⟨h1.1, h2.1, hd, hn⟩ tb.1
  rw [h.u] at hN
  have f : ∀ j, j ≠ 10 ∧ j ≠ 11 ∧ j ≠ 12 ∧ j ≠ 13 → (nuL μ (nI p) (nI q) d).1 j = μ.1 j := fun j hj => nuL_f _ _ _ hj
  refine ⟨?_, LJ_mk hN ((congrFun (f 38 (by decide)) 0).trans h.z) (TPs h.2.2.1 (fun a ha => f a (by omega)) rfl) (JV_same h.2.2.2.1 fun a ha => f a (by omega)) (JB_same h.2.2.2.2 rfl (by omega))⟩
  unfold M_leg nuL
  rw [if_pos ⟨h1.1, h2.1⟩, if_neg (fun z => z.elim (fun z => hpq (nI_inj (by omega) (by omega) z)) (fun z => z hd)), if_neg hn, h.u]
  congr 1
  rw [e0, nI_1, nI_pred]
theorem cm_leg20 (h : LJ μ tb k) {p q : Nat} {d : Int32} (hp : p < nP μ) (hq : q < nP μ) (hpq : p ≠ q) (hd : inR d 1 100) (hG : nG μ = 20) : (M_leg μ (nI p) (nI q) d).2.1 38 0 = 3 := by
  have h1 := isP_n h.I hp
  have h2 := isP_n h.I hq
  have h8 := nP8 h.I
  unfold M_leg
  rw [if_pos ⟨h1.1, h2.1⟩, if_neg (fun z => z.elim (fun z => hpq (nI_inj (by omega) (by omega) z)) (fun z => z hd)), if_pos (by rw [nGe h.I, hG]; rfl)]
  exact th_38 _ 3
theorem nuL_n (h : LJ μ tb k) {a b d : Int32} (hG : nG μ < 20) : nP (nuL μ a b d) = nP μ ∧ nG (nuL μ a b d) = nG μ + 1 ∧ nT (nuL μ a b d) = nT μ := by
  refine ⟨?_, ?_, ?_⟩
  · unfold nP; rw [nuL_f _ _ _ (by decide)]
  · have e := (nuL_at (μ := μ) a b d).1
    rw [nGe h.I, nI_1] at e
    show ix ((nuL μ a b d).1 10 0) = _
    rw [e, ix_nI (by omega)]
  · unfold nT; rw [nuL_f _ _ _ (by decide)]
theorem leg_days (h : LJ μ tb k) {p q d : Nat} (hp : p < nP μ) (hq : q < nP μ) (hpq : p ≠ q) (hd1 : 1 ≤ d) (hd : d ≤ 100) (hG : nG μ < 20) (hJ : LJ (nuL μ (nI p) (nI q) (nI d)) (K_reckon (nuL μ (nI p) (nI q) (nI d)) tb.1, tb.2) (k + 1)) : ¬ dY (nuL μ (nI p) (nI q) (nI d)) p q < 1 ∧ ¬ nI d < dY (nuL μ (nI p) (nI q) (nI d)) p q := by
  obtain ⟨n1, n2, n3⟩ := nuL_n h (a := nI p) (b := nI q) (d := nI d) hG
  obtain ⟨-, e1, e2, e3⟩ := nuL_at (μ := μ) (nI p) (nI q) (nI d)
  have h8 := nP8 h.I
  refine w6 hJ.I hJ.K.1 (by omega) (by omega) hpq (l := nG μ) (by omega) ?_ (by rw [e1, ix_nI (by omega)]) (by rw [e2, ix_nI (by omega)]) e3 hd
  rw [nuL_f _ _ _ (by decide)]
  exact h.K.2.2.2.2.2.1 _ (Nat.le_refl _)
theorem cm_close (h : LJ μ tb k) {g : Nat} {c : Int32} (hg : g < nG μ) (hc : c = 0 ∨ c = 1) : M_close μ (nI g) c = (μ.1 14 g, (up2 μ.1 14 g c, μ.2)) ∧ LJ (up2 μ.1 14 g c, μ.2) (if μ.1 14 (ix (nI g)) = c then tb.1 else K_reckon (up2 μ.1 14 (ix (nI g)) c, μ.2) tb.1, tb.2) (k + 1) := by
  have h1 := isG_n h.I hg
  have hN := ni_close h.1.1 h1.1 hc
  rw [h.u] at hN
  have hN2 : NI (up2 μ.1 14 g c, μ.2) (if μ.1 14 (ix (nI g)) = c then tb.1 else K_reckon (up2 μ.1 14 (ix (nI g)) c, μ.2) tb.1, tb.2) (16 + 7 * k) := by
    have := hN
    rw [show (up2 μ.1 14 (ix (nI g)) c, μ.2) = (up2 μ.1 14 g c, μ.2) from by rw [h1.2]] at this ⊢
    exact this
  refine ⟨?_, LJ_up h hN2 (by decide) (JV_o h.2.2.2.1 (by decide)) rfl⟩
  unfold M_close
  rw [if_pos h1.1, h.u, h1.2]
theorem nP_up {j i : Nat} {v : Int32} {J : Nat → Nat → Int64} (h : j ≠ 0 ∧ j ≠ 10 ∧ j ≠ 16) : nP (up2 μ.1 j i v, J) = nP μ ∧ nG (up2 μ.1 j i v, J) = nG μ ∧ nT (up2 μ.1 j i v, J) = nT μ := by
  refine ⟨?_, ?_, ?_⟩
  · show ix (up2 μ.1 j i v 0 0) = _
    rw [up2_ne _ _ _ _ _ (by omega)]
  · show ix (up2 μ.1 j i v 10 0) = _
    rw [up2_ne _ _ _ _ _ (by omega)]
  · show ix (up2 μ.1 j i v 16 0) = _
    rw [up2_ne _ _ _ _ _ (by omega)]
/-! things told -/
theorem cm_redirect (h : LJ μ tb k) {t b : Nat} (ht : t < nT μ) (hb : b < nP μ) (h1 : ¬ (μ.1 23 t = 0 ∧ μ.1 24 t = nI b)) (h2 : undW μ t) (h3 : μ.1 27 t = 0) : M_redirect μ (nI t) (nI b) = (μ.1 19 t, (up2 μ.1 19 t (nI b), μ.2)) ∧ LJ (up2 μ.1 19 t (nI b), μ.2) tb (k + 1) := by
  have g1 := isT_n h.I ht
  have g2 := isP_n h.I hb
  have hN := ni_redirect h.1.1 ⟨g1.1, g2.1⟩
  rw [h.u, g1.2] at hN
  obtain ⟨k1, k2, k3, k4, k5, k6, k7, k8, k9, k10, k11, k12⟩ := n01
  refine ⟨?_, LJ_mk hN ((congrFun (up2_ne μ.1 19 t (nI b) 38 (by decide)) 0).trans h.z) (fun a ha => ?_) (JV_o h.2.2.2.1 (by decide)) (JB_same h.2.2.2.2 rfl (by omega))⟩
  · unfold M_redirect
    rw [if_pos ⟨g1.1, g2.1⟩, g1.2, if_neg h1, if_neg (fun z => z.elim (fun z => z h2) (fun z => z h3)), h.u]
  · have ha' : a < nT μ := by rw [(nP_up (by decide)).2.2] at ha; exact ha
    by_cases e : a = t
    · subst e
      obtain ⟨p1, p2, p3, p4, p5, p6, p7⟩ := h.T ha'
      have f : ∀ j, j ≠ 19 → up2 μ.1 19 a (nI b) j = μ.1 j := fun j hj => up2_ne _ _ _ _ _ hj
      unfold TP
      dsimp only
      rw [f 23 (by decide), f 26 (by decide), f 24 (by decide), f 35 (by decide), f 21 (by decide), f 22 (by decide), up2_at, if_pos ⟨rfl, rfl⟩]
      exact ⟨p1, p2, p3, fun z y => h1 ⟨z, y⟩, fun z => absurd h2 (by unfold undW; rw [z]; decide), p6, p7⟩
    · refine TP_same (h.T ha') (fun j hj => ?_) rfl rfl
      show up2 μ.1 19 t (nI b) j a = _
      rw [up2_at, if_neg (fun z => e z.2)]
theorem cm_refuse (h : LJ μ tb k) {t : Nat} {c : Int32} (ht : t < nT μ) (hc : c = 0 ∨ c = 1) (h2 : undW μ t) (h3 : μ.1 27 t = 0) : M_refuse μ (nI t) c = (μ.1 28 t, (up2 μ.1 28 t c, μ.2)) ∧ LJ (up2 μ.1 28 t c, μ.2) tb (k + 1) := by
  have g1 := isT_n h.I ht
  have hN := ni_refuse h.1.1 g1.1 hc
  rw [h.u, g1.2] at hN
  refine ⟨?_, LJ_up h hN (by decide) (JV_o h.2.2.2.1 (by decide)) rfl⟩
  unfold M_refuse
  rw [if_pos g1.1, g1.2, if_neg (fun z => z.elim (fun z => z h2) (fun z => z h3)), h.u]
/-- the state behind a loss -/
def nuO (μ : Mu) (t : Nat) : Mu := (up2 (up2 μ.1 23 t 3) 26 t 0, μ.2)
theorem cm_lose (h : LJ μ tb k) {t : Nat} (ht : t < nT μ) (h2 : undW μ t) : M_lose μ (nI t) = (if μ.1 35 t = 0 then -1 else μ.1 31 (ix (μ.1 34 t)), nuO μ t) ∧ LJ (nuO μ t) tb (k + 1) := by
  have g1 := isT_n h.I ht
  have hN := ni_lose h.1.1 g1.1
  rw [h.u, g1.2] at hN
  obtain ⟨k1, k2, k3, k4, k5, k6, k7, k8, k9, k10, k11, k12⟩ := n01
  have f : ∀ j, j ≠ 23 ∧ j ≠ 26 → (nuO μ t).1 j = μ.1 j := fun j hj => by
    show up2 (up2 μ.1 23 t 3) 26 t 0 j = _
    rw [up2_ne _ _ _ _ _ hj.2, up2_ne _ _ _ _ _ hj.1]
  refine ⟨?_, LJ_mk hN ((congrFun (f 38 (by decide)) 0).trans h.z) (fun a ha => ?_) (JV_same h.2.2.2.1 (fun a ha => f a (by omega))) (JB_same h.2.2.2.2 rfl (by omega))⟩
  · unfold M_lose
    rw [if_pos g1.1, g1.2, if_pos h2, h.u]
    rfl
  · have ha' : a < nT μ := by unfold nT at ha ⊢; rw [f 16 (by decide)] at ha; exact ha
    by_cases e : a = t
    · subst e
      obtain ⟨p1, p2, p3, p4, p5, ⟨n, n1, n2, n3, n4, n5⟩, p7⟩ := h.T ha'
      have e23 : (nuO μ a).1 23 a = 3 := by
        show up2 (up2 μ.1 23 a 3) 26 a 0 23 a = _
        rw [up2_ne _ _ _ _ _ (by decide), up2_at, if_pos ⟨rfl, rfl⟩]
      have e26 : (nuO μ a).1 26 a = 0 := by
        show up2 (up2 μ.1 23 a 3) 26 a 0 26 a = _
        rw [up2_at, if_pos ⟨rfl, rfl⟩]
      unfold TP
      rw [e23, e26, f 24 (by decide), f 19 (by decide), f 35 (by decide), f 21 (by decide), f 22 (by decide)]
      exact ⟨Or.inr (Or.inr (Or.inr rfl)), fun z => absurd z k7, fun _ => rfl, fun z => absurd z k10, fun z => absurd z k9, ⟨n, n1, n2, n3, n4, fun z => ⟨(n5 z).1, fun y => y.elim (fun y => absurd y k10) (fun y => absurd y k9), (n5 z).2.2⟩⟩, p7⟩
    · refine TP_same (h.T ha') (fun j hj => ?_) rfl rfl
      show up2 (up2 μ.1 23 t 3) 26 t 0 j a = _
      rw [up2_at, if_neg (fun z => e z.2), up2_at, if_neg (fun z => e z.2)]
/-- what lose answers is the last hand -/
theorem lose_hand (h : LJ μ tb k) {t n : Nat} (ht : t < nT μ) (e35 : μ.1 35 t = nI n) (hn : n ≤ 8192) (h0 : n ≠ 0) : μ.1 31 (ix (μ.1 34 t)) = tb.2.1 t (n - 1) := by
  obtain ⟨cl, hH⟩ := h.H
  obtain ⟨m, m1, m2, m3, m4, m5, m6⟩ := hH.get ht
  have hmn : m = n := nI_inj (by omega) (by omega) (m1.symm.trans e35)
  subst hmn
  have h1 := m6 (m - 1) (by omega)
  have h2 := h1.1
  obtain ⟨S, hS, eS⟩ := h.I.2.2.2.1
  rw [eS, ix_nI (by omega)] at h2
  rw [(m5 (by omega)).2, ix_nI (by omega), h1.2.1]
end CM
