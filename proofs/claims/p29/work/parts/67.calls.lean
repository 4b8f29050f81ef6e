/-! what holds between the calls of the law; a call that is refused, a call that is not -/
/-- dues, charges, prices in range -/
def JV (μ : Mu) : Prop := ∀ i, inR (μ.1 3 i) 0 10000 ∧ inR (μ.1 4 i) 0 10000 ∧ inR (μ.1 5 i) 0 10000
/-- tills by what calls may do to them -/
def JB (μ : Mu) (k : Nat) : Prop := ∀ p, -((k : Int) * 1000000000000) ≤ (μ.2 8 p).toInt ∧ (μ.2 8 p).toInt ≤ (k : Int) * 1000000000000
def LJ (μ : Mu) (tb : Tb) (k : Nat) : Prop := LI μ tb k ∧ μ.1 38 0 = 0 ∧ (∀ t, t < nT μ → TP μ tb t) ∧ JV μ ∧ JB μ (k + 1)
section LJ
variable {μ : Mu} {tb : Tb} {k : Nat}
theorem LJ.I (h : LJ μ tb k) : RI μ := h.1.1.1
theorem LJ.K (h : LJ μ tb k) : KI μ := h.1.1.2.1
theorem LJ.H (h : LJ μ tb k) : ∃ cl, HR μ tb cl := h.1.1.2.2.1
theorem LJ.S (h : LJ μ tb k) : TS μ tb.1 := h.1.1.2.2.2.1.ts h.1.1.1 h.1.1.2.1.1
theorem LJ.z (h : LJ μ tb k) : μ.1 38 0 = 0 := h.2.1
theorem LJ.u (h : LJ μ tb k) : up2 μ.1 38 0 0 = μ.1 := by
  have := up2_id μ.1 38 0
  rw [h.z] at this
  exact this
theorem LJ.t0 (h : LJ μ tb k) : th μ 0 = μ := Prod.ext h.u rfl
theorem LJ.T (h : LJ μ tb k) {t : Nat} (ht : t < nT μ) : TP μ tb t := h.2.2.1 t ht
theorem LJ.B (h : LJ μ tb k) (hk : k < 500) : ∀ p, -1000000000000000 ≤ (μ.2 8 p).toInt ∧ (μ.2 8 p).toInt ≤ 1000000000000000 := by
  intro p
  obtain ⟨h1, h2⟩ := h.2.2.2.2 p
  omega
theorem LJ.M (h : LJ μ tb k) (hk : k < 500) : ¬ (80000 : Int32) ≤ μ.1 30 0 := h.1.2.S h.I (by omega)
theorem LJ_mk {ν : Mu} {tbn : Tb} (hN : NI ν tbn (16 + 7 * k)) (h38 : ν.1 38 0 = 0) (hT : ∀ t, t < nT ν → TP ν tbn t) (hV : JV ν) (hB : JB ν (k + 2)) : LJ ν tbn (k + 1) := ⟨LI_of hN, h38, hT, hV, hB⟩
theorem JB_same {ν : Mu} {n m : Nat} (h : JB μ n) (e : ν.2 8 = μ.2 8) (hn : n ≤ m) : JB ν m := by
  intro p
  obtain ⟨h1, h2⟩ := h p
  rw [e]
  omega
theorem TPs {ν : Mu} {tbn : Tb} (h : ∀ t, t < nT μ → TP μ tb t) (e : ∀ j, j = 16 ∨ j = 19 ∨ j = 21 ∨ j = 22 ∨ j = 23 ∨ j = 24 ∨ j = 26 ∨ j = 35 → ν.1 j = μ.1 j) (et : tbn.2 = tb.2) : ∀ t, t < nT ν → TP ν tbn t := by
  intro t ht
  have ht' : t < nT μ := by unfold nT at ht ⊢; rw [e 16 (by omega)] at ht; exact ht
  exact TP_same (h t ht') (fun j hj => congrFun (e j (by omega)) t) (by rw [et]) (by rw [et])
theorem JV_same {ν : Mu} (h : JV μ) (e : ∀ j, j = 3 ∨ j = 4 ∨ j = 5 → ν.1 j = μ.1 j) : JV ν := by
  intro i
  rw [e 3 (by omega), e 4 (by omega), e 5 (by omega)]
  exact h i
theorem JV_up {J : Nat → Nat → Int64} (h : JV μ) {j i : Nat} {v : Int32} (hv : inR v 0 10000) : JV (up2 μ.1 j i v, J) := by
  intro a
  obtain ⟨h1, h2, h3⟩ := h a
  exact ⟨up2_P (P := fun x => inR x 0 10000) (fun _ => hv) h1, up2_P (P := fun x => inR x 0 10000) (fun _ => hv) h2, up2_P (P := fun x => inR x 0 10000) (fun _ => hv) h3⟩
end LJ
theorem ans_O : (-2000000001 : Int32) = -2000000001 := rfl
theorem notP_8 {μ : Mu} (hI : RI μ) : ¬ isP μ 8 := fun h => by
  have h1 := (isP_lt hI h).1
  have h2 := nP8 hI
  have h3 : ix 8 = 8 := rfl
  omega
theorem notP_m {μ : Mu} (hI : RI μ) : ¬ isP μ (-1) := fun h => (isP_lt hI h).2.1 (by decide)
theorem notT_40 {μ : Mu} (hI : RI μ) : ¬ isT μ 40 := fun h => by
  have h1 := (isT_lt hI h).1
  have h2 := nT40 hI
  have h3 : ix 40 = 40 := rfl
  omega
theorem notT_m {μ : Mu} (hI : RI μ) : ¬ isT μ (-1) := fun h => (isT_lt hI h).2.1 (by decide)
theorem notT_0 {μ : Mu} (hI : RI μ) (h0 : nT μ = 0) (x : Int32) : ¬ isT μ x := fun h => by
  have h1 := (isT_lt hI h).1
  omega
theorem notG_20 {μ : Mu} (hI : RI μ) : ¬ inR 20 0 (μ.1 10 0 - 1) := fun h => by
  have h1 := (leg_out hI h).2
  rw [nGe hI] at h1
  have h2 := nG20 hI
  exact absurd h1 (nI_nlt (b := nG μ) (a := 20) h2 (by decide))
theorem ckE_post_1 {l : Launch} (hl0 : l.stackTraces = false) {Z : xZ} {B0 : Nat} {μ : Mu} {tb : Tb} {k : Nat} (h : LJ μ tb k) {a b c d : Int32} (e38 : (M_post μ).2.1 38 0 = 1) : CallOK l Z B0 μ tb 0 a b c d (-2000000003) μ tb 5 27 := by
  intro lay r hr2
  refine call_of (dd_post l hl0 Z B0 lay μ tb r a b c d h.I h.K) (fun z => absurd (e38.symm.trans z) (by decide)) ?_
  rintro E ⟨rfl, h9⟩
  exact ⟨rfl, Or.inr (Or.inr ⟨rfl, rfl⟩)⟩
theorem ckS_post {l : Launch} (hl0 : l.stackTraces = false) {Z : xZ} {B0 : Nat} {μ : Mu} {tb : Tb} {k : Nat} (h : LJ μ tb k) {a b c d ans : Int32} {ν : Mu} (eM : M_post μ = (ans, ν)) (e0 : ν.1 38 0 = 0) : CallOK l Z B0 μ tb 0 a b c d ans ν tb 5 27 := by
  intro lay r hr2
  have e38 : (M_post μ).2.1 38 0 = 0 := by rw [eM]; exact e0
  refine call_of (dd_post l hl0 Z B0 lay μ tb r a b c d h.I h.K) (fun _ => ⟨by rw [eM], fun _ => by rw [eM]⟩) ?_
  rintro E ⟨rfl, h9⟩
  exact absurd (e38.symm.trans h9) (by decide)
theorem ckE_rates_1 {l : Launch} (hl0 : l.stackTraces = false) {Z : xZ} {B0 : Nat} {μ : Mu} {tb : Tb} {k : Nat} (h : LJ μ tb k) {a b c d : Int32} (e38 : (M_rates μ a b c d).1 38 0 = 1) : CallOK l Z B0 μ tb 1 a b c d (-2000000001) μ tb 4 24 := by
  intro lay r hr2
  refine call_of (dd_rates l hl0 Z B0 lay μ tb r a b c d h.I) (fun z => absurd (e38.symm.trans z) (by decide)) ?_
  rintro E (⟨rfl, h9⟩ | ⟨rfl, h9⟩)
  · exact ⟨rfl, Or.inl ⟨rfl, rfl⟩⟩
  · exact absurd (e38.symm.trans h9) (by decide)
theorem ckE_rates_2 {l : Launch} (hl0 : l.stackTraces = false) {Z : xZ} {B0 : Nat} {μ : Mu} {tb : Tb} {k : Nat} (h : LJ μ tb k) {a b c d : Int32} (e38 : (M_rates μ a b c d).1 38 0 = 2) : CallOK l Z B0 μ tb 1 a b c d (-2000000002) μ tb 4 24 := by
  intro lay r hr2
  refine call_of (dd_rates l hl0 Z B0 lay μ tb r a b c d h.I) (fun z => absurd (e38.symm.trans z) (by decide)) ?_
  rintro E (⟨rfl, h9⟩ | ⟨rfl, h9⟩)
  · exact absurd (e38.symm.trans h9) (by decide)
  · exact ⟨rfl, Or.inr (Or.inl ⟨rfl, rfl⟩)⟩
theorem ckS_rates {l : Launch} (hl0 : l.stackTraces = false) {Z : xZ} {B0 : Nat} {μ : Mu} {tb : Tb} {k : Nat} (h : LJ μ tb k) {a b c d : Int32} {ν : Mu} (eM : M_rates μ a b c d = ν) (e0 : ν.1 38 0 = 0) : CallOK l Z B0 μ tb 1 a b c d 0 ν tb 4 24 := by
  intro lay r hr2
  have e38 : (M_rates μ a b c d).1 38 0 = 0 := by rw [eM]; exact e0
  refine call_of (dd_rates l hl0 Z B0 lay μ tb r a b c d h.I) (fun _ => ⟨rfl, fun _ => by rw [eM]⟩) ?_
  rintro E (⟨rfl, h9⟩ | ⟨rfl, h9⟩)
  · exact absurd (e38.symm.trans h9) (by decide)
  · exact absurd (e38.symm.trans h9) (by decide)
theorem ckE_due_1 {l : Launch} (hl0 : l.stackTraces = false) {Z : xZ} {B0 : Nat} {μ : Mu} {tb : Tb} {k : Nat} (h : LJ μ tb k) {a b c d : Int32} (e38 : (M_due μ a b c).2.1 38 0 = 1) : CallOK l Z B0 μ tb 2 a b c d (-2000000001) μ tb 3 18 := by
  intro lay r hr2
  refine call_of (dd_due l hl0 Z B0 lay μ tb r a b c d h.I) (fun z => absurd (e38.symm.trans z) (by decide)) ?_
  rintro E (⟨rfl, h9⟩ | ⟨rfl, h9⟩)
  · exact ⟨rfl, Or.inl ⟨rfl, rfl⟩⟩
  · exact absurd (e38.symm.trans h9) (by decide)
theorem ckE_due_2 {l : Launch} (hl0 : l.stackTraces = false) {Z : xZ} {B0 : Nat} {μ : Mu} {tb : Tb} {k : Nat} (h : LJ μ tb k) {a b c d : Int32} (e38 : (M_due μ a b c).2.1 38 0 = 2) : CallOK l Z B0 μ tb 2 a b c d (-2000000002) μ tb 3 18 := by
  intro lay r hr2
  refine call_of (dd_due l hl0 Z B0 lay μ tb r a b c d h.I) (fun z => absurd (e38.symm.trans z) (by decide)) ?_
  rintro E (⟨rfl, h9⟩ | ⟨rfl, h9⟩)
  · exact absurd (e38.symm.trans h9) (by decide)
  · exact ⟨rfl, Or.inr (Or.inl ⟨rfl, rfl⟩)⟩
theorem ckS_due {l : Launch} (hl0 : l.stackTraces = false) {Z : xZ} {B0 : Nat} {μ : Mu} {tb : Tb} {k : Nat} (h : LJ μ tb k) {a b c d ans : Int32} {ν : Mu} (eM : M_due μ a b c = (ans, ν)) (e0 : ν.1 38 0 = 0) : CallOK l Z B0 μ tb 2 a b c d ans ν tb 3 18 := by
  intro lay r hr2
  have e38 : (M_due μ a b c).2.1 38 0 = 0 := by rw [eM]; exact e0
  refine call_of (dd_due l hl0 Z B0 lay μ tb r a b c d h.I) (fun _ => ⟨by rw [eM], fun _ => by rw [eM]⟩) ?_
  rintro E (⟨rfl, h9⟩ | ⟨rfl, h9⟩)
  · exact absurd (e38.symm.trans h9) (by decide)
  · exact absurd (e38.symm.trans h9) (by decide)
theorem ckE_charge_1 {l : Launch} (hl0 : l.stackTraces = false) {Z : xZ} {B0 : Nat} {μ : Mu} {tb : Tb} {k : Nat} (h : LJ μ tb k) {a b c d : Int32} (e38 : (M_charge μ a b).2.1 38 0 = 1) : CallOK l Z B0 μ tb 3 a b c d (-2000000001) μ tb 2 12 := by
  intro lay r hr2
  refine call_of (dd_charge l hl0 Z B0 lay μ tb r a b c d h.I) (fun z => absurd (e38.symm.trans z) (by decide)) ?_
  rintro E (⟨rfl, h9⟩ | ⟨rfl, h9⟩)
  · exact ⟨rfl, Or.inl ⟨rfl, rfl⟩⟩
  · exact absurd (e38.symm.trans h9) (by decide)
theorem ckE_charge_2 {l : Launch} (hl0 : l.stackTraces = false) {Z : xZ} {B0 : Nat} {μ : Mu} {tb : Tb} {k : Nat} (h : LJ μ tb k) {a b c d : Int32} (e38 : (M_charge μ a b).2.1 38 0 = 2) : CallOK l Z B0 μ tb 3 a b c d (-2000000002) μ tb 2 12 := by
  intro lay r hr2
  refine call_of (dd_charge l hl0 Z B0 lay μ tb r a b c d h.I) (fun z => absurd (e38.symm.trans z) (by decide)) ?_
  rintro E (⟨rfl, h9⟩ | ⟨rfl, h9⟩)
  · exact absurd (e38.symm.trans h9) (by decide)
  · exact ⟨rfl, Or.inr (Or.inl ⟨rfl, rfl⟩)⟩
theorem ckS_charge {l : Launch} (hl0 : l.stackTraces = false) {Z : xZ} {B0 : Nat} {μ : Mu} {tb : Tb} {k : Nat} (h : LJ μ tb k) {a b c d ans : Int32} {ν : Mu} (eM : M_charge μ a b = (ans, ν)) (e0 : ν.1 38 0 = 0) : CallOK l Z B0 μ tb 3 a b c d ans ν tb 2 12 := by
  intro lay r hr2
  have e38 : (M_charge μ a b).2.1 38 0 = 0 := by rw [eM]; exact e0
  refine call_of (dd_charge l hl0 Z B0 lay μ tb r a b c d h.I) (fun _ => ⟨by rw [eM], fun _ => by rw [eM]⟩) ?_
  rintro E (⟨rfl, h9⟩ | ⟨rfl, h9⟩)
  · exact absurd (e38.symm.trans h9) (by decide)
  · exact absurd (e38.symm.trans h9) (by decide)
theorem ckE_coupon_1 {l : Launch} (hl0 : l.stackTraces = false) {Z : xZ} {B0 : Nat} {μ : Mu} {tb : Tb} {k : Nat} (h : LJ μ tb k) {a b c d : Int32} (e38 : (M_coupon μ a b).2.1 38 0 = 1) : CallOK l Z B0 μ tb 4 a b c d (-2000000001) μ tb 2 12 := by
  intro lay r hr2
  refine call_of (dd_coupon l hl0 Z B0 lay μ tb r a b c d h.I) (fun z => absurd (e38.symm.trans z) (by decide)) ?_
  rintro E (⟨rfl, h9⟩ | ⟨rfl, h9⟩)
  · exact ⟨rfl, Or.inl ⟨rfl, rfl⟩⟩
  · exact absurd (e38.symm.trans h9) (by decide)
theorem ckE_coupon_2 {l : Launch} (hl0 : l.stackTraces = false) {Z : xZ} {B0 : Nat} {μ : Mu} {tb : Tb} {k : Nat} (h : LJ μ tb k) {a b c d : Int32} (e38 : (M_coupon μ a b).2.1 38 0 = 2) : CallOK l Z B0 μ tb 4 a b c d (-2000000002) μ tb 2 12 := by
  intro lay r hr2
  refine call_of (dd_coupon l hl0 Z B0 lay μ tb r a b c d h.I) (fun z => absurd (e38.symm.trans z) (by decide)) ?_
  rintro E (⟨rfl, h9⟩ | ⟨rfl, h9⟩)
  · exact absurd (e38.symm.trans h9) (by decide)
  · exact ⟨rfl, Or.inr (Or.inl ⟨rfl, rfl⟩)⟩
theorem ckS_coupon {l : Launch} (hl0 : l.stackTraces = false) {Z : xZ} {B0 : Nat} {μ : Mu} {tb : Tb} {k : Nat} (h : LJ μ tb k) {a b c d ans : Int32} {ν : Mu} (eM : M_coupon μ a b = (ans, ν)) (e0 : ν.1 38 0 = 0) : CallOK l Z B0 μ tb 4 a b c d ans ν tb 2 12 := by
  intro lay r hr2
  have e38 : (M_coupon μ a b).2.1 38 0 = 0 := by rw [eM]; exact e0
  refine call_of (dd_coupon l hl0 Z B0 lay μ tb r a b c d h.I) (fun _ => ⟨by rw [eM], fun _ => by rw [eM]⟩) ?_
  rintro E (⟨rfl, h9⟩ | ⟨rfl, h9⟩)
  · exact absurd (e38.symm.trans h9) (by decide)
  · exact absurd (e38.symm.trans h9) (by decide)
theorem ckE_strike_1 {l : Launch} (hl0 : l.stackTraces = false) {Z : xZ} {B0 : Nat} {μ : Mu} {tb : Tb} {k : Nat} (h : LJ μ tb k) {a b c d : Int32} (e38 : (M_strike μ a (bo b)).2.1 38 0 = 1) : CallOK l Z B0 μ tb 5 a b c d (-2000000001) μ tb 1 6 := by
  intro lay r hr2
  refine call_of (dd_strike l hl0 Z B0 lay μ tb r a b c d h.I) (fun z => absurd (e38.symm.trans z) (by decide)) ?_
  rintro E ⟨rfl, h9⟩
  exact ⟨rfl, Or.inl ⟨rfl, rfl⟩⟩
theorem ckS_strike {l : Launch} (hl0 : l.stackTraces = false) {Z : xZ} {B0 : Nat} {μ : Mu} {tb : Tb} {k : Nat} (h : LJ μ tb k) {a b c d ans : Int32} {ν : Mu} (eM : M_strike μ a (bo b) = (ans, ν)) (e0 : ν.1 38 0 = 0) : CallOK l Z B0 μ tb 5 a b c d ans ν tb 1 6 := by
  intro lay r hr2
  have e38 : (M_strike μ a (bo b)).2.1 38 0 = 0 := by rw [eM]; exact e0
  refine call_of (dd_strike l hl0 Z B0 lay μ tb r a b c d h.I) (fun _ => ⟨by rw [eM], fun _ => by rw [eM]⟩) ?_
  rintro E ⟨rfl, h9⟩
  exact absurd (e38.symm.trans h9) (by decide)
theorem ckE_leg_1 {l : Launch} (hl0 : l.stackTraces = false) {Z : xZ} {B0 : Nat} {μ : Mu} {tb : Tb} {k : Nat} (h : LJ μ tb k) {a b c d : Int32} (e38 : (M_leg μ a b c).2.1 38 0 = 1) : CallOK l Z B0 μ tb 6 a b c d (-2000000001) μ tb 5 28 := by
  intro lay r hr2
  refine call_of (dd_leg l hl0 Z B0 lay μ tb r a b c d h.I h.K) (fun z => absurd (e38.symm.trans z) (by decide)) ?_
  rintro E (⟨rfl, h9⟩ | ⟨rfl, h9⟩ | ⟨rfl, h9⟩)
  · exact ⟨rfl, Or.inl ⟨rfl, rfl⟩⟩
  · exact absurd (e38.symm.trans h9) (by decide)
  · exact absurd (e38.symm.trans h9) (by decide)
theorem ckE_leg_2 {l : Launch} (hl0 : l.stackTraces = false) {Z : xZ} {B0 : Nat} {μ : Mu} {tb : Tb} {k : Nat} (h : LJ μ tb k) {a b c d : Int32} (e38 : (M_leg μ a b c).2.1 38 0 = 2) : CallOK l Z B0 μ tb 6 a b c d (-2000000002) μ tb 5 28 := by
  intro lay r hr2
  refine call_of (dd_leg l hl0 Z B0 lay μ tb r a b c d h.I h.K) (fun z => absurd (e38.symm.trans z) (by decide)) ?_
  rintro E (⟨rfl, h9⟩ | ⟨rfl, h9⟩ | ⟨rfl, h9⟩)
  · exact absurd (e38.symm.trans h9) (by decide)
  · exact ⟨rfl, Or.inr (Or.inl ⟨rfl, rfl⟩)⟩
  · exact absurd (e38.symm.trans h9) (by decide)
theorem ckE_leg_3 {l : Launch} (hl0 : l.stackTraces = false) {Z : xZ} {B0 : Nat} {μ : Mu} {tb : Tb} {k : Nat} (h : LJ μ tb k) {a b c d : Int32} (e38 : (M_leg μ a b c).2.1 38 0 = 3) : CallOK l Z B0 μ tb 6 a b c d (-2000000003) μ tb 5 28 := by
  intro lay r hr2
  refine call_of (dd_leg l hl0 Z B0 lay μ tb r a b c d h.I h.K) (fun z => absurd (e38.symm.trans z) (by decide)) ?_
  rintro E (⟨rfl, h9⟩ | ⟨rfl, h9⟩ | ⟨rfl, h9⟩)
  · exact absurd (e38.symm.trans h9) (by decide)
  · exact absurd (e38.symm.trans h9) (by decide)
  · exact ⟨rfl, Or.inr (Or.inr ⟨rfl, rfl⟩)⟩
theorem ckS_leg {l : Launch} (hl0 : l.stackTraces = false) {Z : xZ} {B0 : Nat} {μ : Mu} {tb : Tb} {k : Nat} (h : LJ μ tb k) {a b c d ans : Int32} {ν : Mu} (eM : M_leg μ a b c = (ans, ν)) (e0 : ν.1 38 0 = 0) : CallOK l Z B0 μ tb 6 a b c d ans ν (K_reckon (up2 (up2 (up2 (up2 μ.1 11 (ix (μ.1 10 0)) a) 12 (ix (μ.1 10 0)) b) 13 (ix (μ.1 10 0)) c) 10 0 (μ.1 10 0 + 1), μ.2) tb.1, tb.2) 5 28 := by
  intro lay r hr2
  have e38 : (M_leg μ a b c).2.1 38 0 = 0 := by rw [eM]; exact e0
  refine call_of (dd_leg l hl0 Z B0 lay μ tb r a b c d h.I h.K) (fun _ => ⟨by rw [eM], fun _ => by rw [eM]⟩) ?_
  rintro E (⟨rfl, h9⟩ | ⟨rfl, h9⟩ | ⟨rfl, h9⟩)
  · exact absurd (e38.symm.trans h9) (by decide)
  · exact absurd (e38.symm.trans h9) (by decide)
  · exact absurd (e38.symm.trans h9) (by decide)
theorem ckE_close_1 {l : Launch} (hl0 : l.stackTraces = false) {Z : xZ} {B0 : Nat} {μ : Mu} {tb : Tb} {k : Nat} (h : LJ μ tb k) {a b c d : Int32} (e38 : (M_close μ a (bo b)).2.1 38 0 = 1) : CallOK l Z B0 μ tb 7 a b c d (-2000000001) μ tb 1 6 := by
  intro lay r hr2
  refine call_of (dd_close l hl0 Z B0 lay μ tb r a b c d h.I h.K) (fun z => absurd (e38.symm.trans z) (by decide)) ?_
  rintro E ⟨rfl, h9⟩
  exact ⟨rfl, Or.inl ⟨rfl, rfl⟩⟩
theorem ckS_close {l : Launch} (hl0 : l.stackTraces = false) {Z : xZ} {B0 : Nat} {μ : Mu} {tb : Tb} {k : Nat} (h : LJ μ tb k) {a b c d ans : Int32} {ν : Mu} (eM : M_close μ a (bo b) = (ans, ν)) (e0 : ν.1 38 0 = 0) : CallOK l Z B0 μ tb 7 a b c d ans ν (if μ.1 14 (ix a) = bo b then tb.1 else K_reckon (up2 μ.1 14 (ix a) (bo b), μ.2) tb.1, tb.2) 1 6 := by
  intro lay r hr2
  have e38 : (M_close μ a (bo b)).2.1 38 0 = 0 := by rw [eM]; exact e0
  refine call_of (dd_close l hl0 Z B0 lay μ tb r a b c d h.I h.K) (fun _ => ⟨by rw [eM], fun _ => by rw [eM]⟩) ?_
  rintro E ⟨rfl, h9⟩
  exact absurd (e38.symm.trans h9) (by decide)
theorem ckE_days_1 {l : Launch} (hl0 : l.stackTraces = false) {Z : xZ} {B0 : Nat} {μ : Mu} {tb : Tb} {k : Nat} (h : LJ μ tb k) {a b c d : Int32} (e38 : (M_told μ a b).2.1 38 0 = 1) : CallOK l Z B0 μ tb 8 a b c d (-2000000001) μ tb 2 12 := by
  intro lay r hr2
  refine call_of (dd_days l hl0 Z B0 lay μ tb r a b c d h.I h.S) (fun z => absurd (e38.symm.trans z) (by decide)) ?_
  rintro E ⟨rfl, h9⟩
  exact ⟨rfl, Or.inl ⟨rfl, rfl⟩⟩
theorem ckE_daysAnew_1 {l : Launch} (hl0 : l.stackTraces = false) {Z : xZ} {B0 : Nat} {μ : Mu} {tb : Tb} {k : Nat} (h : LJ μ tb k) {a b c d : Int32} (e38 : (M_told μ a b).2.1 38 0 = 1) : CallOK l Z B0 μ tb 9 a b c d (-2000000001) μ tb 2 12 := by
  intro lay r hr2
  refine call_of (dd_daysAnew l hl0 Z B0 lay μ tb r a b c d h.I h.S) (fun z => absurd (e38.symm.trans z) (by decide)) ?_
  rintro E ⟨rfl, h9⟩
  exact ⟨rfl, Or.inl ⟨rfl, rfl⟩⟩
theorem ckE_next_1 {l : Launch} (hl0 : l.stackTraces = false) {Z : xZ} {B0 : Nat} {μ : Mu} {tb : Tb} {k : Nat} (h : LJ μ tb k) {a b c d : Int32} (e38 : (M_next μ a b).2.1 38 0 = 1) : CallOK l Z B0 μ tb 10 a b c d (-2000000001) μ tb 2 12 := by
  intro lay r hr2
  refine call_of (dd_next l hl0 Z B0 lay μ tb r a b c d h.I h.S) (fun z => absurd (e38.symm.trans z) (by decide)) ?_
  rintro E ⟨rfl, h9⟩
  exact ⟨rfl, Or.inl ⟨rfl, rfl⟩⟩
theorem ckE_redirect_1 {l : Launch} (hl0 : l.stackTraces = false) {Z : xZ} {B0 : Nat} {μ : Mu} {tb : Tb} {k : Nat} (h : LJ μ tb k) {a b c d : Int32} (e38 : (M_redirect μ a b).2.1 38 0 = 1) : CallOK l Z B0 μ tb 11 a b c d (-2000000001) μ tb 3 18 := by
  intro lay r hr2
  refine call_of (dd_redirect l hl0 Z B0 lay μ tb r a b c d h.I h.K) (fun z => absurd (e38.symm.trans z) (by decide)) ?_
  rintro E (⟨rfl, h9⟩ | ⟨rfl, h9⟩ | ⟨rfl, h9⟩)
  · exact ⟨rfl, Or.inl ⟨rfl, rfl⟩⟩
  · exact absurd (e38.symm.trans h9) (by decide)
  · exact absurd (e38.symm.trans h9) (by decide)
theorem ckE_redirect_2 {l : Launch} (hl0 : l.stackTraces = false) {Z : xZ} {B0 : Nat} {μ : Mu} {tb : Tb} {k : Nat} (h : LJ μ tb k) {a b c d : Int32} (e38 : (M_redirect μ a b).2.1 38 0 = 2) : CallOK l Z B0 μ tb 11 a b c d (-2000000002) μ tb 3 18 := by
  intro lay r hr2
  refine call_of (dd_redirect l hl0 Z B0 lay μ tb r a b c d h.I h.K) (fun z => absurd (e38.symm.trans z) (by decide)) ?_
  rintro E (⟨rfl, h9⟩ | ⟨rfl, h9⟩ | ⟨rfl, h9⟩)
  · exact absurd (e38.symm.trans h9) (by decide)
  · exact ⟨rfl, Or.inr (Or.inl ⟨rfl, rfl⟩)⟩
  · exact absurd (e38.symm.trans h9) (by decide)
theorem ckE_redirect_3 {l : Launch} (hl0 : l.stackTraces = false) {Z : xZ} {B0 : Nat} {μ : Mu} {tb : Tb} {k : Nat} (h : LJ μ tb k) {a b c d : Int32} (e38 : (M_redirect μ a b).2.1 38 0 = 3) : CallOK l Z B0 μ tb 11 a b c d (-2000000003) μ tb 3 18 := by
  intro lay r hr2
  refine call_of (dd_redirect l hl0 Z B0 lay μ tb r a b c d h.I h.K) (fun z => absurd (e38.symm.trans z) (by decide)) ?_
  rintro E (⟨rfl, h9⟩ | ⟨rfl, h9⟩ | ⟨rfl, h9⟩)
  · exact absurd (e38.symm.trans h9) (by decide)
  · exact absurd (e38.symm.trans h9) (by decide)
  · exact ⟨rfl, Or.inr (Or.inr ⟨rfl, rfl⟩)⟩
theorem ckS_redirect {l : Launch} (hl0 : l.stackTraces = false) {Z : xZ} {B0 : Nat} {μ : Mu} {tb : Tb} {k : Nat} (h : LJ μ tb k) {a b c d ans : Int32} {ν : Mu} (eM : M_redirect μ a b = (ans, ν)) (e0 : ν.1 38 0 = 0) : CallOK l Z B0 μ tb 11 a b c d ans ν tb 3 18 := by
  intro lay r hr2
  have e38 : (M_redirect μ a b).2.1 38 0 = 0 := by rw [eM]; exact e0
  refine call_of (dd_redirect l hl0 Z B0 lay μ tb r a b c d h.I h.K) (fun _ => ⟨by rw [eM], fun _ => by rw [eM]⟩) ?_
  rintro E (⟨rfl, h9⟩ | ⟨rfl, h9⟩ | ⟨rfl, h9⟩)
  · exact absurd (e38.symm.trans h9) (by decide)
  · exact absurd (e38.symm.trans h9) (by decide)
  · exact absurd (e38.symm.trans h9) (by decide)
theorem ckE_refuse_1 {l : Launch} (hl0 : l.stackTraces = false) {Z : xZ} {B0 : Nat} {μ : Mu} {tb : Tb} {k : Nat} (h : LJ μ tb k) {a b c d : Int32} (e38 : (M_refuse μ a (bo b)).2.1 38 0 = 1) : CallOK l Z B0 μ tb 12 a b c d (-2000000001) μ tb 2 12 := by
  intro lay r hr2
  refine call_of (dd_refuse l hl0 Z B0 lay μ tb r a b c d h.I) (fun z => absurd (e38.symm.trans z) (by decide)) ?_
  rintro E (⟨rfl, h9⟩ | ⟨rfl, h9⟩)
  · exact ⟨rfl, Or.inl ⟨rfl, rfl⟩⟩
  · exact absurd (e38.symm.trans h9) (by decide)
theorem ckE_refuse_2 {l : Launch} (hl0 : l.stackTraces = false) {Z : xZ} {B0 : Nat} {μ : Mu} {tb : Tb} {k : Nat} (h : LJ μ tb k) {a b c d : Int32} (e38 : (M_refuse μ a (bo b)).2.1 38 0 = 2) : CallOK l Z B0 μ tb 12 a b c d (-2000000003) μ tb 2 12 := by
  intro lay r hr2
  refine call_of (dd_refuse l hl0 Z B0 lay μ tb r a b c d h.I) (fun z => absurd (e38.symm.trans z) (by decide)) ?_
  rintro E (⟨rfl, h9⟩ | ⟨rfl, h9⟩)
  · exact absurd (e38.symm.trans h9) (by decide)
  · exact ⟨rfl, Or.inr (Or.inr ⟨rfl, rfl⟩)⟩
theorem ckS_refuse {l : Launch} (hl0 : l.stackTraces = false) {Z : xZ} {B0 : Nat} {μ : Mu} {tb : Tb} {k : Nat} (h : LJ μ tb k) {a b c d ans : Int32} {ν : Mu} (eM : M_refuse μ a (bo b) = (ans, ν)) (e0 : ν.1 38 0 = 0) : CallOK l Z B0 μ tb 12 a b c d ans ν tb 2 12 := by
  intro lay r hr2
  have e38 : (M_refuse μ a (bo b)).2.1 38 0 = 0 := by rw [eM]; exact e0
  refine call_of (dd_refuse l hl0 Z B0 lay μ tb r a b c d h.I) (fun _ => ⟨by rw [eM], fun _ => by rw [eM]⟩) ?_
  rintro E (⟨rfl, h9⟩ | ⟨rfl, h9⟩)
  · exact absurd (e38.symm.trans h9) (by decide)
  · exact absurd (e38.symm.trans h9) (by decide)
theorem ckE_go_1 {l : Launch} (hl0 : l.stackTraces = false) {Z : xZ} {B0 : Nat} {μ : Mu} {tb : Tb} {k : Nat} (h : LJ μ tb k) {a b c d : Int32} (hk : k < 500) (ce sl : Nat) (hce1 : 1 ≤ ce ∧ 6 ≤ sl) (hce : inR a 1 200 → 1 + Pp (KT_days (ix a) (0, th μ 0) tb) ≤ ce + Pp tb ∧ 6 + 2 * Pp (KT_days (ix a) (0, th μ 0) tb) ≤ sl + 2 * Pp tb) (e38 : (M_go μ a).2.1 38 0 = 1) : CallOK l Z B0 μ tb 13 a b c d (-2000000002) μ tb ce sl := by
  intro lay r hr2
  refine call_of (dd_go l hl0 Z B0 lay μ tb r hr2 a b c d (23 + 7 * k) h.1.gi (LI_th h.1 0).gi (by omega) ce sl hce1 hce) (fun z => absurd (e38.symm.trans z) (by decide)) ?_
  rintro E ⟨rfl, h9⟩
  exact ⟨rfl, Or.inr (Or.inl ⟨rfl, rfl⟩)⟩
theorem ckS_go {l : Launch} (hl0 : l.stackTraces = false) {Z : xZ} {B0 : Nat} {μ : Mu} {tb : Tb} {k : Nat} (h : LJ μ tb k) {a b c d ans : Int32} {ν : Mu} (hk : k < 500) (ce sl : Nat) (hce1 : 1 ≤ ce ∧ 6 ≤ sl) (hce : inR a 1 200 → 1 + Pp (KT_days (ix a) (0, th μ 0) tb) ≤ ce + Pp tb ∧ 6 + 2 * Pp (KT_days (ix a) (0, th μ 0) tb) ≤ sl + 2 * Pp tb) (eM : M_go μ a = (ans, ν)) (e0 : ν.1 38 0 = 0) : CallOK l Z B0 μ tb 13 a b c d ans ν (KT_days (ix a) (0, th μ 0) tb) ce sl := by
  intro lay r hr2
  have e38 : (M_go μ a).2.1 38 0 = 0 := by rw [eM]; exact e0
  refine call_of (dd_go l hl0 Z B0 lay μ tb r hr2 a b c d (23 + 7 * k) h.1.gi (LI_th h.1 0).gi (by omega) ce sl hce1 hce) (fun _ => ⟨by rw [eM], fun _ => by rw [eM]⟩) ?_
  rintro E ⟨rfl, h9⟩
  exact absurd (e38.symm.trans h9) (by decide)
theorem ckE_lose_1 {l : Launch} (hl0 : l.stackTraces = false) {Z : xZ} {B0 : Nat} {μ : Mu} {tb : Tb} {k : Nat} (h : LJ μ tb k) {a b c d : Int32} (e38 : (M_lose μ a).2.1 38 0 = 1) : CallOK l Z B0 μ tb 14 a b c d (-2000000001) μ tb 2 12 := by
  intro lay r hr2
  refine call_of (dd_lose l hl0 Z B0 lay μ tb r a b c d h.I h.H.choose h.H.choose_spec) (fun z => absurd (e38.symm.trans z) (by decide)) ?_
  rintro E (⟨rfl, h9⟩ | ⟨rfl, h9⟩)
  · exact ⟨rfl, Or.inl ⟨rfl, rfl⟩⟩
  · exact absurd (e38.symm.trans h9) (by decide)
theorem ckE_lose_2 {l : Launch} (hl0 : l.stackTraces = false) {Z : xZ} {B0 : Nat} {μ : Mu} {tb : Tb} {k : Nat} (h : LJ μ tb k) {a b c d : Int32} (e38 : (M_lose μ a).2.1 38 0 = 2) : CallOK l Z B0 μ tb 14 a b c d (-2000000003) μ tb 2 12 := by
  intro lay r hr2
  refine call_of (dd_lose l hl0 Z B0 lay μ tb r a b c d h.I h.H.choose h.H.choose_spec) (fun z => absurd (e38.symm.trans z) (by decide)) ?_
  rintro E (⟨rfl, h9⟩ | ⟨rfl, h9⟩)
  · exact absurd (e38.symm.trans h9) (by decide)
  · exact ⟨rfl, Or.inr (Or.inr ⟨rfl, rfl⟩)⟩
theorem ckS_lose {l : Launch} (hl0 : l.stackTraces = false) {Z : xZ} {B0 : Nat} {μ : Mu} {tb : Tb} {k : Nat} (h : LJ μ tb k) {a b c d ans : Int32} {ν : Mu} (eM : M_lose μ a = (ans, ν)) (e0 : ν.1 38 0 = 0) : CallOK l Z B0 μ tb 14 a b c d ans ν tb 2 12 := by
  intro lay r hr2
  have e38 : (M_lose μ a).2.1 38 0 = 0 := by rw [eM]; exact e0
  refine call_of (dd_lose l hl0 Z B0 lay μ tb r a b c d h.I h.H.choose h.H.choose_spec) (fun _ => ⟨by rw [eM], fun _ => by rw [eM]⟩) ?_
  rintro E (⟨rfl, h9⟩ | ⟨rfl, h9⟩)
  · exact absurd (e38.symm.trans h9) (by decide)
  · exact absurd (e38.symm.trans h9) (by decide)
theorem ckE_claim_1 {l : Launch} (hl0 : l.stackTraces = false) {Z : xZ} {B0 : Nat} {μ : Mu} {tb : Tb} {k : Nat} (h : LJ μ tb k) {a b c d : Int32} (e38 : (M_claim μ a).2.1 38 0 = 1) : CallOK l Z B0 μ tb 15 a b c d (-2000000001) μ tb 2 12 := by
  intro lay r hr2
  refine call_of (dd_claim l hl0 Z B0 lay μ tb r a b c d h.I h.K) (fun z => absurd (e38.symm.trans z) (by decide)) ?_
  rintro E (⟨rfl, h9⟩ | ⟨rfl, h9⟩)
  · exact ⟨rfl, Or.inl ⟨rfl, rfl⟩⟩
  · exact absurd (e38.symm.trans h9) (by decide)
theorem ckE_claim_2 {l : Launch} (hl0 : l.stackTraces = false) {Z : xZ} {B0 : Nat} {μ : Mu} {tb : Tb} {k : Nat} (h : LJ μ tb k) {a b c d : Int32} (e38 : (M_claim μ a).2.1 38 0 = 2) : CallOK l Z B0 μ tb 15 a b c d (-2000000003) μ tb 2 12 := by
  intro lay r hr2
  refine call_of (dd_claim l hl0 Z B0 lay μ tb r a b c d h.I h.K) (fun z => absurd (e38.symm.trans z) (by decide)) ?_
  rintro E (⟨rfl, h9⟩ | ⟨rfl, h9⟩)
  · exact absurd (e38.symm.trans h9) (by decide)
  · exact ⟨rfl, Or.inr (Or.inr ⟨rfl, rfl⟩)⟩
theorem ckS_claim {l : Launch} (hl0 : l.stackTraces = false) {Z : xZ} {B0 : Nat} {μ : Mu} {tb : Tb} {k : Nat} (h : LJ μ tb k) {a b c d ans : Int32} {ν : Mu} (eM : M_claim μ a = (ans, ν)) (e0 : ν.1 38 0 = 0) : CallOK l Z B0 μ tb 15 a b c d ans ν tb 2 12 := by
  intro lay r hr2
  have e38 : (M_claim μ a).2.1 38 0 = 0 := by rw [eM]; exact e0
  refine call_of (dd_claim l hl0 Z B0 lay μ tb r a b c d h.I h.K) (fun _ => ⟨by rw [eM], fun _ => by rw [eM]⟩) ?_
  rintro E (⟨rfl, h9⟩ | ⟨rfl, h9⟩)
  · exact absurd (e38.symm.trans h9) (by decide)
  · exact absurd (e38.symm.trans h9) (by decide)
theorem ckS_sample {l : Launch} (hl0 : l.stackTraces = false) {Z : xZ} {B0 : Nat} {μ : Mu} {tb : Tb} {k : Nat} (h : LJ μ tb k) {a b c d ans : Int32} {ν : Mu} (eM : M_sample μ (bo a) = (ans, ν)) (e0 : ν.1 38 0 = 0) : CallOK l Z B0 μ tb 16 a b c d ans ν tb 1 6 := by
  intro lay r hr2
  have e38 : (M_sample μ (bo a)).2.1 38 0 = 0 := by rw [eM]; exact e0
  refine call_of (dd_sample l hl0 Z B0 lay μ tb r a b c d h.I) (fun _ => ⟨by rw [eM], fun _ => by rw [eM]⟩) ?_
  exact fun E hE => False.elim hE
theorem ckE_rate_1 {l : Launch} (hl0 : l.stackTraces = false) {Z : xZ} {B0 : Nat} {μ : Mu} {tb : Tb} {k : Nat} (h : LJ μ tb k) {a b c d : Int32} (e38 : (M_rate μ a b c (bo d)).2.1 38 0 = 1) : CallOK l Z B0 μ tb 17 a b c d (-2000000001) μ tb 3 18 := by
  intro lay r hr2
  refine call_of (dd_rate l hl0 Z B0 lay μ tb r a b c d h.I) (fun z => absurd (e38.symm.trans z) (by decide)) ?_
  rintro E (⟨rfl, h9⟩ | ⟨rfl, h9⟩)
  · exact ⟨rfl, Or.inl ⟨rfl, rfl⟩⟩
  · exact absurd (e38.symm.trans h9) (by decide)
theorem ckE_rate_2 {l : Launch} (hl0 : l.stackTraces = false) {Z : xZ} {B0 : Nat} {μ : Mu} {tb : Tb} {k : Nat} (h : LJ μ tb k) {a b c d : Int32} (e38 : (M_rate μ a b c (bo d)).2.1 38 0 = 2) : CallOK l Z B0 μ tb 17 a b c d (-2000000002) μ tb 3 18 := by
  intro lay r hr2
  refine call_of (dd_rate l hl0 Z B0 lay μ tb r a b c d h.I) (fun z => absurd (e38.symm.trans z) (by decide)) ?_
  rintro E (⟨rfl, h9⟩ | ⟨rfl, h9⟩)
  · exact absurd (e38.symm.trans h9) (by decide)
  · exact ⟨rfl, Or.inr (Or.inl ⟨rfl, rfl⟩)⟩
theorem ckE_hand_1 {l : Launch} (hl0 : l.stackTraces = false) {Z : xZ} {B0 : Nat} {μ : Mu} {tb : Tb} {k : Nat} (h : LJ μ tb k) {a b c d : Int32} (e38 : (M_hand μ a b).2.1 38 0 = 1) : CallOK l Z B0 μ tb 18 a b c d (-2000000001) μ tb 2 12 := by
  intro lay r hr2
  refine call_of (dd_hand l hl0 Z B0 lay μ tb r a b c d h.I h.H.choose h.H.choose_spec) (fun z => absurd (e38.symm.trans z) (by decide)) ?_
  rintro E ⟨rfl, h9⟩
  exact ⟨rfl, Or.inl ⟨rfl, rfl⟩⟩
theorem ckE_gain_1 {l : Launch} (hl0 : l.stackTraces = false) {Z : xZ} {B0 : Nat} {μ : Mu} {tb : Tb} {k : Nat} (h : LJ μ tb k) {a b c d : Int32} (e38 : (M_gain μ a).2.1 38 0 = 1) : CallOK l Z B0 μ tb 19 a b c d (-2000000002) μ tb 1 6 := by
  intro lay r hr2
  refine call_of (dd_gain l hl0 Z B0 lay μ tb r a b c d h.I h.K) (fun z => absurd (e38.symm.trans z) (by decide)) ?_
  rintro E ⟨rfl, h9⟩
  exact ⟨rfl, Or.inr (Or.inl ⟨rfl, rfl⟩)⟩
theorem ckQ_days {l : Launch} (hl0 : l.stackTraces = false) {Z : xZ} {B0 : Nat} {μ : Mu} {tb : Tb} {k : Nat} (h : LJ μ tb k) {p q : Nat} (hp : p < nP μ) (hq : q < nP μ) (c d : Int32) : CallOK l Z B0 μ tb 8 (nI p) (nI q) c d (dY μ p q) μ tb 2 12 := by
  intro lay r hr2
  have h1 := isP_n h.I hp
  have h2 := isP_n h.I hq
  have e38 : (M_told μ (nI p) (nI q)).2.1 38 0 = 0 := (told_m (Z := Z) (lay := lay) (tb := tb) (r := r) h1.1 h2.1).1
  refine call_of (dd_days l hl0 Z B0 lay μ tb r (nI p) (nI q) c d h.I h.S) (fun _ => ⟨rfl, fun lay' => (told_m (Z := Z) (lay := lay') (tb := tb) (r := r) h1.1 h2.1).2.symm⟩) ?_
  rintro E ⟨rfl, h9⟩
  exact absurd (e38.symm.trans h9) (by decide)
theorem ckQ_next {l : Launch} (hl0 : l.stackTraces = false) {Z : xZ} {B0 : Nat} {μ : Mu} {tb : Tb} {k : Nat} (h : LJ μ tb k) {p q : Nat} (hp : p < nP μ) (hq : q < nP μ) (c d : Int32) : CallOK l Z B0 μ tb 10 (nI p) (nI q) c d (nX μ p q) μ tb 2 12 := by
  intro lay r hr2
  have h1 := isP_n h.I hp
  have h2 := isP_n h.I hq
  have e38 : (M_next μ (nI p) (nI q)).2.1 38 0 = 0 := (next_m (Z := Z) (lay := lay) (tb := tb) (r := r) h1.1 h2.1).1
  refine call_of (dd_next l hl0 Z B0 lay μ tb r (nI p) (nI q) c d h.I h.S) (fun _ => ⟨(next_1 h1.1 h2.1).symm, fun lay' => (next_m (Z := Z) (lay := lay') (tb := tb) (r := r) h1.1 h2.1).2.symm⟩) ?_
  rintro E ⟨rfl, h9⟩
  exact absurd (e38.symm.trans h9) (by decide)
theorem claimS_38 (μ : Mu) (t : Nat) : (M_claimS μ t).2.1 38 0 = μ.1 38 0 := by
  unfold M_claimS
  dsimp only
  split
  · rw [M_paysFor_1]; exact congrFun (up2_ne μ.1 29 t 1 38 (by decide)) 0
  · rw [M_paysFor_1, M_paysFor_1]; exact congrFun (up2_ne μ.1 29 t 1 38 (by decide)) 0
