/-! what the Statement gives of the start -/
theorem law_z {p : Program} {s : State} {m : MethodId} {meth : Method} {c : Code} {b L : Nat} {xs : Nat → Int32} (C0 : lw_At p s m meth c b L xs) : ∃ Z : xZ, xKn Z s := by
  obtain ⟨hx, hb, hr, hml, hown, hts, hX, hbl, hlocks, hgv⟩ := C0
  have hBG : ∀ w ∈ BG, w.before #[Value.ref b] s = true := fun w hw => hts w (List.mem_filter.mp hw).1
  obtain ⟨c0, i0, k0⟩ := u_known (C := RX0) (T := TX0) (N := 4) (n := 4) hBG hinX0 (hBG _ (xw_at tW_8 25 rfl))
  obtain ⟨c1, i1, k1⟩ := u_known (C := RX1) (T := TX1) (N := 10) (n := 10) hBG hinX1 (hBG _ (xw_at tW_6 37 rfl))
  obtain ⟨c2, i2, k2⟩ := u_known (C := RX2) (T := TX2) (N := 5) (n := 5) hBG hinX2 (hBG _ (xw_at tW_1 1 rfl))
  obtain ⟨c3, i3, k3⟩ := u_known (C := RX3) (T := TX3) (N := 15) (n := 15) hBG hinX3 (hBG _ (xw_at tW_10 16 rfl))
  obtain ⟨c4, i4, k4⟩ := u_known (C := RX4) (T := TX4) (N := 6) (n := 6) hBG hinX4 (hBG _ (xw_at tW_0 31 rfl))
  obtain ⟨t_int, q_int, m_int, h_int1, h_int2, h_int3⟩ := Cond.arrayClass_spec (hts (Cond.arrayClass .int) (List.mem_of_getElem? (i := 107) (by decide +kernel)))
  obtain ⟨t_long, q_long, m_long, h_long1, h_long2, h_long3⟩ := Cond.arrayClass_spec (hts (Cond.arrayClass .long) (List.mem_of_getElem? (i := 388) (by decide +kernel)))
  obtain ⟨m_Post, t_Post, q_Post, h_Post1, h_Post2, h_Post3, h_Post4, h_Post5⟩ := Cond.arrayOver_spec (hts (Cond.arrayOver (.object "Postunion$Post")) (List.mem_of_getElem? (i := 39) (by decide +kernel)))
  obtain ⟨m_Thing, t_Thing, q_Thing, h_Thing1, h_Thing2, h_Thing3, h_Thing4, h_Thing5⟩ := Cond.arrayOver_spec (hts (Cond.arrayOver (.object "Postunion$Thing")) (List.mem_of_getElem? (i := 41) (by decide +kernel)))
  obtain ⟨m_Leg, t_Leg, q_Leg, h_Leg1, h_Leg2, h_Leg3, h_Leg4, h_Leg5⟩ := Cond.arrayOver_spec (hts (Cond.arrayOver (.object "Postunion$Leg")) (List.mem_of_getElem? (i := 49) (by decide +kernel)))
  refine ⟨((fun k => match k with | 0 => c0 | 1 => c1 | 2 => c2 | 3 => c3 | _ => c4, fun k => match k with | 0 => i0 | 1 => i1 | 2 => i2 | 3 => i3 | _ => i4), fun k => match k with | 0 => t_int | 1 => t_long | 2 => t_int | 3 => t_Post | 4 => t_Thing | _ => t_Leg), ⟨fun k q hq => ?_, fun k q hq => ?_⟩, ?_⟩
  · match k, hq with
    | 0, hq => cases hq; exact k0
    | 1, hq => cases hq; exact k1
    | 2, hq => cases hq; exact k2
    | 3, hq => cases hq; exact k3
    | 4, hq => cases hq; exact k4
    | k + 5, hq => simp at hq
  · match k, hq with
    | 0, hq => cases hq; exact ⟨fun N z => ⟨(fun k h => by cases h), q_int, h_int2, m_int, h_int3⟩, h_int1⟩
    | 1, hq => cases hq; exact ⟨fun N z => ⟨(fun k h => by cases h), q_long, h_long2, m_long, h_long3⟩, h_long1⟩
    | 2, hq => cases hq; exact ⟨fun N z => ⟨(fun k h => by cases h), q_int, h_int2, m_int, h_int3⟩, h_int1⟩
    | 3, hq => cases hq; exact ⟨fun N z => ⟨(fun k h => by cases h), q_Post, h_Post3, m_Post, h_Post4⟩, q_Post, m_Post, h_Post3, h_Post4, h_Post1, h_Post5⟩
    | 4, hq => cases hq; exact ⟨fun N z => ⟨(fun k h => by cases h), q_Thing, h_Thing3, m_Thing, h_Thing4⟩, q_Thing, m_Thing, h_Thing3, h_Thing4, h_Thing1, h_Thing5⟩
    | 5, hq => cases hq; exact ⟨fun N z => ⟨(fun k h => by cases h), q_Leg, h_Leg3, m_Leg, h_Leg4⟩, q_Leg, m_Leg, h_Leg3, h_Leg4, h_Leg1, h_Leg5⟩
    | k + 6, hq => simp [xTy] at hq
  · exact va_Nw.of rfl (hts xNest (List.mem_of_getElem? (i := 278) (by decide +kernel)))
theorem law_ao {p : Program} {s : State} {m : MethodId} {meth : Method} {c : Code} {b L : Nat} {xs : Nat → Int32} (C0 : lw_At p s m meth c b L xs) : xAO s := by
  obtain ⟨hx, hb, hr, hml, hown, hts, hX, hbl, hlocks, hgv⟩ := C0
  exact ⟨va_AO.of (hts (Cond.arrayOver (.object "Postunion$Post")) (List.mem_of_getElem? (i := 39) (by decide +kernel))), va_AO.of (hts (Cond.arrayOver (.object "Postunion$Thing")) (List.mem_of_getElem? (i := 41) (by decide +kernel))), va_AO.of (hts (Cond.arrayOver (.object "Postunion$Leg")) (List.mem_of_getElem? (i := 49) (by decide +kernel)))⟩
theorem law_nc {p : Program} {s : State} {m : MethodId} {meth : Method} {c : Code} {b L : Nat} {xs : Nat → Int32} (C0 : lw_At p s m meth c b L xs) : xNc s := by
  have hs := flat_of_before _ C0.2.2.2.2.2.2.2.2.2
  exact ⟨va_Nc.of (hs _ (by decide +kernel)), va_Nc.of (hs _ (by decide +kernel)), va_Nc.of (hs _ (by decide +kernel))⟩
theorem law_ex {p : Program} {s : State} {m : MethodId} {meth : Method} {c : Code} {b L : Nat} {xs : Nat → Int32} (C0 : lw_At p s m meth c b L xs) : xEx s.heap.size s := by
  have hs := flat_of_before _ C0.2.2.2.2.2.2.2.2.2
  obtain ⟨hx, hb, hr, hml, hown, hts, hX, hbl, hlocks, hgv⟩ := C0
  refine ⟨fun w hw => ?_, ⟨?_, ?_⟩, fun q hq => ?_⟩
  · simp only [XD, List.mem_cons, List.not_mem_nil, or_false] at hw
    rcases hw with rfl | rfl | rfl | rfl | rfl | rfl
    · exact va_Nw.of rfl (hts _ (List.mem_of_getElem? (i := 152) (by decide +kernel)))
    · exact va_Nw.of rfl (hts _ (List.mem_of_getElem? (i := 154) (by decide +kernel)))
    · exact va_Nw.of rfl (hts _ (List.mem_of_getElem? (i := 156) (by decide +kernel)))
    · exact va_Nw.of rfl (hts _ (List.mem_of_getElem? (i := 150) (by decide +kernel)))
    · exact va_Nw.of rfl (hts _ (List.mem_of_getElem? (i := 257) (by decide +kernel)))
    · exact va_Nw.of rfl (hts _ (List.mem_of_getElem? (i := 324) (by decide +kernel)))
  · exact vx_Zqof (hts (Cond.laysStatic Bundle.tN "UNASSIGNED_STACK" Bundle.steD) (List.mem_of_getElem? (i := 175) (by decide +kernel))) (hts (Cond.initialized Bundle.tN) (List.mem_of_getElem? (i := 21) (by decide +kernel))) (hs _ (by decide +kernel)) (fun a ha => Nat.not_le.mpr ha)
  · exact vx_Zqof (hts (Cond.laysStatic Bundle.tN "SUPPRESSED_SENTINEL" Bundle.listD) (List.mem_of_getElem? (i := 177) (by decide +kernel))) (hts (Cond.initialized Bundle.tN) (List.mem_of_getElem? (i := 21) (by decide +kernel))) (hs _ (by decide +kernel)) (fun a ha => Nat.not_le.mpr ha)
  · simp only [XT, List.mem_cons, List.not_mem_nil, or_false] at hq
    rcases hq with rfl | rfl | rfl | rfl | rfl | rfl | rfl | rfl | rfl | rfl | rfl | rfl | rfl | rfl | rfl
    · obtain ⟨a, -, -, -, e1, -⟩ := Cond.exactly_spec (hs (Cond.exactly (.string "Postunion" 41) "java/lang/String") (by decide +kernel)); exact ⟨a, vk_R.of (hts (Cond.stringRef "Postunion" 41 "there are 8 posts") (List.mem_of_getElem? (i := 331) (by decide +kernel))) e1⟩
    · obtain ⟨a, -, -, -, e1, -⟩ := Cond.exactly_spec (hs (Cond.exactly (.string "Postunion" 243) "java/lang/String") (by decide +kernel)); exact ⟨a, vk_R.of (hts (Cond.stringRef "Postunion" 243 "no such post") (List.mem_of_getElem? (i := 189) (by decide +kernel))) e1⟩
    · obtain ⟨a, -, -, -, e1, -⟩ := Cond.exactly_spec (hs (Cond.exactly (.string "Postunion" 247) "java/lang/String") (by decide +kernel)); exact ⟨a, vk_R.of (hts (Cond.stringRef "Postunion" 247 "out of range") (List.mem_of_getElem? (i := 264) (by decide +kernel))) e1⟩
    · obtain ⟨a, -, -, -, e1, -⟩ := Cond.exactly_spec (hs (Cond.exactly (.string "Postunion" 81) "java/lang/String") (by decide +kernel)); exact ⟨a, vk_R.of (hts (Cond.stringRef "Postunion" 81 "a leg from a post to itself") (List.mem_of_getElem? (i := 413) (by decide +kernel))) e1⟩
    · obtain ⟨a, -, -, -, e1, -⟩ := Cond.exactly_spec (hs (Cond.exactly (.string "Postunion" 88) "java/lang/String") (by decide +kernel)); exact ⟨a, vk_R.of (hts (Cond.stringRef "Postunion" 88 "there are 20 legs") (List.mem_of_getElem? (i := 443) (by decide +kernel))) e1⟩
    · obtain ⟨a, -, -, -, e1, -⟩ := Cond.exactly_spec (hs (Cond.exactly (.string "Postunion" 96) "java/lang/String") (by decide +kernel)); exact ⟨a, vk_R.of (hts (Cond.stringRef "Postunion" 96 "no such leg") (List.mem_of_getElem? (i := 452) (by decide +kernel))) e1⟩
    · obtain ⟨a, -, -, -, e1, -⟩ := Cond.exactly_spec (hs (Cond.exactly (.string "Postunion" 118) "java/lang/String") (by decide +kernel)); exact ⟨a, vk_R.of (hts (Cond.stringRef "Postunion" 118 "a thing from a post to itself") (List.mem_of_getElem? (i := 591) (by decide +kernel))) e1⟩
    · obtain ⟨a, -, -, -, e1, -⟩ := Cond.exactly_spec (hs (Cond.exactly (.string "Postunion" 120) "java/lang/String") (by decide +kernel)); exact ⟨a, vk_R.of (hts (Cond.stringRef "Postunion" 120 "there are 40 things") (List.mem_of_getElem? (i := 592) (by decide +kernel))) e1⟩
    · obtain ⟨a, -, -, -, e1, -⟩ := Cond.exactly_spec (hs (Cond.exactly (.string "Postunion" 245) "java/lang/String") (by decide +kernel)); exact ⟨a, vk_R.of (hts (Cond.stringRef "Postunion" 245 "no such thing") (List.mem_of_getElem? (i := 289) (by decide +kernel))) e1⟩
    · obtain ⟨a, -, -, -, e1, -⟩ := Cond.exactly_spec (hs (Cond.exactly (.string "Postunion" 150) "java/lang/String") (by decide +kernel)); exact ⟨a, vk_R.of (hts (Cond.stringRef "Postunion" 150 "the thing waits at that post") (List.mem_of_getElem? (i := 472) (by decide +kernel))) e1⟩
    · obtain ⟨a, -, -, -, e1, -⟩ := Cond.exactly_spec (hs (Cond.exactly (.string "Postunion" 249) "java/lang/String") (by decide +kernel)); exact ⟨a, vk_R.of (hts (Cond.stringRef "Postunion" 249 "the thing is not under way, or goes back") (List.mem_of_getElem? (i := 480) (by decide +kernel))) e1⟩
    · obtain ⟨a, -, -, -, e1, -⟩ := Cond.exactly_spec (hs (Cond.exactly (.string "Postunion" 176) "java/lang/String") (by decide +kernel)); exact ⟨a, vk_R.of (hts (Cond.stringRef "Postunion" 176 "the thing neither waits nor travels") (List.mem_of_getElem? (i := 550) (by decide +kernel))) e1⟩
    · obtain ⟨a, -, -, -, e1, -⟩ := Cond.exactly_spec (hs (Cond.exactly (.string "Postunion" 190) "java/lang/String") (by decide +kernel)); exact ⟨a, vk_R.of (hts (Cond.stringRef "Postunion" 190 "nothing can be claimed for the thing") (List.mem_of_getElem? (i := 559) (by decide +kernel))) e1⟩
    · obtain ⟨a, -, -, -, e1, -⟩ := Cond.exactly_spec (hs (Cond.exactly (.string "Postunion" 226) "java/lang/String") (by decide +kernel)); exact ⟨a, vk_R.of (hts (Cond.stringRef "Postunion" 226 "what is out of range") (List.mem_of_getElem? (i := 295) (by decide +kernel))) e1⟩
    · obtain ⟨a, -, -, -, e1, -⟩ := Cond.exactly_spec (hs (Cond.exactly (.string "Postunion" 228) "java/lang/String") (by decide +kernel)); exact ⟨a, vk_R.of (hts (Cond.stringRef "Postunion" 228 "the thing has not so many hands") (List.mem_of_getElem? (i := 572) (by decide +kernel))) e1⟩
