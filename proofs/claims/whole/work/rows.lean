section
-- ===== PART A: goes FIRST, ahead of the names: the tables' words, and 'selects' of the private methods out of them =====
/-- a private method of a class that the tables say can be made, by its rows of tables_1 -/
def lw_okq (q : MethodName × Nat) : Prop := (q.1.cls ≠ "java/lang/invoke/MethodHandle" ∧ q.1.cls ≠ "java/lang/invoke/VarHandle") ∧ Cond.instantiable q.1.cls q.2 ∈ tables_1 ∧ Cond.privateMethod q.1 ∈ tables_1 ∧ Cond.instanceMethod q.1 ∈ tables_1
theorem lw_p0 : lw_okq (⟨"Postunion$Routes", "reckon", "()V"⟩, 5) := ⟨⟨by decide +kernel, by decide +kernel⟩, List.mem_of_getElem? (i := 29) (by decide +kernel), List.mem_of_getElem? (i := 37) (by decide +kernel), List.mem_of_getElem? (i := 38) (by decide +kernel)⟩
theorem lw_p1 : lw_okq (⟨"Postunion$Routes", "reckonDirect", "()V"⟩, 5) := ⟨⟨by decide +kernel, by decide +kernel⟩, List.mem_of_getElem? (i := 29) (by decide +kernel), List.mem_of_getElem? (i := 41) (by decide +kernel), List.mem_of_getElem? (i := 42) (by decide +kernel)⟩
theorem lw_p2 : lw_okq (⟨"Postunion$Routes", "shorten", "(III)V"⟩, 5) := ⟨⟨by decide +kernel, by decide +kernel⟩, List.mem_of_getElem? (i := 29) (by decide +kernel), List.mem_of_getElem? (i := 49) (by decide +kernel), List.mem_of_getElem? (i := 50) (by decide +kernel)⟩
theorem lw_p3 : lw_okq (⟨"Postunion$Routes", "reckonLeast", "()V"⟩, 5) := ⟨⟨by decide +kernel, by decide +kernel⟩, List.mem_of_getElem? (i := 29) (by decide +kernel), List.mem_of_getElem? (i := 59) (by decide +kernel), List.mem_of_getElem? (i := 60) (by decide +kernel)⟩
theorem lw_p4 : lw_okq (⟨"Postunion$Routes", "reckonOnward", "()V"⟩, 5) := ⟨⟨by decide +kernel, by decide +kernel⟩, List.mem_of_getElem? (i := 29) (by decide +kernel), List.mem_of_getElem? (i := 66) (by decide +kernel), List.mem_of_getElem? (i := 67) (by decide +kernel)⟩
theorem lw_p5 : lw_okq (⟨"Postunion$Routes", "firstLegOf", "(II)I"⟩, 5) := ⟨⟨by decide +kernel, by decide +kernel⟩, List.mem_of_getElem? (i := 29) (by decide +kernel), List.mem_of_getElem? (i := 70) (by decide +kernel), List.mem_of_getElem? (i := 71) (by decide +kernel)⟩
theorem lw_p6 : lw_okq (⟨"java/lang/Throwable", "fillInStackTrace", "(I)Ljava/lang/Throwable;"⟩, 6) := ⟨⟨by decide +kernel, by decide +kernel⟩, List.mem_of_getElem? (i := 164) (by decide +kernel), List.mem_of_getElem? (i := 162) (by decide +kernel), List.mem_of_getElem? (i := 163) (by decide +kernel)⟩
theorem lw_p7 : lw_okq (⟨"Postunion", "postOf", "(I)LPostunion$Post;"⟩, 6) := ⟨⟨by decide +kernel, by decide +kernel⟩, List.mem_of_getElem? (i := 17) (by decide +kernel), List.mem_of_getElem? (i := 254) (by decide +kernel), List.mem_of_getElem? (i := 255) (by decide +kernel)⟩
theorem lw_p8 : lw_okq (⟨"Postunion$Thing", "sign", "()V"⟩, 15) := ⟨⟨by decide +kernel, by decide +kernel⟩, List.mem_of_getElem? (i := 439) (by decide +kernel), List.mem_of_getElem? (i := 445) (by decide +kernel), List.mem_of_getElem? (i := 446) (by decide +kernel)⟩
theorem lw_p9 : lw_okq (⟨"Postunion", "thingOf", "(I)LPostunion$Thing;"⟩, 6) := ⟨⟨by decide +kernel, by decide +kernel⟩, List.mem_of_getElem? (i := 17) (by decide +kernel), List.mem_of_getElem? (i := 529) (by decide +kernel), List.mem_of_getElem? (i := 530) (by decide +kernel)⟩
theorem lw_p10 : lw_okq (⟨"Postunion", "moveThoseThatTravel", "()I"⟩, 6) := ⟨⟨by decide +kernel, by decide +kernel⟩, List.mem_of_getElem? (i := 17) (by decide +kernel), List.mem_of_getElem? (i := 557) (by decide +kernel), List.mem_of_getElem? (i := 558) (by decide +kernel)⟩
theorem lw_p11 : lw_okq (⟨"Postunion", "endAtTarget", "(LPostunion$Thing;)V"⟩, 6) := ⟨⟨by decide +kernel, by decide +kernel⟩, List.mem_of_getElem? (i := 17) (by decide +kernel), List.mem_of_getElem? (i := 565) (by decide +kernel), List.mem_of_getElem? (i := 566) (by decide +kernel)⟩
theorem lw_p12 : lw_okq (⟨"Postunion", "oweDue", "(LPostunion$Thing;)V"⟩, 6) := ⟨⟨by decide +kernel, by decide +kernel⟩, List.mem_of_getElem? (i := 17) (by decide +kernel), List.mem_of_getElem? (i := 574) (by decide +kernel), List.mem_of_getElem? (i := 575) (by decide +kernel)⟩
theorem lw_p13 : lw_okq (⟨"Postunion", "sendThoseThatWait", "()V"⟩, 6) := ⟨⟨by decide +kernel, by decide +kernel⟩, List.mem_of_getElem? (i := 17) (by decide +kernel), List.mem_of_getElem? (i := 581) (by decide +kernel), List.mem_of_getElem? (i := 582) (by decide +kernel)⟩
theorem lw_p14 : lw_okq (⟨"Postunion", "sendOn", "(LPostunion$Thing;)V"⟩, 6) := ⟨⟨by decide +kernel, by decide +kernel⟩, List.mem_of_getElem? (i := 17) (by decide +kernel), List.mem_of_getElem? (i := 585) (by decide +kernel), List.mem_of_getElem? (i := 586) (by decide +kernel)⟩
theorem lw_p15 : lw_okq (⟨"PostunionModel", "asks", "(Z)Z"⟩, 39) := ⟨⟨by decide +kernel, by decide +kernel⟩, List.mem_of_getElem? (i := 689) (by decide +kernel), List.mem_of_getElem? (i := 823) (by decide +kernel), List.mem_of_getElem? (i := 824) (by decide +kernel)⟩
def lw_privs_1 : List (MethodName × Nat) := [(⟨"Postunion$Routes", "reckon", "()V"⟩, 5), (⟨"Postunion$Routes", "reckonDirect", "()V"⟩, 5), (⟨"Postunion$Routes", "shorten", "(III)V"⟩, 5), (⟨"Postunion$Routes", "reckonLeast", "()V"⟩, 5), (⟨"Postunion$Routes", "reckonOnward", "()V"⟩, 5), (⟨"Postunion$Routes", "firstLegOf", "(II)I"⟩, 5), (⟨"java/lang/Throwable", "fillInStackTrace", "(I)Ljava/lang/Throwable;"⟩, 6), (⟨"Postunion", "postOf", "(I)LPostunion$Post;"⟩, 6), (⟨"Postunion$Thing", "sign", "()V"⟩, 15), (⟨"Postunion", "thingOf", "(I)LPostunion$Thing;"⟩, 6), (⟨"Postunion", "moveThoseThatTravel", "()I"⟩, 6), (⟨"Postunion", "endAtTarget", "(LPostunion$Thing;)V"⟩, 6), (⟨"Postunion", "oweDue", "(LPostunion$Thing;)V"⟩, 6), (⟨"Postunion", "sendThoseThatWait", "()V"⟩, 6), (⟨"Postunion", "sendOn", "(LPostunion$Thing;)V"⟩, 6), (⟨"PostunionModel", "asks", "(Z)Z"⟩, 39)]
theorem lw_r1 : ∀ q ∈ lw_privs_1, lw_okq q := List.forall_mem_cons.mpr ⟨lw_p0, List.forall_mem_cons.mpr ⟨lw_p1, List.forall_mem_cons.mpr ⟨lw_p2, List.forall_mem_cons.mpr ⟨lw_p3, List.forall_mem_cons.mpr ⟨lw_p4, List.forall_mem_cons.mpr ⟨lw_p5, List.forall_mem_cons.mpr ⟨lw_p6, List.forall_mem_cons.mpr ⟨lw_p7, List.forall_mem_cons.mpr ⟨lw_p8, List.forall_mem_cons.mpr ⟨lw_p9, List.forall_mem_cons.mpr ⟨lw_p10, List.forall_mem_cons.mpr ⟨lw_p11, List.forall_mem_cons.mpr ⟨lw_p12, List.forall_mem_cons.mpr ⟨lw_p13, List.forall_mem_cons.mpr ⟨lw_p14, List.forall_mem_cons.mpr ⟨lw_p15, fun _ h => absurd h List.not_mem_nil⟩⟩⟩⟩⟩⟩⟩⟩⟩⟩⟩⟩⟩⟩⟩⟩
theorem lw_p16 : lw_okq (⟨"PostunionModel", "isPost", "(I)Z"⟩, 39) := ⟨⟨by decide +kernel, by decide +kernel⟩, List.mem_of_getElem? (i := 689) (by decide +kernel), List.mem_of_getElem? (i := 831) (by decide +kernel), List.mem_of_getElem? (i := 832) (by decide +kernel)⟩
theorem lw_p17 : lw_okq (⟨"PostunionModel", "fails", "(I)I"⟩, 39) := ⟨⟨by decide +kernel, by decide +kernel⟩, List.mem_of_getElem? (i := 689) (by decide +kernel), List.mem_of_getElem? (i := 845) (by decide +kernel), List.mem_of_getElem? (i := 846) (by decide +kernel)⟩
theorem lw_p18 : lw_okq (⟨"PostunionModel", "daysTold", "(II)I"⟩, 39) := ⟨⟨by decide +kernel, by decide +kernel⟩, List.mem_of_getElem? (i := 689) (by decide +kernel), List.mem_of_getElem? (i := 873) (by decide +kernel), List.mem_of_getElem? (i := 874) (by decide +kernel)⟩
theorem lw_p19 : lw_okq (⟨"PostunionModel", "measures", "(I)V"⟩, 39) := ⟨⟨by decide +kernel, by decide +kernel⟩, List.mem_of_getElem? (i := 689) (by decide +kernel), List.mem_of_getElem? (i := 877) (by decide +kernel), List.mem_of_getElem? (i := 878) (by decide +kernel)⟩
theorem lw_p20 : lw_okq (⟨"PostunionModel", "nextOf", "(II)I"⟩, 39) := ⟨⟨by decide +kernel, by decide +kernel⟩, List.mem_of_getElem? (i := 689) (by decide +kernel), List.mem_of_getElem? (i := 890) (by decide +kernel), List.mem_of_getElem? (i := 891) (by decide +kernel)⟩
theorem lw_p21 : lw_okq (⟨"PostunionModel", "ends", "(II)Z"⟩, 39) := ⟨⟨by decide +kernel, by decide +kernel⟩, List.mem_of_getElem? (i := 689) (by decide +kernel), List.mem_of_getElem? (i := 894) (by decide +kernel), List.mem_of_getElem? (i := 895) (by decide +kernel)⟩
theorem lw_p22 : lw_okq (⟨"PostunionModel", "across", "(II)I"⟩, 39) := ⟨⟨by decide +kernel, by decide +kernel⟩, List.mem_of_getElem? (i := 689) (by decide +kernel), List.mem_of_getElem? (i := 898) (by decide +kernel), List.mem_of_getElem? (i := 899) (by decide +kernel)⟩
theorem lw_p23 : lw_okq (⟨"PostunionModel", "rateOf", "(IIIZ)I"⟩, 39) := ⟨⟨by decide +kernel, by decide +kernel⟩, List.mem_of_getElem? (i := 689) (by decide +kernel), List.mem_of_getElem? (i := 910) (by decide +kernel), List.mem_of_getElem? (i := 911) (by decide +kernel)⟩
theorem lw_p24 : lw_okq (⟨"PostunionModel", "signs", "(II)V"⟩, 39) := ⟨⟨by decide +kernel, by decide +kernel⟩, List.mem_of_getElem? (i := 689) (by decide +kernel), List.mem_of_getElem? (i := 914) (by decide +kernel), List.mem_of_getElem? (i := 915) (by decide +kernel)⟩
theorem lw_p25 : lw_okq (⟨"PostunionModel", "isThing", "(I)Z"⟩, 39) := ⟨⟨by decide +kernel, by decide +kernel⟩, List.mem_of_getElem? (i := 689) (by decide +kernel), List.mem_of_getElem? (i := 922) (by decide +kernel), List.mem_of_getElem? (i := 923) (by decide +kernel)⟩
theorem lw_p26 : lw_okq (⟨"PostunionModel", "isUnderWay", "(I)Z"⟩, 39) := ⟨⟨by decide +kernel, by decide +kernel⟩, List.mem_of_getElem? (i := 689) (by decide +kernel), List.mem_of_getElem? (i := 926) (by decide +kernel), List.mem_of_getElem? (i := 927) (by decide +kernel)⟩
theorem lw_p27 : lw_okq (⟨"PostunionModel", "travels", "(I)I"⟩, 39) := ⟨⟨by decide +kernel, by decide +kernel⟩, List.mem_of_getElem? (i := 689) (by decide +kernel), List.mem_of_getElem? (i := 938) (by decide +kernel), List.mem_of_getElem? (i := 939) (by decide +kernel)⟩
theorem lw_p28 : lw_okq (⟨"PostunionModel", "comes", "(I)I"⟩, 39) := ⟨⟨by decide +kernel, by decide +kernel⟩, List.mem_of_getElem? (i := 689) (by decide +kernel), List.mem_of_getElem? (i := 942) (by decide +kernel), List.mem_of_getElem? (i := 943) (by decide +kernel)⟩
theorem lw_p29 : lw_okq (⟨"PostunionModel", "taxOf", "(I)J"⟩, 39) := ⟨⟨by decide +kernel, by decide +kernel⟩, List.mem_of_getElem? (i := 689) (by decide +kernel), List.mem_of_getElem? (i := 946) (by decide +kernel), List.mem_of_getElem? (i := 947) (by decide +kernel)⟩
theorem lw_p30 : lw_okq (⟨"PostunionModel", "pays", "(IIJ)V"⟩, 39) := ⟨⟨by decide +kernel, by decide +kernel⟩, List.mem_of_getElem? (i := 689) (by decide +kernel), List.mem_of_getElem? (i := 951) (by decide +kernel), List.mem_of_getElem? (i := 952) (by decide +kernel)⟩
theorem lw_p31 : lw_okq (⟨"PostunionModel", "leaves", "(I)V"⟩, 39) := ⟨⟨by decide +kernel, by decide +kernel⟩, List.mem_of_getElem? (i := 689) (by decide +kernel), List.mem_of_getElem? (i := 955) (by decide +kernel), List.mem_of_getElem? (i := 956) (by decide +kernel)⟩
def lw_privs_2 : List (MethodName × Nat) := [(⟨"PostunionModel", "isPost", "(I)Z"⟩, 39), (⟨"PostunionModel", "fails", "(I)I"⟩, 39), (⟨"PostunionModel", "daysTold", "(II)I"⟩, 39), (⟨"PostunionModel", "measures", "(I)V"⟩, 39), (⟨"PostunionModel", "nextOf", "(II)I"⟩, 39), (⟨"PostunionModel", "ends", "(II)Z"⟩, 39), (⟨"PostunionModel", "across", "(II)I"⟩, 39), (⟨"PostunionModel", "rateOf", "(IIIZ)I"⟩, 39), (⟨"PostunionModel", "signs", "(II)V"⟩, 39), (⟨"PostunionModel", "isThing", "(I)Z"⟩, 39), (⟨"PostunionModel", "isUnderWay", "(I)Z"⟩, 39), (⟨"PostunionModel", "travels", "(I)I"⟩, 39), (⟨"PostunionModel", "comes", "(I)I"⟩, 39), (⟨"PostunionModel", "taxOf", "(I)J"⟩, 39), (⟨"PostunionModel", "pays", "(IIJ)V"⟩, 39), (⟨"PostunionModel", "leaves", "(I)V"⟩, 39)]
theorem lw_r2 : ∀ q ∈ lw_privs_2, lw_okq q := List.forall_mem_cons.mpr ⟨lw_p16, List.forall_mem_cons.mpr ⟨lw_p17, List.forall_mem_cons.mpr ⟨lw_p18, List.forall_mem_cons.mpr ⟨lw_p19, List.forall_mem_cons.mpr ⟨lw_p20, List.forall_mem_cons.mpr ⟨lw_p21, List.forall_mem_cons.mpr ⟨lw_p22, List.forall_mem_cons.mpr ⟨lw_p23, List.forall_mem_cons.mpr ⟨lw_p24, List.forall_mem_cons.mpr ⟨lw_p25, List.forall_mem_cons.mpr ⟨lw_p26, List.forall_mem_cons.mpr ⟨lw_p27, List.forall_mem_cons.mpr ⟨lw_p28, List.forall_mem_cons.mpr ⟨lw_p29, List.forall_mem_cons.mpr ⟨lw_p30, List.forall_mem_cons.mpr ⟨lw_p31, fun _ h => absurd h List.not_mem_nil⟩⟩⟩⟩⟩⟩⟩⟩⟩⟩⟩⟩⟩⟩⟩⟩
theorem lw_p32 : lw_okq (⟨"PostunionModel", "paysFor", "(III)I"⟩, 39) := ⟨⟨by decide +kernel, by decide +kernel⟩, List.mem_of_getElem? (i := 689) (by decide +kernel), List.mem_of_getElem? (i := 968) (by decide +kernel), List.mem_of_getElem? (i := 969) (by decide +kernel)⟩
def lw_privs_3 : List (MethodName × Nat) := [(⟨"PostunionModel", "paysFor", "(III)I"⟩, 39)]
theorem lw_r3 : ∀ q ∈ lw_privs_3, lw_okq q := List.forall_mem_cons.mpr ⟨lw_p32, fun _ h => absurd h List.not_mem_nil⟩
def lw_privs : List (MethodName × Nat) := lw_privs_1 ++ (lw_privs_2 ++ (lw_privs_3))
def lw_tbl : List Cond := k2_sels lw_privs ++ tables_1
theorem lw_privs_ok : ∀ q ∈ lw_privs, lw_okq q := by
  show ∀ q ∈ lw_privs_1 ++ (lw_privs_2 ++ (lw_privs_3)), lw_okq q
  exact List.forall_mem_append.mpr ⟨lw_r1, List.forall_mem_append.mpr ⟨lw_r2, lw_r3⟩⟩
end
section
/-! ===== BEGIN words of one list among another's, by their places ===== -/
theorem goodIn_r {big : List Cond} (ws : List Cond) (ps : List Nat) (hp : ws = ps.filterMap (fun i => big[i]?)) (h : ws.all goodWord = true) : GoodIn big ws := by
  intro w hw
  have h1 := List.all_eq_true.mp h w hw
  rw [hp] at hw
  obtain ⟨i, -, hi⟩ := List.mem_filterMap.mp hw
  have hm : w ∈ big := by first | exact List.mem_of_getElem? hi | exact List.getElem?_mem hi
  exact ⟨hm, good_of_word h1⟩
theorem goodIn_app {big a b : List Cond} (ha : GoodIn big a) (hb : GoodIn big b) : GoodIn big (a ++ b) := fun w h => (List.mem_append.mp h).elim (ha w) (hb w)
theorem goodIn_ca {big a b : List Cond} {c : Cond} (ha : GoodIn big (c :: a)) (hb : GoodIn big b) : GoodIn big (c :: (a ++ b)) := fun w h => (List.mem_cons.mp h).elim (fun e => ha w (List.mem_cons.mpr (Or.inl e))) (fun h => (List.mem_append.mp h).elim (fun h => ha w (List.mem_cons.mpr (Or.inr h))) (hb w))
theorem goodIn_sub {big ws : List Cond} (hm : ∀ w ∈ ws, w ∈ big) (h : ws.all goodWord = true) : GoodIn big ws := fun w hw => ⟨hm w hw, good_of_word (List.all_eq_true.mp h w hw)⟩
/-! ===== END ===== -/

/-! ===== BEGIN exceptions that leave a method, and their catching by the caller (launches without stack traces) ===== -/
section VXA
/-! The laws vx_back, vx_callV, vx_callS, vx_callSW, vx_throw0, vx_throwS follow proofs of the library, with one case more: JvmDerived/Free/Laws.lean (Back.of_free), Shelf42/LK1.lean (callV, callS), Shelf/KitTraced.lean (throwNew0V, throwNewS). -/
/-- where a method has thrown q: the class by its name, the cell, what was written, the world -/
def vx_T (XC : String → State → State → Prop) (st : State) (q : Addr) (t : State) (mc ms : Nat) (free : Addr → Prop) : Prop :=
  ∃ (E : String) (ce : Cell) (L : List Loc), XC E st t ∧ t.heap[q]? = some ce ∧ ce.vm = .none ∧ st.vm.findClass E = some ce.cls ∧ st.WarmedH t.vm ∧ st.sameButNew ({ t with vm := st.vm } : State) L mc ms ∧ ∀ z ∈ L, free z.base
def vx_Q (Qc : Array Value → State → Outcome → State → Prop) (XC : String → State → State → Prop) (mc ms : Nat) (free : Addr → Prop) : Array Value → State → Outcome → State → Prop := fun a st o t =>
  (Qc a st o t ∧ ∃ L, FrameEnd st o t L mc ms ∧ ∀ q ∈ L, free q.base) ∨ ∃ q, o = .threw q ∧ vx_T XC st q t mc ms free
/-- a callee that returns or throws -/
def vx_Met (l : Launch) (y : MethodName) (ws : List Cond) (rm : Room) (Pc : Array Value → State → Prop) (Qc : Array Value → State → Outcome → State → Prop) (XC : String → State → State → Prop) (mc ms : Nat) (free : Addr → Prop) : Prop :=
  MetFree l y (headSpec ws rm) Pc (fun _ _ _ _ _ => True) (vx_Q Qc XC mc ms free)
def vx_Post (XC : String → State → State → Prop) (mc ms : Nat) (free : Addr → Prop) : Pt → Array Value → Addr → Pt → Prop := fun A a q B =>
  ∃ (g : JFrame) (mk : MethodId) (t : State) (L : List Loc) (E : String) (ce : Cell), B.U.heap = t.heap ∧ B.U.vm = t.vm ∧ XC E (A.U.calling g mk a) t ∧ t.heap[q]? = some ce ∧ ce.vm = .none ∧ A.U.vm.findClass E = some ce.cls ∧ B.locs = A.locs ++ L ∧ (∀ z ∈ L, free z.base) ∧ B.cells = A.cells + mc ∧ B.slots = A.slots + ms
def vx_Back (l : Launch) (R : Room) (p : Program) (e : Env) (below : List Frame) (s : State) (sargs : Array Value) (y : MethodName) (len W9 : Nat)
    (Pre : Pt → Array Value → Prop) (Post : Pt → Array Value → Option Value → Pt → Prop) (PostX : Pt → Array Value → Addr → Pt → Prop) : Prop :=
  ∀ (m : MethodId) (meth : Method) (c : Code) (A : Pt) (g : JFrame) (ig : Instr) (mk : MethodId) (a : Array Value),
    Stand p l e R s m sargs below meth c A.U A.locs A.cells A.slots → g.method = m → g.locals.size = c.maxLocals → decode c.code g.pc = .ok (ig, len) →
    2 * g.monitorRoom + (g.stack.map fun v => v.category).sum ≤ W9 → A.U.methodNamed? y = some mk → Pre A a →
    (∃ (v : Option Value) (B : Pt), Stand p l e R s m sargs below meth c B.U B.locs B.cells B.slots ∧ Post A a v B ∧
      Steps p.tables e below (doInvoke e (A.U.setTop g) [] mk a).1 (B.U.setTop { g with pc := g.pc + len, stack := v.toList ++ g.stack })) ∨
    (∃ (q : Addr) (B : Pt), Stand p l e R s m sargs below meth c B.U B.locs B.cells B.slots ∧ PostX A a q B ∧
      Steps p.tables e below (doInvoke e (A.U.setTop g) [] mk a).1 ((B.U.setTop g).pushFrame (.throwing q)))
section Payer
variable {l : Launch} {R : Room} {p : Program} {e : Env} {below : List Frame} {s : State} {sargs : Array Value} {y : MethodName} {len W9 : Nat}
theorem vx_back {ws : List Cond} {rm : Room} {Pc : Array Value → State → Prop} {Qc : Array Value → State → Outcome → State → Prop} {XC : String → State → State → Prop} {mc ms : Nat} {free : Addr → Prop} {bytes : ByteArray} {maxL : Nat} {ret : Option FieldType}
    (hM : vx_Met l y ws rm Pc Qc XC mc ms free) (hblind : FrameBlind Pc) (hrc : rm.cells = mc) (hrs : rm.slots = ms)
    (hframes : rm.frames + 1 ≤ R.frames) (hlocals : W9 + (maxL + 11) + rm.locals ≤ R.locals)
    (hws : ∀ w ∈ ws, ∀ a' U, s.WarmedH U.vm → w.before a' U = true) (hcode : Cond.code y bytes maxL ret ∈ ws) (hinit : ∀ a' U, s.WarmedH U.vm → (Cond.initialized y.cls).before a' U = true) :
    vx_Back l R p e below s sargs y len W9 (PreOf R mc ms Pc) (PostOf Qc mc ms free) (vx_Post XC mc ms free) := by
  intro m meth c A g ig mk a X hg hsize hdg hW hn hp
  have h1 : (headSpec ws rm).pre.before a A.U = true := atoms_intro fun w hw => hws w hw _ _ X.warmed
  have h2 : (Cond.code y bytes maxL ret).before a A.U = true := hws _ hcode _ _ X.warmed
  have h3 : (Cond.initialized y.cls).before a A.U = true := hinit _ _ X.warmed
  have h4 : A.cells + (headSpec ws rm).room.cells ≤ R.cells := by rw [show (headSpec ws rm).room.cells = mc from hrc]; exact hp.1
  have h5 : A.slots + (headSpec ws rm).room.slots ≤ R.slots := by rw [show (headSpec ws rm).room.slots = ms from hrs]; exact hp.2.1
  have hPc : Pc a (A.U.calling g mk a) := hblind _ _ _ _ hp.2.2
  obtain ⟨U, Ls, c0, s0⟩ := A
  dsimp only [Pt.U, Pt.locs, Pt.cells, Pt.slots] at h1 h2 h3 h4 h5 X hn hPc ⊢
  obtain ⟨methY, cY, hmY, hcY, -, hlY, -, -, -, -⟩ := Cond.code_spec hn h2
  obtain ⟨kY, hkY, -⟩ := className_of_methodNamed hn
  have hinitY : kY.init = .initialized := Cond.initialized_spec (findClass_of_methodNamed hn) hkY h3
  have h : At U g.method c below := by rw [hg]; exact X.here
  have hlocals9 : W9 + (maxL + 11) + (headSpec ws rm).room.locals ≤ R.locals := hlocals
  have happ : (headSpec ws rm).appliesLoose y e.platform (U.calling g mk a) = true :=
    Spec.appliesLoose_calling (g := g) h hdg hn hkY hinitY
      (X.room_calling (g := g) (R' := (headSpec ws rm).room) hsize hmY hcY hframes (by rw [hlY]; omega) h4 h5) h1
  obtain ⟨mid, hmid⟩ := h.above
  have hfr : (U.setTop g).frames = (.java g :: mid) ++ below := by rw [State.frames_setTop' g h.top, hmid]; rfl
  obtain ⟨o, s₂, hsteps, -, hend, hq⟩ := Steps.callFree hM p X.admits X.cas X.clock (acts := []) hfr happ hPc trivial
  have hq' : vx_Q Qc XC mc ms free a (U.calling g mk a) o s₂ := hq
  rw [State.frames_setTop' g h.top] at hend
  obtain ⟨g₀, hg0⟩ := Option.isSome_iff_exists.mp h.top
  obtain ⟨r, hr⟩ := State.topJava?_eq_some.mp hg0
  have hr' : (({ U with heap := s₂.heap, slotsUsed := s₂.slotsUsed } : State).setVm s₂.vm).frames = .java g₀ :: r := hr
  rcases hq' with ⟨hqc, L, hfe, hL⟩ | ⟨q, rfl, E, ce, L, hx, hce, hcv, hcl, hW₂, hsm, hL⟩
  · obtain ⟨⟨v, rfl⟩, hW₂, e2, q2, q3, q4, q5, q6⟩ := id hfe
    have e3 : s₂ = ({ (U.calling g mk a).setFrames s₂.frames with heap := s₂.heap, slotsUsed := s₂.slotsUsed } : State).setVm s₂.vm := by
      have : s₂ = ({ s₂ with vm := (U.calling g mk a).vm } : State).setVm s₂.vm := rfl
      rw [e2] at this
      exact this
    obtain ⟨c₂, i₂, len₂, hc₂, hd₂, hf₂⟩ := hend
    have hW' : U.WarmedH s₂.vm := hW₂
    have hcc : c₂ = c := by
      have h1 : s₂.code? g.method = U.code? g.method := by
        rw [State.code?_eq, State.code?_eq, hW'.alike.method?]
      exact Option.some.inj (hc₂.symm.trans (h1.trans h.code))
    subst hcc
    have hlen : len₂ = len := by rw [hdg] at hd₂; cases hd₂; rfl
    subst hlen
    have hs₂ : s₂ = (({ U with heap := s₂.heap, slotsUsed := s₂.slotsUsed } : State).setVm s₂.vm).setTop { g with pc := g.pc + len₂, stack := v.toList ++ g.stack } := by
      refine e3.trans ?_
      rw [hf₂, State.calling_eq h.top, State.setFrames_setFrames, State.setTop_of_frames _ hr', hr]
      rfl
    have hsame : U.sameButNew ({ U with heap := s₂.heap, slotsUsed := s₂.slotsUsed } : State) L mc ms := by
      refine ⟨?_, q2, q3, q4, q5, q6⟩
      obtain ⟨t, ht, -⟩ := State.frames_cons hr
      show ({ U with heap := s₂.heap, slotsUsed := s₂.slotsUsed } : State) = { U.setFrames U.frames with heap := s₂.heap, slotsUsed := s₂.slotsUsed }
      rw [State.setFrames_self ht]
    subst hg
    refine Or.inl ⟨v, ⟨(({ U with heap := s₂.heap, slotsUsed := s₂.slotsUsed } : State).setVm s₂.vm), Ls ++ L, c0 + mc, s0 + ms⟩,
      ⟨X.admits, X.cas, X.clock, X.frames, X.room, X.hears, X.method, X.code, (X.here.setHeapUsed s₂.heap s₂.slotsUsed).setVm hW'.alike, X.tail, State.WarmedH.trans X.warmed hW', X.limits, X.bytes, X.same.trans (hsame.setVm s.vm)⟩,
      ⟨g, mk, s₂, L, rfl, rfl, hqc, rfl, hL, rfl, rfl⟩, ?_⟩
    show Steps p.tables e below _ ((({ U with heap := s₂.heap, slotsUsed := s₂.slotsUsed } : State).setVm s₂.vm).setTop { g with pc := g.pc + len₂, stack := v.toList ++ g.stack })
    rw [← hs₂]
    exact hsteps
  · obtain ⟨e2, q2, q3, q4, q5, q6⟩ := id hsm
    have e3 : s₂ = ({ (U.calling g mk a).setFrames s₂.frames with heap := s₂.heap, slotsUsed := s₂.slotsUsed } : State).setVm s₂.vm := by
      have : s₂ = ({ s₂ with vm := (U.calling g mk a).vm } : State).setVm s₂.vm := rfl
      rw [e2] at this
      exact this
    have hf₂ : s₂.frames = .throwing q :: .java g :: U.frames.tail := hend
    have hW' : U.WarmedH s₂.vm := hW₂
    have hs₂ : s₂ = ((({ U with heap := s₂.heap, slotsUsed := s₂.slotsUsed } : State).setVm s₂.vm).setTop g).pushFrame (.throwing q) := by
      refine e3.trans ?_
      rw [hf₂, State.calling_eq h.top, State.setFrames_setFrames, State.pushFrame, State.frames_setTop _ hr', State.setTop_of_frames _ hr', State.setFrames_setFrames, hr]
      rfl
    have hsame : U.sameButNew ({ U with heap := s₂.heap, slotsUsed := s₂.slotsUsed } : State) L mc ms := by
      refine ⟨?_, q2, q3, q4, q5, q6⟩
      obtain ⟨t, ht, -⟩ := State.frames_cons hr
      show ({ U with heap := s₂.heap, slotsUsed := s₂.slotsUsed } : State) = { U.setFrames U.frames with heap := s₂.heap, slotsUsed := s₂.slotsUsed }
      rw [State.setFrames_self ht]
    subst hg
    refine Or.inr ⟨q, ⟨(({ U with heap := s₂.heap, slotsUsed := s₂.slotsUsed } : State).setVm s₂.vm), Ls ++ L, c0 + mc, s0 + ms⟩,
      ⟨X.admits, X.cas, X.clock, X.frames, X.room, X.hears, X.method, X.code, (X.here.setHeapUsed s₂.heap s₂.slotsUsed).setVm hW'.alike, X.tail, State.WarmedH.trans X.warmed hW', X.limits, X.bytes, X.same.trans (hsame.setVm s.vm)⟩,
      ⟨g, mk, s₂, L, E, ce, rfl, rfl, hx, hce, hcv, hcl, rfl, hL, rfl, rfl⟩, ?_⟩
    show Steps p.tables e below _ (((({ U with heap := s₂.heap, slotsUsed := s₂.slotsUsed } : State).setVm s₂.vm).setTop g).pushFrame (.throwing q))
    rw [← hs₂]
    exact hsteps
end Payer
section Calls
variable {p : Program} {l : Launch} {e : Env} {R : Room} {s : State} {m : MethodId} {args : Array Value} {below : List Frame} {meth : Method} {c : Code} {T : State} {locs : List Loc} {cells slots : Nat}
theorem vx_callV (X : Stand p l e R s m args below meth c T locs cells slots) (hexec : p.tables.exec = Jvm.exec) {own C : String} {index : Nat} {y : MethodName} {bytes : ByteArray} {maxL : Nat} {ret : Option FieldType}
    (hown : s.vm.findClass own = some m.cls) (hlink : (Cond.methodLink own index y).before args s = true) (hinst : (Cond.instanceMethod y).before args s = true) (hsel : (Cond.selects C y y).before args s = true)
    (hcode : (Cond.code y bytes maxL ret).before args s = true) (hy : y.cls ≠ "java/lang/invoke/MethodHandle" ∧ y.cls ≠ "java/lang/invoke/VarHandle")
    {W9 : Nat} {Pre : Pt → Array Value → Prop} {Post : Pt → Array Value → Option Value → Pt → Prop} {PostX : Pt → Array Value → Addr → Pt → Prop} (hK : vx_Back l R p e below s args y 3 W9 Pre Post PostX)
    {b : Addr} {cellB : Cell} (hcell : T.heap[b]? = some cellB) (hobj : cellB.vm.isStatics = false) (hcls : s.vm.findClass C = some cellB.cls)
    {g : JFrame} (hg : g.method = m) (hsize : g.locals.size = c.maxLocals) {argsL rest : List Value} (hlen : ∀ sig, parseMethodDescriptor y.desc = some sig → argsL.length = sig.parameters.length)
    (hstack : g.stack = argsL.reverse ++ .ref b :: rest) (hW : 2 * g.monitorRoom + (rest.map fun v => v.category).sum ≤ W9) (hdg : decode c.code g.pc = .ok (.invokevirtual index, 3))
    (hpre : ∀ vm₁, s.WarmedH vm₁ → Pre ⟨T.setVm vm₁, locs, cells, slots⟩ (Value.ref b :: argsL).toArray) :
    (∃ (v : Option Value) (vm₁ : Vm) (B : Pt), s.WarmedH vm₁ ∧ Stand p l e R s m args below meth c B.U B.locs B.cells B.slots ∧ Post ⟨T.setVm vm₁, locs, cells, slots⟩ (Value.ref b :: argsL).toArray v B ∧
      ∀ target, Steps p.tables e below (B.U.setTop { g with pc := g.pc + 3, stack := v.toList ++ rest }) target → Steps p.tables e below (T.setTop g) target) ∨
    (∃ (q : Addr) (vm₁ : Vm) (B : Pt), s.WarmedH vm₁ ∧ Stand p l e R s m args below meth c B.U B.locs B.cells B.slots ∧ PostX ⟨T.setVm vm₁, locs, cells, slots⟩ (Value.ref b :: argsL).toArray q B ∧
      Steps p.tables e below (T.setTop g) ((B.U.setTop { g with stack := rest }).pushFrame (.throwing q))) := by
  obtain ⟨mk, methM, hnamed, hmethM, hstM, habM⟩ := Cond.instanceMethod_spec hinst
  obtain ⟨methM', cM, hmethM', -, -, -, -, -, -, hsigM⟩ := Cond.code_spec hnamed hcode
  cases hmethM.symm.trans hmethM'
  obtain ⟨c2, r2, m2, q1, q2, q3, q4, kP, hkP, hkPi⟩ := Cond.selects_spec hsel
  cases hcls.symm.trans q1
  cases (State.methodFound?_of_named hnamed hy).symm.trans q2
  cases hnamed.symm.trans q3
  have hselP : selectMethod e.platform s.vm cellB.cls mk = .method mk := by rw [Launch.admits_selectMethod X.admits]; exact q4
  obtain ⟨vm₁, X₁, hstep₁⟩ := X.invokevirtual hexec hown hlink hnamed hmethM hstM hkP hkPi hy (a := b) (cell := cellB) hcell
    (fun z h => by rw [h] at hobj; cases hobj) hselP hmethM habM hkP hkPi (g := g) hg (argsL := argsL) (rest := rest) (hlen _ hsigM) hstack hdg
  rcases hK m meth c ⟨T.setVm vm₁, locs, cells, slots⟩ { g with stack := rest } (.invokevirtual index) mk (Value.ref b :: argsL).toArray X₁ hg hsize hdg hW (X₁.named hnamed) (hpre vm₁ X₁.warmed) with ⟨v, B, X', hpost, hsteps⟩ | ⟨q, B, X', hpost, hsteps⟩
  · exact Or.inl ⟨v, vm₁, B, X₁.warmed, X', hpost, fun target h => hstep₁ _ fun acts => by rw [doInvoke_state]; exact hsteps.trans h⟩
  · exact Or.inr ⟨q, vm₁, B, X₁.warmed, X', hpost, hstep₁ _ fun acts => by rw [doInvoke_state]; exact hsteps⟩
theorem vx_callS (X : Stand p l e R s m args below meth c T locs cells slots) (hexec : p.tables.exec = Jvm.exec) {own : String} {index : Nat} {y : MethodName} {bytes : ByteArray} {maxL : Nat} {ret : Option FieldType}
    (hown : s.vm.findClass own = some m.cls) (hlink : (Cond.methodLink own index y).before args s = true) (hstat : (Cond.static y).before args s = true) (hinit : (Cond.initialized y.cls).before args s = true)
    (hcode : (Cond.code y bytes maxL ret).before args s = true) (hy : y.cls ≠ "java/lang/invoke/MethodHandle" ∧ y.cls ≠ "java/lang/invoke/VarHandle")
    {W9 : Nat} {Pre : Pt → Array Value → Prop} {Post : Pt → Array Value → Option Value → Pt → Prop} {PostX : Pt → Array Value → Addr → Pt → Prop} (hK : vx_Back l R p e below s args y 3 W9 Pre Post PostX)
    {g : JFrame} (hg : g.method = m) (hsize : g.locals.size = c.maxLocals) {argsL rest : List Value} (hlen : ∀ sig, parseMethodDescriptor y.desc = some sig → argsL.length = sig.parameters.length)
    (hstack : g.stack = argsL.reverse ++ rest) (hW : 2 * g.monitorRoom + (rest.map fun v => v.category).sum ≤ W9) (hdg : decode c.code g.pc = .ok (.invokestatic index, 3))
    (hpre : ∀ vm₁, s.WarmedH vm₁ → Pre ⟨T.setVm vm₁, locs, cells, slots⟩ argsL.toArray) :
    (∃ (v : Option Value) (vm₁ : Vm) (B : Pt), s.WarmedH vm₁ ∧ Stand p l e R s m args below meth c B.U B.locs B.cells B.slots ∧ Post ⟨T.setVm vm₁, locs, cells, slots⟩ argsL.toArray v B ∧
      ∀ target, Steps p.tables e below (B.U.setTop { g with pc := g.pc + 3, stack := v.toList ++ rest }) target → Steps p.tables e below (T.setTop g) target) ∨
    (∃ (q : Addr) (vm₁ : Vm) (B : Pt), s.WarmedH vm₁ ∧ Stand p l e R s m args below meth c B.U B.locs B.cells B.slots ∧ PostX ⟨T.setVm vm₁, locs, cells, slots⟩ argsL.toArray q B ∧
      Steps p.tables e below (T.setTop g) ((B.U.setTop { g with stack := rest }).pushFrame (.throwing q))) := by
  obtain ⟨mk, hnamed⟩ := Cond.code_named hcode
  obtain ⟨methM, cM, hmethM, -, -, -, -, -, -, hsigM⟩ := Cond.code_spec hnamed hcode
  have hstatic : methM.isStatic = true := Cond.static_spec hnamed hmethM hstat
  obtain ⟨kP, hkP, -⟩ := className_of_methodNamed hnamed
  have hinitP : kP.init = .initialized := Cond.initialized_spec (findClass_of_methodNamed hnamed) hkP hinit
  obtain ⟨vm₁, X₁, hstep₁⟩ := X.invokestatic hexec hown hlink hnamed hmethM hstatic hkP hinitP hy (g := g) hg (argsL := argsL) (rest := rest) (hlen _ hsigM) hstack hdg
  rcases hK m meth c ⟨T.setVm vm₁, locs, cells, slots⟩ { g with stack := rest } (.invokestatic index) mk argsL.toArray X₁ hg hsize hdg hW (X₁.named hnamed) (hpre vm₁ X₁.warmed) with ⟨v, B, X', hpost, hsteps⟩ | ⟨q, B, X', hpost, hsteps⟩
  · exact Or.inl ⟨v, vm₁, B, X₁.warmed, X', hpost, fun target h => hstep₁ _ fun acts => by rw [doInvoke_state]; exact hsteps.trans h⟩
  · exact Or.inr ⟨q, vm₁, B, X₁.warmed, X', hpost, hstep₁ _ fun acts => by rw [doInvoke_state]; exact hsteps⟩
end Calls
theorem vx_cls {s : State} {T : State} {vm₁ : Vm} {E : String} {k : ClassId} (hW : s.WarmedH vm₁) (h : (T.setVm vm₁).vm.findClass E = some k) : s.vm.findClass E = some k := by
  have h1 : vm₁.findClass E = some k := h
  rw [hW.alike.findClass] at h1
  exact h1
/-- the method's frame g, with q thrown over it -/
def vx_W (p : Program) (l : Launch) (e : Env) (R : Room) (s : State) (m : MethodId) (args : Array Value) (below : List Frame) (meth : Method) (c : Code) (H : Heap) (locs : List Loc) (cells slots : Nat) (Q : State → Prop) (g : JFrame) (q : Addr) : Prop :=
  ∀ T : State, T.heap = H → Stand p l e R s m args below meth c T locs cells slots → ∃ t, Steps p.tables e below ((T.setTop g).pushFrame (.throwing q)) t ∧ Q t
def vx_Run (p : Program) (l : Launch) (e : Env) (R : Room) (s : State) (m : MethodId) (args : Array Value) (below : List Frame) (meth : Method) (c : Code) (H : Heap) (locs : List Loc) (cells slots mc ms : Nat) (g : JFrame) (rest : List Value) (Qa : State → Outcome → State → Prop) (XC : String → State → State → Prop) (free : Addr → Prop) : Prop :=
  ∀ T : State, T.heap = H → Stand p l e R s m args below meth c T locs cells slots →
    (∃ (v : Option Value) (st₀ t T' : State) (L : List Loc), st₀.heap = H ∧ Stand p l e R s m args below meth c T' (locs ++ L) (cells + mc) (slots + ms) ∧ (∀ q ∈ L, free q.base) ∧ T'.heap = t.heap ∧ T'.vm = t.vm ∧ Qa st₀ (.returned v) t ∧
      Goes p e below T g T' { g with pc := g.pc + 3, stack := v.toList ++ rest }) ∨
    (∃ (q : Addr) (st₀ t T' : State) (L : List Loc) (E : String) (ce : Cell), st₀.heap = H ∧ Stand p l e R s m args below meth c T' (locs ++ L) (cells + mc) (slots + ms) ∧ (∀ z ∈ L, free z.base) ∧ T'.heap = t.heap ∧ T'.vm = t.vm ∧ XC E st₀ t ∧ t.heap[q]? = some ce ∧ ce.vm = .none ∧ s.vm.findClass E = some ce.cls ∧
      Steps p.tables e below (T.setTop g) ((T'.setTop { g with stack := rest }).pushFrame (.throwing q)))
def vx_X {S : Type} (px : S → Prop) (B : String → S → State → Prop) (A : Nat → Prop) : String → State → State → Prop := fun E st t => ∃ u : S, px u ∧ B E u t ∧ va_F A st t
section Runs
variable {p : Program} {l : Launch} {e : Env} {R : Room} {s : State} {m : MethodId} {args : Array Value} {below : List Frame} {meth : Method} {c : Code} {H : Heap} {locs : List Loc} {cells slots : Nat}
variable {y : MethodName} {bytes cc : ByteArray} {maxL nL mc ms n index : Nat} {ret : Option FieldType} {ws : List Cond} {rm : Room} {Pc : Array Value → State → Prop} {Qc : Array Value → State → Outcome → State → Prop} {XC : String → State → State → Prop} {free : Addr → Prop} {Ts : List Cond} {own C : String} {b : Addr} {As rest : List Value} {g : JFrame}
theorem vx_callBack (cb : CallB R s args own index y bytes maxL ret ws rm mc ms n) (hM : vx_Met l y ws rm Pc Qc XC mc ms free) (hbl : FrameBlind Pc) : vx_Back l R p e below s args y 3 8 (PreOf R mc ms Pc) (PostOf Qc mc ms free) (vx_Post XC mc ms free) := by
  obtain ⟨hrc, hrs, hfr, hlo, hws, hcw, -, hini, -⟩ := cb
  exact vx_back (bytes := bytes) (maxL := maxL) (ret := ret) hM hbl hrc hrs hfr hlo hws hcw (fun a' U hW => word_at hW (Or.inl (by first | rfl | simp [Cond.onTables, Cond.keeps, Cond.steady])) hini)
theorem vx_runV (S : CallFix p m c cc nL s args Ts own) (hM : vx_Met l y ws rm Pc Qc XC mc ms free) (cw : CallW R s args own C index y bytes maxL ret ws rm mc ms n) (hp : PreV s H C b Pc As)
    (hg : g.method = m) (hn : As.length = n) (hsize : g.locals.size = nL) (hstack : g.stack = As.reverse ++ .ref b :: rest) (hW : 2 * g.monitorRoom + (rest.map fun v => v.category).sum ≤ 8) (hdg : decode cc g.pc = .ok (.invokevirtual index, 3)) (hf : cells + mc ≤ R.cells ∧ slots + ms ≤ R.slots) :
    vx_Run p l e R s m args below meth c H locs cells slots mc ms g rest (Qc (Value.ref b :: As).toArray) XC free := by
  have hK : vx_Back l R p e below s args y 3 8 (PreOf R mc ms Pc) (PostOf Qc mc ms free) (vx_Post XC mc ms free) := vx_callBack cw.1 hM hp.1
  obtain ⟨⟨-, -, -, -, -, -, hcode, -, hy, hlen, hl⟩, hin, hse⟩ := cw
  obtain ⟨hx, hb, hml, ho, -⟩ := S
  obtain ⟨-, ⟨cellB, hcB, hoB, hclB⟩, hPc⟩ := hp
  intro T hT X
  rcases vx_callV X hx (C := C) (bytes := bytes) (maxL := maxL) (ret := ret) ho hl hin hse hcode hy hK (by rw [hT]; exact hcB) hoB hclB hg (hsize.trans hml.symm) (argsL := As) (rest := rest) (fun sig h => hn.trans (hlen sig h)) hstack hW (by rw [hb]; exact hdg)
    (fun vm₁ hW₁ => ⟨hf.1, hf.2, hPc (T.setVm vm₁) hT hW₁⟩) with ⟨v, vm₁, ⟨U', l2, c2, s2⟩, hW₁, X', ⟨g', mk, t, L, e1, e2, hq, h1, hL, h2, h3⟩, st⟩ | ⟨q, vm₁, ⟨U', l2, c2, s2⟩, hW₁, X', ⟨g', mk, t, L, E, ce, e1, e2, hq, hce, hcv, hcl, h1, hL, h2, h3⟩, st⟩
  · dsimp only [Pt.U, Pt.locs, Pt.cells, Pt.slots] at X' e1 e2 h1 h2 h3 st
    subst h1; subst h2; subst h3
    exact Or.inl ⟨v, (T.setVm vm₁).calling g' mk (Value.ref b :: As).toArray, t, U', L, hT, X', hL, e1, e2, hq, st⟩
  · dsimp only [Pt.U, Pt.locs, Pt.cells, Pt.slots] at X' e1 e2 h1 h2 h3 st hcl
    subst h1; subst h2; subst h3
    exact Or.inr ⟨q, (T.setVm vm₁).calling g' mk (Value.ref b :: As).toArray, t, U', L, E, ce, hT, X', hL, e1, e2, hq, hce, hcv, vx_cls hW₁ hcl, st⟩
theorem vx_runS (S : CallFix p m c cc nL s args Ts own) (hM : vx_Met l y ws rm Pc Qc XC mc ms free) (cw : CallB R s args own index y bytes maxL ret ws rm mc ms n ∧ (Cond.static y).before args s = true) (hp : PreS s H Pc As)
    (hg : g.method = m) (hn : As.length = n) (hsize : g.locals.size = nL) (hstack : g.stack = As.reverse ++ rest) (hW : 2 * g.monitorRoom + (rest.map fun v => v.category).sum ≤ 8) (hdg : decode cc g.pc = .ok (.invokestatic index, 3)) (hf : cells + mc ≤ R.cells ∧ slots + ms ≤ R.slots) :
    vx_Run p l e R s m args below meth c H locs cells slots mc ms g rest (Qc As.toArray) XC free := by
  have hK : vx_Back l R p e below s args y 3 8 (PreOf R mc ms Pc) (PostOf Qc mc ms free) (vx_Post XC mc ms free) := vx_callBack cw.1 hM hp.1
  obtain ⟨⟨-, -, -, -, -, -, hcode, hini, hy, hlen, hl⟩, hstt⟩ := cw
  obtain ⟨hx, hb, hml, ho, -⟩ := S
  intro T hT X
  rcases vx_callS X hx (bytes := bytes) (maxL := maxL) (ret := ret) ho hl hstt hini hcode hy hK hg (hsize.trans hml.symm) (argsL := As) (rest := rest) (fun sig h => hn.trans (hlen sig h)) hstack hW (by rw [hb]; exact hdg)
    (fun vm₁ hW₁ => ⟨hf.1, hf.2, hp.2 (T.setVm vm₁) hT hW₁⟩) with ⟨v, vm₁, ⟨U', l2, c2, s2⟩, hW₁, X', ⟨g', mk, t, L, e1, e2, hq, h1, hL, h2, h3⟩, st⟩ | ⟨q, vm₁, ⟨U', l2, c2, s2⟩, hW₁, X', ⟨g', mk, t, L, E, ce, e1, e2, hq, hce, hcv, hcl, h1, hL, h2, h3⟩, st⟩
  · dsimp only [Pt.U, Pt.locs, Pt.cells, Pt.slots] at X' e1 e2 h1 h2 h3 st
    subst h1; subst h2; subst h3
    exact Or.inl ⟨v, (T.setVm vm₁).calling g' mk As.toArray, t, U', L, hT, X', hL, e1, e2, hq, st⟩
  · dsimp only [Pt.U, Pt.locs, Pt.cells, Pt.slots] at X' e1 e2 h1 h2 h3 st hcl
    subst h1; subst h2; subst h3
    exact Or.inr ⟨q, (T.setVm vm₁).calling g' mk As.toArray, t, U', L, E, ce, hT, X', hL, e1, e2, hq, hce, hcv, vx_cls hW₁ hcl, st⟩
end Runs
section Rows
variable {p : Program} {l : Launch} {e : Env} {R : Room} {s : State} {m : MethodId} {args : Array Value} {below : List Frame} {meth : Method} {c : Code} {H : Heap} {locs : List Loc} {cells slots : Nat} {Q : State → Prop}
variable {mc ms : Nat} {free : Addr → Prop} {A0 A1 : Nat → Prop} {H0 : Heap} {a : Array Value} {pc : Nat} {ls : Array Slot} {st0 rest : List Value}
theorem vx_keep {st₀ t T' : State} {L : List Loc} (h0 : st₀.heap = H) (e1 : T'.heap = t.heap) (hS : va_S A0 H0 H locs) (hA : ∀ q, q < H.size → A1 q → A0 q) (hf : ∀ q, free q → A0 q) (hL : ∀ q ∈ L, free q.base) (hF : va_F A1 st₀ t) :
    H.size ≤ T'.heap.size ∧ (∀ q : Nat, q < H.size → ¬ A1 q → T'.heap[q]? = H[q]?) ∧ va_S A0 H0 T'.heap (locs ++ L) := by
  obtain ⟨hz, hk⟩ := hF
  rw [h0] at hz hk
  exact ⟨by rw [e1]; exact hz, fun q h1 h2 => by rw [e1]; exact hk q h1 h2,
    ⟨Nat.le_trans hS.1 (by rw [e1]; exact hz), fun q h1 h2 => by rw [e1, hk q (Nat.lt_of_lt_of_le h1 hS.1) (fun z => h2 (hA q (Nat.lt_of_lt_of_le h1 hS.1) z))]; exact hS.2.1 q h1 h2, fun q hq => by
      rcases List.mem_append.mp hq with h | h
      · exact hS.2.2 q h
      · exact hf _ (hL q h)⟩⟩
theorem vx_calli {S SX : Type} {post : Int32 → S → Prop} {px : SX → Prop} {B : S → State → Prop} {BX : String → SX → State → Prop} {AX : Nat → Prop} (hr : vx_Run p l e R s m args below meth c H locs cells slots mc ms (F0 m pc ls st0) rest (va_Qi post B A1 a) (vx_X px BX AX) free) (hS : va_S A0 H0 H locs) (hA : ∀ q, q < H.size → A1 q → A0 q) (hf : ∀ q, free q → A0 q) (hAX : ∀ q, q < H.size → AX q → A0 q)
    (kx : ∀ (E : String) (ce : Cell) (q9 : Addr) (u : SX) (t : State) (H1 : Heap) (locs1 : List Loc), t.heap = H1 → s.vm.Alike t.vm → px u → BX E u t → H.size ≤ H1.size → (∀ q : Nat, q < H.size → ¬ AX q → H1[q]? = H[q]?) → va_S A0 H0 H1 locs1 → H1[q9]? = some ce → ce.vm = .none → s.vm.findClass E = some ce.cls → vx_W p l e R s m args below meth c H1 locs1 (cells + mc) (slots + ms) Q (F0 m pc ls rest) q9)
    (kk : ∀ (r : Int32) (u : S) (t : State) (H1 : Heap) (locs1 : List Loc), t.heap = H1 → s.vm.Alike t.vm → post r u → B u t → H.size ≤ H1.size → (∀ q : Nat, q < H.size → ¬ A1 q → H1[q]? = H[q]?) → va_S A0 H0 H1 locs1 → W p l e R s m args below meth c H1 locs1 (cells + mc) (slots + ms) Q (F0 m (pc + 3) ls (.int r :: rest))) : W p l e R s m args below meth c H locs cells slots Q (F0 m pc ls st0) := by
  intro T hT X
  rcases hr T hT X with ⟨v, st₀, t, T', L, h0, X', hL, e1, e2, ⟨⟨r, u, hv, hp, hb⟩, hF⟩, st⟩ | ⟨q, st₀, t, T', L, E, ce, h0, X', hL, e1, e2, ⟨u, hp, hb, hF⟩, hce, hcv, hcl, st⟩
  · cases hv
    obtain ⟨k1, k2, k3⟩ := vx_keep h0 e1 hS hA hf hL hF
    obtain ⟨t2, a1, b1⟩ := kk r u t T'.heap (locs ++ L) e1.symm (by rw [← e2]; exact X'.warmed.alike) hp hb k1 k2 k3 T' rfl X'
    exact ⟨t2, st t2 a1, b1⟩
  · obtain ⟨k1, k2, k3⟩ := vx_keep h0 e1 hS hAX hf hL hF
    obtain ⟨t2, a1, b1⟩ := kx E ce q u t T'.heap (locs ++ L) e1.symm (by rw [← e2]; exact X'.warmed.alike) hp hb k1 k2 k3 (by rw [e1]; exact hce) hcv hcl T' rfl X'
    exact ⟨t2, st.trans a1, b1⟩
theorem vx_calll {S SX : Type} {post : Int64 → S → Prop} {px : SX → Prop} {B : S → State → Prop} {BX : String → SX → State → Prop} {AX : Nat → Prop} (hr : vx_Run p l e R s m args below meth c H locs cells slots mc ms (F0 m pc ls st0) rest (va_Ql post B A1 a) (vx_X px BX AX) free) (hS : va_S A0 H0 H locs) (hA : ∀ q, q < H.size → A1 q → A0 q) (hf : ∀ q, free q → A0 q) (hAX : ∀ q, q < H.size → AX q → A0 q)
    (kx : ∀ (E : String) (ce : Cell) (q9 : Addr) (u : SX) (t : State) (H1 : Heap) (locs1 : List Loc), t.heap = H1 → s.vm.Alike t.vm → px u → BX E u t → H.size ≤ H1.size → (∀ q : Nat, q < H.size → ¬ AX q → H1[q]? = H[q]?) → va_S A0 H0 H1 locs1 → H1[q9]? = some ce → ce.vm = .none → s.vm.findClass E = some ce.cls → vx_W p l e R s m args below meth c H1 locs1 (cells + mc) (slots + ms) Q (F0 m pc ls rest) q9)
    (kk : ∀ (r : Int64) (u : S) (t : State) (H1 : Heap) (locs1 : List Loc), t.heap = H1 → s.vm.Alike t.vm → post r u → B u t → H.size ≤ H1.size → (∀ q : Nat, q < H.size → ¬ A1 q → H1[q]? = H[q]?) → va_S A0 H0 H1 locs1 → W p l e R s m args below meth c H1 locs1 (cells + mc) (slots + ms) Q (F0 m (pc + 3) ls (.long r :: rest))) : W p l e R s m args below meth c H locs cells slots Q (F0 m pc ls st0) := by
  intro T hT X
  rcases hr T hT X with ⟨v, st₀, t, T', L, h0, X', hL, e1, e2, ⟨⟨r, u, hv, hp, hb⟩, hF⟩, st⟩ | ⟨q, st₀, t, T', L, E, ce, h0, X', hL, e1, e2, ⟨u, hp, hb, hF⟩, hce, hcv, hcl, st⟩
  · cases hv
    obtain ⟨k1, k2, k3⟩ := vx_keep h0 e1 hS hA hf hL hF
    obtain ⟨t2, a1, b1⟩ := kk r u t T'.heap (locs ++ L) e1.symm (by rw [← e2]; exact X'.warmed.alike) hp hb k1 k2 k3 T' rfl X'
    exact ⟨t2, st t2 a1, b1⟩
  · obtain ⟨k1, k2, k3⟩ := vx_keep h0 e1 hS hAX hf hL hF
    obtain ⟨t2, a1, b1⟩ := kx E ce q u t T'.heap (locs ++ L) e1.symm (by rw [← e2]; exact X'.warmed.alike) hp hb k1 k2 k3 (by rw [e1]; exact hce) hcv hcl T' rfl X'
    exact ⟨t2, st.trans a1, b1⟩
theorem vx_callf {S SX : Type} {post : UInt32 → S → Prop} {px : SX → Prop} {B : S → State → Prop} {BX : String → SX → State → Prop} {AX : Nat → Prop} (hr : vx_Run p l e R s m args below meth c H locs cells slots mc ms (F0 m pc ls st0) rest (va_Qf post B A1 a) (vx_X px BX AX) free) (hS : va_S A0 H0 H locs) (hA : ∀ q, q < H.size → A1 q → A0 q) (hf : ∀ q, free q → A0 q) (hAX : ∀ q, q < H.size → AX q → A0 q)
    (kx : ∀ (E : String) (ce : Cell) (q9 : Addr) (u : SX) (t : State) (H1 : Heap) (locs1 : List Loc), t.heap = H1 → s.vm.Alike t.vm → px u → BX E u t → H.size ≤ H1.size → (∀ q : Nat, q < H.size → ¬ AX q → H1[q]? = H[q]?) → va_S A0 H0 H1 locs1 → H1[q9]? = some ce → ce.vm = .none → s.vm.findClass E = some ce.cls → vx_W p l e R s m args below meth c H1 locs1 (cells + mc) (slots + ms) Q (F0 m pc ls rest) q9)
    (kk : ∀ (r : UInt32) (u : S) (t : State) (H1 : Heap) (locs1 : List Loc), t.heap = H1 → s.vm.Alike t.vm → post r u → B u t → H.size ≤ H1.size → (∀ q : Nat, q < H.size → ¬ A1 q → H1[q]? = H[q]?) → va_S A0 H0 H1 locs1 → W p l e R s m args below meth c H1 locs1 (cells + mc) (slots + ms) Q (F0 m (pc + 3) ls (.float r :: rest))) : W p l e R s m args below meth c H locs cells slots Q (F0 m pc ls st0) := by
  intro T hT X
  rcases hr T hT X with ⟨v, st₀, t, T', L, h0, X', hL, e1, e2, ⟨⟨r, u, hv, hp, hb⟩, hF⟩, st⟩ | ⟨q, st₀, t, T', L, E, ce, h0, X', hL, e1, e2, ⟨u, hp, hb, hF⟩, hce, hcv, hcl, st⟩
  · cases hv
    obtain ⟨k1, k2, k3⟩ := vx_keep h0 e1 hS hA hf hL hF
    obtain ⟨t2, a1, b1⟩ := kk r u t T'.heap (locs ++ L) e1.symm (by rw [← e2]; exact X'.warmed.alike) hp hb k1 k2 k3 T' rfl X'
    exact ⟨t2, st t2 a1, b1⟩
  · obtain ⟨k1, k2, k3⟩ := vx_keep h0 e1 hS hAX hf hL hF
    obtain ⟨t2, a1, b1⟩ := kx E ce q u t T'.heap (locs ++ L) e1.symm (by rw [← e2]; exact X'.warmed.alike) hp hb k1 k2 k3 (by rw [e1]; exact hce) hcv hcl T' rfl X'
    exact ⟨t2, st.trans a1, b1⟩
theorem vx_calld {S SX : Type} {post : UInt64 → S → Prop} {px : SX → Prop} {B : S → State → Prop} {BX : String → SX → State → Prop} {AX : Nat → Prop} (hr : vx_Run p l e R s m args below meth c H locs cells slots mc ms (F0 m pc ls st0) rest (va_Qd post B A1 a) (vx_X px BX AX) free) (hS : va_S A0 H0 H locs) (hA : ∀ q, q < H.size → A1 q → A0 q) (hf : ∀ q, free q → A0 q) (hAX : ∀ q, q < H.size → AX q → A0 q)
    (kx : ∀ (E : String) (ce : Cell) (q9 : Addr) (u : SX) (t : State) (H1 : Heap) (locs1 : List Loc), t.heap = H1 → s.vm.Alike t.vm → px u → BX E u t → H.size ≤ H1.size → (∀ q : Nat, q < H.size → ¬ AX q → H1[q]? = H[q]?) → va_S A0 H0 H1 locs1 → H1[q9]? = some ce → ce.vm = .none → s.vm.findClass E = some ce.cls → vx_W p l e R s m args below meth c H1 locs1 (cells + mc) (slots + ms) Q (F0 m pc ls rest) q9)
    (kk : ∀ (r : UInt64) (u : S) (t : State) (H1 : Heap) (locs1 : List Loc), t.heap = H1 → s.vm.Alike t.vm → post r u → B u t → H.size ≤ H1.size → (∀ q : Nat, q < H.size → ¬ A1 q → H1[q]? = H[q]?) → va_S A0 H0 H1 locs1 → W p l e R s m args below meth c H1 locs1 (cells + mc) (slots + ms) Q (F0 m (pc + 3) ls (.double r :: rest))) : W p l e R s m args below meth c H locs cells slots Q (F0 m pc ls st0) := by
  intro T hT X
  rcases hr T hT X with ⟨v, st₀, t, T', L, h0, X', hL, e1, e2, ⟨⟨r, u, hv, hp, hb⟩, hF⟩, st⟩ | ⟨q, st₀, t, T', L, E, ce, h0, X', hL, e1, e2, ⟨u, hp, hb, hF⟩, hce, hcv, hcl, st⟩
  · cases hv
    obtain ⟨k1, k2, k3⟩ := vx_keep h0 e1 hS hA hf hL hF
    obtain ⟨t2, a1, b1⟩ := kk r u t T'.heap (locs ++ L) e1.symm (by rw [← e2]; exact X'.warmed.alike) hp hb k1 k2 k3 T' rfl X'
    exact ⟨t2, st t2 a1, b1⟩
  · obtain ⟨k1, k2, k3⟩ := vx_keep h0 e1 hS hAX hf hL hF
    obtain ⟨t2, a1, b1⟩ := kx E ce q u t T'.heap (locs ++ L) e1.symm (by rw [← e2]; exact X'.warmed.alike) hp hb k1 k2 k3 (by rw [e1]; exact hce) hcv hcl T' rfl X'
    exact ⟨t2, st.trans a1, b1⟩
theorem vx_callv {S SX : Type} {post : S → Prop} {px : SX → Prop} {B : S → State → Prop} {BX : String → SX → State → Prop} {AX : Nat → Prop} (hr : vx_Run p l e R s m args below meth c H locs cells slots mc ms (F0 m pc ls st0) rest (va_Qv post B A1 a) (vx_X px BX AX) free) (hS : va_S A0 H0 H locs) (hA : ∀ q, q < H.size → A1 q → A0 q) (hf : ∀ q, free q → A0 q) (hAX : ∀ q, q < H.size → AX q → A0 q)
    (kx : ∀ (E : String) (ce : Cell) (q9 : Addr) (u : SX) (t : State) (H1 : Heap) (locs1 : List Loc), t.heap = H1 → s.vm.Alike t.vm → px u → BX E u t → H.size ≤ H1.size → (∀ q : Nat, q < H.size → ¬ AX q → H1[q]? = H[q]?) → va_S A0 H0 H1 locs1 → H1[q9]? = some ce → ce.vm = .none → s.vm.findClass E = some ce.cls → vx_W p l e R s m args below meth c H1 locs1 (cells + mc) (slots + ms) Q (F0 m pc ls rest) q9)
    (kk : ∀ (u : S) (t : State) (H1 : Heap) (locs1 : List Loc), t.heap = H1 → s.vm.Alike t.vm → post u → B u t → H.size ≤ H1.size → (∀ q : Nat, q < H.size → ¬ A1 q → H1[q]? = H[q]?) → va_S A0 H0 H1 locs1 → W p l e R s m args below meth c H1 locs1 (cells + mc) (slots + ms) Q (F0 m (pc + 3) ls (rest))) : W p l e R s m args below meth c H locs cells slots Q (F0 m pc ls st0) := by
  intro T hT X
  rcases hr T hT X with ⟨v, st₀, t, T', L, h0, X', hL, e1, e2, ⟨⟨u, hv, hp, hb⟩, hF⟩, st⟩ | ⟨q, st₀, t, T', L, E, ce, h0, X', hL, e1, e2, ⟨u, hp, hb, hF⟩, hce, hcv, hcl, st⟩
  · cases hv
    obtain ⟨k1, k2, k3⟩ := vx_keep h0 e1 hS hA hf hL hF
    obtain ⟨t2, a1, b1⟩ := kk u t T'.heap (locs ++ L) e1.symm (by rw [← e2]; exact X'.warmed.alike) hp hb k1 k2 k3 T' rfl X'
    exact ⟨t2, st t2 a1, b1⟩
  · obtain ⟨k1, k2, k3⟩ := vx_keep h0 e1 hS hAX hf hL hF
    obtain ⟨t2, a1, b1⟩ := kx E ce q u t T'.heap (locs ++ L) e1.symm (by rw [← e2]; exact X'.warmed.alike) hp hb k1 k2 k3 (by rw [e1]; exact hce) hcv hcl T' rfl X'
    exact ⟨t2, st.trans a1, b1⟩
/-- caught by the row x of this method's table; the rows ahead don't take it -/
theorem vx_catch {own name : String} {E : String} {ce : Cell} {q : Addr} (hown : s.vm.findClass own = some m.cls) (pre : List ExceptionTableEntry) (x : ExceptionTableEntry) (suf : List ExceptionTableEntry) (hsplit : c.exceptionTable.toList = pre ++ x :: suf)
    (hpass : ∀ z ∈ pre, covers z pc = false ∨ (z.catchType ≠ 0 ∧ ∃ nm : String, (Cond.classLink own z.catchType nm).before args s = true ∧ va_Nc E nm s)) (hx : covers x pc = true) (h0 : x.catchType ≠ 0)
    (hlink : (Cond.classLink own x.catchType name).before args s = true) (hcast : (Cond.castable E name).before args s = true) (hcell : H[q]? = some ce) (hv : ce.vm = .none) (hcl : s.vm.findClass E = some ce.cls)
    (kk : W p l e R s m args below meth c H locs cells slots Q (F0 m x.handlerPc ls [.ref q])) : vx_W p l e R s m args below meth c H locs cells slots Q (F0 m pc ls rest) q := by
  intro T hT X
  have hpl : e.platform.magicAccessors = ({} : Platform).magicAccessors := by rw [X.admits.platform]
  obtain ⟨c3, c4, hc3, hc4, hasg⟩ := Cond.castable_spec hcast
  cases Option.some.inj (hc3.symm.trans hcl)
  obtain ⟨c5, hc5, hcl5⟩ := Cond.classLink_spec hown hlink e.platform hpl
  cases Option.some.inj (hc4.symm.trans hc5)
  obtain ⟨vm', X', st⟩ := X.thenCaughtThrough q (g := F0 m pc ls rest) rfl (Steps.refl _) (by rw [hT]; exact hcell) (by rw [hv]; rfl) (by obtain ⟨k9, h9, -⟩ := Vm.findClass_spec hcl; exact ⟨k9, h9⟩) pre x suf hsplit
    (fun z hz => by
      rcases hpass z hz with h | ⟨hz0, nm, hl1, hn1⟩
      · exact Or.inl h
      · obtain ⟨c6, hc6, hcl6⟩ := Cond.classLink_spec hown hl1 e.platform hpl
        obtain ⟨a8, b8, h1, h2, h3⟩ := hn1
        cases Option.some.inj (h1.symm.trans hcl)
        cases Option.some.inj (h2.symm.trans hc6)
        exact Or.inr ⟨hz0, _, hcl6, h3⟩) hx (Or.inr ⟨h0, c4, hcl5, hasg⟩)
  obtain ⟨t, a1, b1⟩ := kk (T.setVm vm') hT X'
  exact ⟨t, st.trans a1, b1⟩
end Rows
section Ends
variable {p : Program} {l : Launch} {e : Env} {R : Room} {s : State} {m : MethodId} {args : Array Value} {below : List Frame} {meth : Method} {c : Code} {H : Heap} {locs : List Loc} {cells slots : Nat} {Q : State → Prop}
variable {mc ms : Nat} {free : Addr → Prop} {A0 A1 : Nat → Prop} {H0 : Heap} {a : Array Value} {ls : Array Slot} {st0 rest : List Value}
variable {Qc : Array Value → State → Outcome → State → Prop} {XC : String → State → State → Prop}
/-- what a body that may throw owes at its end -/
def vx_MQ (below : List Frame) (Qc : Array Value → State → Outcome → State → Prop) (XC : String → State → State → Prop) (a : Array Value) (s : State) (mc ms : Nat) (free : Addr → Prop) : State → Prop := fun t =>
  ∃ o, t.status = .running ∧ Ended t below o ∧ vx_Q Qc XC mc ms free a s o t
theorem vx_ret {g : JFrame} {mc ms : Nat} (k : W p l e R s m args below meth c H locs cells slots (MQ below Qc args s mc ms free) g) : W p l e R s m args below meth c H locs cells slots (vx_MQ below Qc XC args s mc ms free) g := by
  intro T hT X
  obtain ⟨t, a1, o, b1, b2, b3, b4⟩ := k T hT X
  exact ⟨t, a1, o, b1, b2, Or.inl ⟨b3, b4⟩⟩
/-- not caught here: it goes on to the caller -/
theorem vx_widen {g : JFrame} {q : Addr} {k n : Nat} (h1 : cells ≤ k) (h2 : slots ≤ n) (kk : vx_W p l e R s m args below meth c H locs k n Q g q) : vx_W p l e R s m args below meth c H locs cells slots Q g q := fun T hT X => kk T hT (stand_widen X h1 h2)
theorem vx_out {pc : Nat} {E : String} {ce : Cell} {q : Addr} {mc ms : Nat} (hout : ∀ x ∈ c.exceptionTable.toList, covers x pc = false) (hlocks : meth.locks = false) (hcell : H[q]? = some ce) (hv : ce.vm = .none) (hcl : s.vm.findClass E = some ce.cls)
    (hx : ∀ t : State, t.heap = H → s.vm.Alike t.vm → XC E s t) (hf : ∀ z ∈ locs, free z.base) (hc : cells ≤ mc) (hs : slots ≤ ms) :
    vx_W p l e R s m args below meth c H locs cells slots (vx_MQ below Qc XC args s mc ms free) (F0 m pc ls rest) q := by
  intro T hT X
  obtain ⟨st1, hrun, hend, hW, hsm⟩ := X.leaveThrown q (g := F0 m pc ls rest) rfl rfl rfl hout hlocks
  have hcell9 : (T.setFrames (.throwing q :: below)).heap[q]? = some ce := by
    show T.heap[q]? = some ce
    rw [hT]; exact hcell
  exact ⟨_, st1, .threw q, hrun, hend, Or.inr ⟨q, rfl, E, ce, locs, hx _ hT hW.alike, hcell9, hv, hcl, hW, hsm.mono hc hs, hf⟩⟩
theorem vx_frame {U : State} {k n : Nat} (h : s.sameButNew ({ U with vm := s.vm } : State) locs k n) : s.heap.size ≤ U.heap.size ∧ ∀ q : Nat, q < s.heap.size → (∀ z ∈ locs, z.base ≠ q) → U.heap[q]? = s.heap[q]? := by
  obtain ⟨-, h2, -, -, -, h6⟩ := h
  refine ⟨h2, fun q hq hz => ?_⟩
  obtain ⟨c9, e1, e2, e3, e4⟩ := h6 q _ (Array.getElem?_eq_getElem hq)
  have hs : c9.slots = (s.heap[q]).slots := Array.ext_getElem? fun i => e4 i fun hm => hz _ hm rfl
  have h9 : c9 = s.heap[q] := by
    rw [hs] at e2
    exact e2
  have e5 : U.heap[q]? = some c9 := e1
  rw [e5, h9, Array.getElem?_eq_getElem hq]
/-- the words of a throw but the four that speak of the heap -/
def vx_no (w : Cond) : Bool := decide (w ≠ .isRef (.static Bundle.tN "UNASSIGNED_STACK" Bundle.steD)) && decide (w ≠ .isRef (.static Bundle.tN "SUPPRESSED_SENTINEL" Bundle.listD)) && decide (w ≠ .laysStatic Bundle.tN "UNASSIGNED_STACK" Bundle.steD) && decide (w ≠ .laysStatic Bundle.tN "SUPPRESSED_SENTINEL" Bundle.listD)
def vx_at0 (own : String) (ic : Nat) (X : String) (names : List String) : List Cond := (Bundle.ownAtoms0 own ic X names).filter vx_no
def vx_atS (own : String) (ic : Nat) (X : String) (names : List String) : List Cond := (Bundle.ownAtoms own ic X names).filter vx_no
/-- a word that the tables alone decide, or a good one -/
def vx_ot (w : Cond) : Bool := w.onTables || goodWord w
theorem vx_ot_at {args a' : Array Value} {s U : State} {w : Cond} (hW : s.WarmedH U.vm) (hvm : s.vm = U.vm) (hg : vx_ot w = true) (h : w.before args s = true) : w.before a' U = true := by
  simp only [vx_ot, Bool.or_eq_true] at hg
  rcases hg with hg | hg
  · exact va_tabs hg hvm h
  · exact word_at hW (good_of_word hg) h
/-- a list's words: the good ones out of the method's own list, the others by premises of their own -/
theorem vx_hat {args : Array Value} {s : State} {L B : List Cond} (h1 : ∀ w ∈ L.filter goodWord, w.before args s = true) (h2 : ∀ w ∈ L.filter (fun w => !goodWord w), w ∈ B) (h3 : ∀ w ∈ B, w.before args s = true) : ∀ w ∈ L, w.before args s = true := by
  intro w hw
  by_cases g : goodWord w = true
  · exact h1 w (List.mem_filter.mpr ⟨hw, g⟩)
  · refine h3 w (h2 w (List.mem_filter.mpr ⟨hw, ?_⟩))
    show (!goodWord w) = true
    cases hgw : goodWord w
    · rfl
    · exact absurd hgw g
theorem vx_c {args : Array Value} {s : State} {w : Cond} {B : List Cond} (h : w.before args s = true) (t : ∀ w ∈ B, w.before args s = true) : ∀ w' ∈ w :: B, w'.before args s = true := fun w' h' => (List.mem_cons.mp h').elim (fun e => by rw [e]; exact h) (t w')
theorem vx_n {args : Array Value} {s : State} : ∀ w ∈ ([] : List Cond), w.before args s = true := fun _ h => nomatch h
theorem vx_own {args : Array Value} {s : State} {L : List Cond} (h1 : ∀ w ∈ L.filter vx_no, w.before args s = true)
    (hU : (Cond.isRef (.static Bundle.tN "UNASSIGNED_STACK" Bundle.steD)).before args s = true) (hN : (Cond.isRef (.static Bundle.tN "SUPPRESSED_SENTINEL" Bundle.listD)).before args s = true)
    (lU : (Cond.laysStatic Bundle.tN "UNASSIGNED_STACK" Bundle.steD).before args s = true) (lN : (Cond.laysStatic Bundle.tN "SUPPRESSED_SENTINEL" Bundle.listD).before args s = true) : ∀ w ∈ L, w.before args s = true := by
  intro w hw
  by_cases e1 : w = .isRef (.static Bundle.tN "UNASSIGNED_STACK" Bundle.steD)
  · rw [e1]; exact hU
  · by_cases e2 : w = .isRef (.static Bundle.tN "SUPPRESSED_SENTINEL" Bundle.listD)
    · rw [e2]; exact hN
    · by_cases e3 : w = .laysStatic Bundle.tN "UNASSIGNED_STACK" Bundle.steD
      · rw [e3]; exact lU
      · by_cases e4 : w = .laysStatic Bundle.tN "SUPPRESSED_SENTINEL" Bundle.listD
        · rw [e4]; exact lN
        · exact h1 w (List.mem_filter.mpr ⟨hw, by unfold vx_no; rw [decide_eq_true e1, decide_eq_true e2, decide_eq_true e3, decide_eq_true e4]; rfl⟩)
/-- where a static field lies, its class's statics cell in H -/
def vx_L (C n d : String) (A : Nat → Prop) (U : State) (H : Heap) : Prop := ∃ (c : ClassId) (k : Class) (i : Nat) (f : Field) (a : Nat) (cell : Cell), U.vm.findClass C = some c ∧ U.fieldFound? C n d = some (c, k, i, f) ∧ f.isStatic = true ∧ k.statics = some a ∧ H[a]? = some cell ∧ cell.vm.isStatics = true ∧ cell.cls = c ∧ f.slot < cell.slots.size ∧ k.staticTypes[f.slot]? = some f.type ∧ ¬ A a
theorem vx_L.moved {C n d : String} {A : Nat → Prop} {u U : State} {H : Heap} (hvm : u.vm.Alike U.vm) (h : vx_L C n d A u H) : vx_L C n d A U H := by
  obtain ⟨c, k, i, f, a, cell, h1, h2, h3, h4, h5, h6, h7, h8, h9, h10⟩ := h
  obtain ⟨k', hi', he⟩ := State.fieldFound?_setVm hvm h2
  exact ⟨c, k', i, f, a, cell, by rw [hvm.findClass]; exact h1, hi', h3, by rw [he]; exact h4, h5, h6, h7, h8, by rw [he]; exact h9, h10⟩
theorem vx_L.kept {C n d : String} {A : Nat → Prop} {U : State} {H H1 : Heap} (h : vx_L C n d A U H) (hq : ∀ a : Nat, a < H.size → ¬ A a → H1[a]? = H[a]?) : vx_L C n d A U H1 := by
  obtain ⟨c, k, i, f, a, cell, h1, h2, h3, h4, h5, h6, h7, h8, h9, h10⟩ := h
  exact ⟨c, k, i, f, a, cell, h1, h2, h3, h4, by rw [hq a (Array.getElem?_eq_some_iff.mp h5).1 h10]; exact h5, h6, h7, h8, h9, h10⟩
theorem vx_L.narrow {C n d : String} {A B : Nat → Prop} {U : State} {H : Heap} (h : vx_L C n d A U H) (hAB : ∀ q, B q → A q) : vx_L C n d B U H := by
  obtain ⟨c, k, i, f, a, cell, h1, h2, h3, h4, h5, h6, h7, h8, h9, h10⟩ := h
  exact ⟨c, k, i, f, a, cell, h1, h2, h3, h4, h5, h6, h7, h8, h9, fun z => h10 (hAB _ z)⟩
theorem vx_L.word {C n d : String} {A : Nat → Prop} {s : State} {args : Array Value} (h : vx_L C n d A s s.heap) : (Cond.laysStatic C n d).before args s = true := by
  obtain ⟨c, k, i, f, a, cell, h1, h2, h3, h4, h5, h6, h7, h8, h9, -⟩ := h
  show (Cond.laysStatic C n d).holds args s none s [] = true
  exact Cond.laysStatic_of h1 h2 h3 h4 h5 h6 h7 h8 h9
/-- .. and what it holds: null or some reference -/
def vx_Zq (C n d : String) (A : Nat → Prop) (U : State) (H : Heap) : Prop := va_Zq C n d A U H ∧ vx_L C n d A U H
theorem vx_Zq.moved {C n d : String} {A : Nat → Prop} {u U : State} {H : Heap} (hvm : u.vm.Alike U.vm) (h : vx_Zq C n d A u H) : vx_Zq C n d A U H := ⟨va_Zq.moved hvm h.1, vx_L.moved hvm h.2⟩
theorem vx_Zq.kept {C n d : String} {A : Nat → Prop} {U : State} {H H1 : Heap} (h : vx_Zq C n d A U H) (hq : ∀ a : Nat, a < H.size → ¬ A a → H1[a]? = H[a]?) : vx_Zq C n d A U H1 := ⟨va_Zq.kept h.1 hq, vx_L.kept h.2 hq⟩
theorem vx_Zq.narrow {C n d : String} {A B : Nat → Prop} {U : State} {H : Heap} (h : vx_Zq C n d A U H) (hAB : ∀ q, B q → A q) : vx_Zq C n d B U H := ⟨va_Zq.narrow h.1 hAB, vx_L.narrow h.2 hAB⟩
theorem vx_Zqof {args : Array Value} {s : State} {C n d : String} {A : Nat → Prop} (hl : (Cond.laysStatic C n d).before args s = true) (hini : (Cond.initialized C).before args s = true) (h : (Cond.isRef (.static C n d)).before args s = true) (hA : ∀ a : Nat, a < s.heap.size → ¬ A a) : vx_Zq C n d A s s.heap := by
  refine ⟨va_Zqof hl hini h hA, ?_⟩
  obtain ⟨c, k, i, f, a, cell, h1, h2, h3, h4, h5, h6, h7, h8, h9⟩ := Cond.laysStatic_spec hl
  exact ⟨c, k, i, f, a, cell, h1, h2, h3, h4, h5, h6, h7, h8, h9, hA a (Array.getElem?_eq_some_iff.mp h5).1⟩
theorem vx_isRef {C n d : String} {v : Value} {A : Nat → Prop} {s : State} {args : Array Value} (h : va_Z C n d v A s s.heap) (hv : v.isRef = true) : (Cond.isRef (.static C n d)).before args s = true := by
  obtain ⟨cf, kf, fi, f, a, cell, h1, h2, h3, h4, h5, h6, h7, -⟩ := h
  have he : (Term.static C n d).eval args s none [] s = some v := by
    simp [Term.eval, State.fieldNamed?, h1, h2, h4, h5, h6, h7]
  simp only [Cond.before, Cond.holds, Cond.value, he]
  cases v <;> simp_all [Value.isRef]
theorem vx_isRefq {C n d : String} {A : Nat → Prop} {s : State} {args : Array Value} (h : va_Zq C n d A s s.heap) : (Cond.isRef (.static C n d)).before args s = true := by
  rcases h with h | ⟨t, h⟩
  · exact vx_isRef h rfl
  · exact vx_isRef h rfl
/-- the same frame, seen from here: as if the method were called anew in this heap -/
theorem vx_rebase {T : State} (X : Stand p l e R s m args below meth c T locs cells slots) {R' : Room} (hf : R'.frames ≤ R.frames) (hl : R'.locals ≤ R.locals) (hc : cells + R'.cells ≤ R.cells) (hs : slots + R'.slots ≤ R.slots) :
    Stand p l e R' ((T.setVm s.vm).setFrames (.invoking m args :: below)) m args below meth c T [] 0 0 := by
  have htop : (T.setVm s.vm).topJava?.isSome := X.here.top
  have hF : ((T.setVm s.vm).setFrames (.invoking m args :: below)).frames = .invoking m args :: below := State.frames_setFrames _ (State.cur_lt_of_top htop)
  obtain ⟨g₀, hg0⟩ := Option.isSome_iff_exists.mp htop
  obtain ⟨r, hr⟩ := State.topJava?_eq_some.mp hg0
  have hl9 : e.platform.stackLimits (T.setVm s.vm).me = e.platform.stackLimits s.me := X.limits
  have hb9 : (T.setVm s.vm).me.stackBytes = s.me.stackBytes := X.bytes
  refine ⟨X.admits, X.cas, X.clock, hF, ?_, X.hears, X.method, X.code, X.here, X.tail, X.warmed, ?_, ?_, ?_⟩
  · have h := X.room
    have hU : ((T.setVm s.vm).setFrames (.invoking m args :: below)).localsInUse = s.localsInUse := by
      rw [State.localsInUse_invoking hF (meth := meth) (c := c) X.method X.code, State.localsInUse_invoking X.frames X.method X.code]
    simp only [State.hasRoom, Bool.and_eq_true, decide_eq_true_eq] at h ⊢
    obtain ⟨⟨⟨⟨h1, h2, h3, h4, h5, h6⟩, h7⟩, h8⟩, h9⟩ := h
    rw [X.frames, List.length_cons] at h2 h3
    have q1 := X.heapSize
    have q2 := X.used
    simp only [hF, hU, List.length_cons, State.stackLimits_setFrames, State.stackBytes_setFrames, hl9, hb9]
    refine ⟨⟨⟨⟨by omega, by omega, by omega, by omega, by omega, h6⟩, ?_⟩, ?_⟩, X.book⟩
    · show T.heap.size + R'.cells ≤ e.platform.maxCells
      omega
    · show T.slotsUsed + R'.slots ≤ e.platform.maxSlots
      omega
  · rw [State.stackLimits_setFrames]; rfl
  · rw [State.stackBytes_setFrames]; rfl
  · refine ⟨?_, Nat.le_refl _, Nat.le_refl _, ?_, ?_, fun a c9 h9 => ⟨c9, h9, rfl, rfl, fun _ _ => rfl⟩⟩
    · obtain ⟨t, ht, -⟩ := State.frames_cons hr
      show T.setVm s.vm = { ((T.setVm s.vm).setFrames (.invoking m args :: below)).setFrames (T.setVm s.vm).frames with heap := T.heap, slotsUsed := T.slotsUsed }
      rw [State.setFrames_setFrames, State.setFrames_self ht]
      rfl
    · show T.slotsUsed = T.slotsUsed + ((T.heap.toList.drop T.heap.size).map (·.slots.size)).sum
      rw [List.drop_eq_nil_of_le (Nat.le_of_eq Array.length_toList)]
      rfl
    · show ((T.heap.toList.drop T.heap.size).map (·.slots.size)).sum ≤ 0
      rw [List.drop_eq_nil_of_le (Nat.le_of_eq Array.length_toList)]
      exact Nat.le_refl _
/-- 'throw new E()': new; dup; invokespecial; athrow -/
theorem vx_throw0 {cc : ByteArray} {pc : Nat} (hexec : p.tables.exec = Jvm.exec) (hb : c.code = cc) (hl : l.stackTraces = false) {own cls : String} {names : List String} {ik ic mc ms : Nat} {A : Nat → Prop}
    (hown : s.vm.findClass own = some m.cls) (hcls : Bundle.fit cls = true) (hnames : ∀ n ∈ names, Bundle.fit n = true)
    (hk : (Cond.classLink own ik cls).before args s = true) (hini : (Cond.initialized cls).before args s = true) (hat : ∀ w ∈ vx_at0 own ic cls names, w.before args s = true)
    (hgood : ∀ w ∈ Cond.classLink own ik cls :: Cond.initialized cls :: vx_at0 own ic cls names, vx_ot w = true)
    (hU : vx_Zq Bundle.tN "UNASSIGNED_STACK" Bundle.steD A s s.heap) (hN : vx_Zq Bundle.tN "SUPPRESSED_SENTINEL" Bundle.listD A s s.heap) (hS : va_S A s.heap H locs) (hsize : ls.size = c.maxLocals)
    (d0 : decode cc pc = .ok (.new ik, 3)) (d3 : decode cc (pc + 3) = .ok (.dup, 1)) (d4 : decode cc (pc + 4) = .ok (.invokespecial ic, 3)) (d7 : decode cc (pc + 7) = .ok (.athrow, 1))
    (hout : ∀ x ∈ c.exceptionTable.toList, covers x (pc + 7) = false)
    (hRframes : names.length + 3 < R.frames) (hRlocals : (rest.map fun v => v.category).sum + (13 * (names.length + 1) + 42) ≤ R.locals) (hRcells : cells + 1 ≤ R.cells) (hRslots : slots + 6 ≤ R.slots) (hlocks : meth.locks = false)
    (hx : ∀ t : State, s.vm.Alike t.vm → H.size ≤ t.heap.size → (∀ q : Nat, q < H.size → t.heap[q]? = H[q]?) → XC cls s t)
    (hf : ∀ z ∈ locs, free z.base) (hc : cells + 1 ≤ mc) (hs : slots + 6 ≤ ms) :
    W p l e R s m args below meth c H locs cells slots (vx_MQ below Qc XC args s mc ms free) (F0 m pc ls rest) := by
  intro T hT X
  have htr : e.platform.stackTraces = false := (show e.platform.stackTraces = l.stackTraces by rw [X.admits.platform]).trans hl
  have Y := vx_rebase X (R' := { frames := R.frames, locals := R.locals, cells := 1, slots := 6 }) (Nat.le_refl _) (Nat.le_refl _) hRcells hRslots
  obtain ⟨s', hA⟩ : ∃ z, z = (T.setVm s.vm).setFrames (.invoking m args :: below) := ⟨_, rfl⟩
  rw [← hA] at Y
  have hvm : s'.vm = s.vm := by rw [hA]; rfl
  have hhp : s'.heap = H := by rw [hA]; exact hT
  have hW0 : s.WarmedH s'.vm := by rw [hvm]; exact State.WarmedH.refl s
  have hat' : ∀ w ∈ vx_at0 own ic cls names, w.before args s' = true := fun w hw => vx_ot_at hW0 hvm.symm (hgood w (List.mem_cons_of_mem _ (List.mem_cons_of_mem _ hw))) (hat w hw)
  have hk' : (Cond.classLink own ik cls).before args s' = true := vx_ot_at hW0 hvm.symm (hgood _ List.mem_cons_self) hk
  have hini' : (Cond.initialized cls).before args s' = true := vx_ot_at hW0 hvm.symm (hgood _ (List.mem_cons_of_mem _ List.mem_cons_self)) hini
  have hU' : vx_Zq Bundle.tN "UNASSIGNED_STACK" Bundle.steD A s' s'.heap := by rw [hhp]; exact vx_Zq.moved hW0.alike (hU.kept hS.2.1)
  have hN' : vx_Zq Bundle.tN "SUPPRESSED_SENTINEL" Bundle.listD A s' s'.heap := by rw [hhp]; exact vx_Zq.moved hW0.alike (hN.kept hS.2.1)
  have h : ∀ w ∈ Bundle.ownAtoms0 own ic cls names, w.before args s' = true := vx_own hat' (vx_isRefq hU'.1) (vx_isRefq hN'.1) hU'.2.word hN'.2.word
  have hown' : s'.vm.findClass own = some m.cls := by rw [hvm]; exact hown
  have hins : (Cond.instantiable cls 6).before args s' = true := h _ (by simp [Bundle.ownAtoms0])
  obtain ⟨vm₁, cX, kX, hfX, hkX, -, -, X₁, st1⟩ := Y.newCold hexec (own := own) (C := cls) (index := ik) (n := 6) hown' hk' hins hini'
    (g := F0 m pc ls rest) rfl (by rw [hb]; exact d0) (Nat.le_refl _) (Nat.le_refl _)
  generalize hT1 : (T.setVm vm₁).pushCell { cls := cX, slots := kX.instanceTypes.map defaultValue, vm := .none } = T1 at X₁ st1
  have hcat : (Value.ref T.heap.size).category = 1 := rfl
  have hcellA : T1.heap[T.heap.size]? = some (freshCell cX kX) := by rw [← hT1]; exact State.heap_pushCell_size _ _
  have d3' : decode c.code (pc + 3) = .ok (.dup, 1) := by rw [hb]; exact d3
  obtain ⟨U, hsteps, hrun, hend, hW, hsame, ce, hce, hO⟩ := X₁.ctorThrow0 hexec htr (own := own) (cls := cls) (names := names) (ic := ic) hown' hcls hnames h (fun x hx => nomatch hx) hfX hkX hcellA (by rw [hhp, hT]; exact Nat.le_refl _)
    (g := { method := m, pc := pc + 4, locals := ls, stack := .ref T.heap.size :: .ref T.heap.size :: rest, locked := none }) rfl hsize rfl rfl (rest := rest) rfl
    (by rw [hb]; exact d4) (by rw [hb]; exact d7) hout hRframes (by simp only [List.map_cons, List.sum_cons, hcat]; omega) hlocks
  obtain ⟨f1, f2⟩ := vx_frame hsame
  rw [hhp] at f1 f2
  have hWs : s.WarmedH U.vm := State.WarmedH.trans hW0 hW
  have hcl : s.vm.findClass cls = some ce.cls := by
    have h9 := hO.cls
    rw [hvm] at h9
    exact h9
  have hall : s.sameButNew ({ U with vm := s.vm } : State) locs mc ms := by
    subst hA
    obtain ⟨e1, e2⟩ := hsame
    rw [State.setFrames_setFrames] at e1
    have h2 : (T.setVm s.vm).sameButNew ({ U with vm := s.vm } : State) [] (0 + 1) (0 + 6) := ⟨e1, e2⟩
    have h3 := X.same.trans h2
    rw [List.append_nil] at h3
    exact h3.mono hc hs
  refine ⟨U, ?_, .threw T.heap.size, hrun, hend, Or.inr ⟨T.heap.size, rfl, cls, ce, locs, hx U hWs.alike f1 (fun q hq => f2 q hq (fun z hz => nomatch hz)), hce, hO.vm, hcl, hWs, hall, hf⟩⟩
  refine st1 _ ?_
  show Steps p.tables e below (T1.setTop { method := m, pc := pc + 3, locals := ls, stack := .ref T.heap.size :: rest, locked := none }) _
  jvm_step X₁.here [X₁.here.top, hexec, d3', Value.category]
  exact hsteps
/-- 'throw new E("text")': new; dup; ldc; invokespecial; athrow -/
theorem vx_throwS {cc : ByteArray} {pc : Nat} (hexec : p.tables.exec = Jvm.exec) (hb : c.code = cc) (hl : l.stackTraces = false) {own cls text : String} {names : List String} {ik is ic mc ms sa : Nat} {A : Nat → Prop}
    (hown : s.vm.findClass own = some m.cls) (hcls : Bundle.fit cls = true) (hnames : ∀ n ∈ names, Bundle.fit n = true)
    (hk : (Cond.classLink own ik cls).before args s = true) (hini : (Cond.initialized cls).before args s = true) (hstr : vk_R own is text sa s) (hat : ∀ w ∈ vx_atS own ic cls names, w.before args s = true)
    (hgood : ∀ w ∈ Cond.classLink own ik cls :: Cond.initialized cls :: vx_atS own ic cls names, vx_ot w = true)
    (hU : vx_Zq Bundle.tN "UNASSIGNED_STACK" Bundle.steD A s s.heap) (hN : vx_Zq Bundle.tN "SUPPRESSED_SENTINEL" Bundle.listD A s s.heap) (hS : va_S A s.heap H locs) (hsize : ls.size = c.maxLocals)
    (d0 : decode cc pc = .ok (.new ik, 3)) (d3 : decode cc (pc + 3) = .ok (.dup, 1)) (d4 : decode cc (pc + 4) = .ok (.ldc is, 2)) (d6 : decode cc (pc + 6) = .ok (.invokespecial ic, 3)) (d9 : decode cc (pc + 9) = .ok (.athrow, 1))
    (hout : ∀ x ∈ c.exceptionTable.toList, covers x (pc + 9) = false)
    (hRframes : names.length + 3 < R.frames) (hRlocals : (rest.map fun v => v.category).sum + (13 * (names.length + 1) + 43) ≤ R.locals) (hRcells : cells + 1 ≤ R.cells) (hRslots : slots + 6 ≤ R.slots) (hlocks : meth.locks = false)
    (hx : ∀ t : State, s.vm.Alike t.vm → H.size ≤ t.heap.size → (∀ q : Nat, q < H.size → t.heap[q]? = H[q]?) → XC cls s t)
    (hf : ∀ z ∈ locs, free z.base) (hc : cells + 1 ≤ mc) (hs : slots + 6 ≤ ms) :
    W p l e R s m args below meth c H locs cells slots (vx_MQ below Qc XC args s mc ms free) (F0 m pc ls rest) := by
  intro T hT X
  have htr : e.platform.stackTraces = false := (show e.platform.stackTraces = l.stackTraces by rw [X.admits.platform]).trans hl
  have Y := vx_rebase X (R' := { frames := R.frames, locals := R.locals, cells := 1, slots := 6 }) (Nat.le_refl _) (Nat.le_refl _) hRcells hRslots
  obtain ⟨s', hA⟩ : ∃ z, z = (T.setVm s.vm).setFrames (.invoking m args :: below) := ⟨_, rfl⟩
  rw [← hA] at Y
  have hvm : s'.vm = s.vm := by rw [hA]; rfl
  have hhp : s'.heap = H := by rw [hA]; exact hT
  have hW0 : s.WarmedH s'.vm := by rw [hvm]; exact State.WarmedH.refl s
  have hat' : ∀ w ∈ vx_atS own ic cls names, w.before args s' = true := fun w hw => vx_ot_at hW0 hvm.symm (hgood w (List.mem_cons_of_mem _ (List.mem_cons_of_mem _ hw))) (hat w hw)
  have hk' : (Cond.classLink own ik cls).before args s' = true := vx_ot_at hW0 hvm.symm (hgood _ List.mem_cons_self) hk
  have hini' : (Cond.initialized cls).before args s' = true := vx_ot_at hW0 hvm.symm (hgood _ (List.mem_cons_of_mem _ List.mem_cons_self)) hini
  have hU' : vx_Zq Bundle.tN "UNASSIGNED_STACK" Bundle.steD A s' s'.heap := by rw [hhp]; exact vx_Zq.moved hW0.alike (hU.kept hS.2.1)
  have hN' : vx_Zq Bundle.tN "SUPPRESSED_SENTINEL" Bundle.listD A s' s'.heap := by rw [hhp]; exact vx_Zq.moved hW0.alike (hN.kept hS.2.1)
  have h : ∀ w ∈ Bundle.ownAtoms own ic cls names, w.before args s' = true := vx_own hat' (vx_isRefq hU'.1) (vx_isRefq hN'.1) hU'.2.word hN'.2.word
  have hown' : s'.vm.findClass own = some m.cls := by rw [hvm]; exact hown
  have hins : (Cond.instantiable cls 6).before args s' = true := h _ (by simp [Bundle.ownAtoms])
  obtain ⟨vm₁, cX, kX, hfX, hkX, -, -, X₁, st1⟩ := Y.newCold hexec (own := own) (C := cls) (index := ik) (n := 6) hown' hk' hins hini'
    (g := F0 m pc ls rest) rfl (by rw [hb]; exact d0) (Nat.le_refl _) (Nat.le_refl _)
  generalize hT1 : (T.setVm vm₁).pushCell { cls := cX, slots := kX.instanceTypes.map defaultValue, vm := .none } = T1 at X₁ st1
  have hcat : (Value.ref T.heap.size).category = 1 := rfl
  have hcellA : T1.heap[T.heap.size]? = some (freshCell cX kX) := by rw [← hT1]; exact State.heap_pushCell_size _ _
  have d3' : decode c.code (pc + 3) = .ok (.dup, 1) := by rw [hb]; exact d3
  have d4' : decode c.code (pc + 4) = .ok (.ldc is, 2) := by rw [hb]; exact d4
  have hstr' : vk_R own is text sa s' := vk_R.warm hW0 hstr
  obtain ⟨U, hsteps, hrun, hend, hW, hsame, ce, hce, hO⟩ := X₁.ctorThrowS hexec htr (own := own) (cls := cls) (names := names) (ic := ic) hown' hcls hnames h (fun x hx => nomatch hx) hfX hkX hcellA (by rw [hhp, hT]; exact Nat.le_refl _) (msg := .ref sa) rfl
    (g := { method := m, pc := pc + 6, locals := ls, stack := .ref sa :: .ref T.heap.size :: .ref T.heap.size :: rest, locked := none }) rfl hsize rfl rfl (rest := rest) rfl
    (by rw [hb]; exact d6) (by rw [hb]; exact d9) hout hRframes (by simp only [List.map_cons, List.sum_cons, hcat]; omega) hlocks
  obtain ⟨f1, f2⟩ := vx_frame hsame
  rw [hhp] at f1 f2
  have hWs : s.WarmedH U.vm := State.WarmedH.trans hW0 hW
  have hcl : s.vm.findClass cls = some ce.cls := by
    have h9 := hO.cls
    rw [hvm] at h9
    exact h9
  have hall : s.sameButNew ({ U with vm := s.vm } : State) locs mc ms := by
    subst hA
    obtain ⟨e1, e2⟩ := hsame
    rw [State.setFrames_setFrames] at e1
    have h2 : (T.setVm s.vm).sameButNew ({ U with vm := s.vm } : State) [] (0 + 1) (0 + 6) := ⟨e1, e2⟩
    have h3 := X.same.trans h2
    rw [List.append_nil] at h3
    exact h3.mono hc hs
  refine ⟨U, ?_, .threw T.heap.size, hrun, hend, Or.inr ⟨T.heap.size, rfl, cls, ce, locs, hx U hWs.alike f1 (fun q hq => f2 q hq (fun z hz => nomatch hz)), hce, hO.vm, hcl, hWs, hall, hf⟩⟩
  refine st1 _ ?_
  show Steps p.tables e below (T1.setTop { method := m, pc := pc + 3, locals := ls, stack := .ref T.heap.size :: rest, locked := none }) _
  jvm_step X₁.here [X₁.here.top, hexec, d3', Value.category]
  exact X₁.ldcString hexec (own := own) (text := text) (index := is) (a := sa) hown' hstr'.1 hstr'.2
    (g := { method := m, pc := pc + 4, locals := ls, stack := .ref T.heap.size :: .ref T.heap.size :: rest, locked := none }) rfl d4' _ hsteps
/-- 'throw new E("text")', the text by a wide index -/
theorem vx_throwSW {cc : ByteArray} {pc : Nat} (hexec : p.tables.exec = Jvm.exec) (hb : c.code = cc) (hl : l.stackTraces = false) {own cls text : String} {names : List String} {ik is ic mc ms sa : Nat} {A : Nat → Prop}
    (hown : s.vm.findClass own = some m.cls) (hcls : Bundle.fit cls = true) (hnames : ∀ n ∈ names, Bundle.fit n = true)
    (hk : (Cond.classLink own ik cls).before args s = true) (hini : (Cond.initialized cls).before args s = true) (hstr : vk_R own is text sa s) (hat : ∀ w ∈ vx_atS own ic cls names, w.before args s = true)
    (hgood : ∀ w ∈ Cond.classLink own ik cls :: Cond.initialized cls :: vx_atS own ic cls names, vx_ot w = true)
    (hU : vx_Zq Bundle.tN "UNASSIGNED_STACK" Bundle.steD A s s.heap) (hN : vx_Zq Bundle.tN "SUPPRESSED_SENTINEL" Bundle.listD A s s.heap) (hS : va_S A s.heap H locs) (hsize : ls.size = c.maxLocals)
    (d0 : decode cc pc = .ok (.new ik, 3)) (d3 : decode cc (pc + 3) = .ok (.dup, 1)) (d4 : decode cc (pc + 4) = .ok (.ldc_w is, 3)) (d7 : decode cc (pc + 7) = .ok (.invokespecial ic, 3)) (d10 : decode cc (pc + 10) = .ok (.athrow, 1))
    (hout : ∀ x ∈ c.exceptionTable.toList, covers x (pc + 10) = false)
    (hRframes : names.length + 3 < R.frames) (hRlocals : (rest.map fun v => v.category).sum + (13 * (names.length + 1) + 43) ≤ R.locals) (hRcells : cells + 1 ≤ R.cells) (hRslots : slots + 6 ≤ R.slots) (hlocks : meth.locks = false)
    (hx : ∀ t : State, s.vm.Alike t.vm → H.size ≤ t.heap.size → (∀ q : Nat, q < H.size → t.heap[q]? = H[q]?) → XC cls s t)
    (hf : ∀ z ∈ locs, free z.base) (hc : cells + 1 ≤ mc) (hs : slots + 6 ≤ ms) :
    W p l e R s m args below meth c H locs cells slots (vx_MQ below Qc XC args s mc ms free) (F0 m pc ls rest) := by
  intro T hT X
  have htr : e.platform.stackTraces = false := (show e.platform.stackTraces = l.stackTraces by rw [X.admits.platform]).trans hl
  have Y := vx_rebase X (R' := { frames := R.frames, locals := R.locals, cells := 1, slots := 6 }) (Nat.le_refl _) (Nat.le_refl _) hRcells hRslots
  obtain ⟨s', hA⟩ : ∃ z, z = (T.setVm s.vm).setFrames (.invoking m args :: below) := ⟨_, rfl⟩
  rw [← hA] at Y
  have hvm : s'.vm = s.vm := by rw [hA]; rfl
  have hhp : s'.heap = H := by rw [hA]; exact hT
  have hW0 : s.WarmedH s'.vm := by rw [hvm]; exact State.WarmedH.refl s
  have hat' : ∀ w ∈ vx_atS own ic cls names, w.before args s' = true := fun w hw => vx_ot_at hW0 hvm.symm (hgood w (List.mem_cons_of_mem _ (List.mem_cons_of_mem _ hw))) (hat w hw)
  have hk' : (Cond.classLink own ik cls).before args s' = true := vx_ot_at hW0 hvm.symm (hgood _ List.mem_cons_self) hk
  have hini' : (Cond.initialized cls).before args s' = true := vx_ot_at hW0 hvm.symm (hgood _ (List.mem_cons_of_mem _ List.mem_cons_self)) hini
  have hU' : vx_Zq Bundle.tN "UNASSIGNED_STACK" Bundle.steD A s' s'.heap := by rw [hhp]; exact vx_Zq.moved hW0.alike (hU.kept hS.2.1)
  have hN' : vx_Zq Bundle.tN "SUPPRESSED_SENTINEL" Bundle.listD A s' s'.heap := by rw [hhp]; exact vx_Zq.moved hW0.alike (hN.kept hS.2.1)
  have h : ∀ w ∈ Bundle.ownAtoms own ic cls names, w.before args s' = true := vx_own hat' (vx_isRefq hU'.1) (vx_isRefq hN'.1) hU'.2.word hN'.2.word
  have hown' : s'.vm.findClass own = some m.cls := by rw [hvm]; exact hown
  have hins : (Cond.instantiable cls 6).before args s' = true := h _ (by simp [Bundle.ownAtoms])
  obtain ⟨vm₁, cX, kX, hfX, hkX, -, -, X₁, st1⟩ := Y.newCold hexec (own := own) (C := cls) (index := ik) (n := 6) hown' hk' hins hini'
    (g := F0 m pc ls rest) rfl (by rw [hb]; exact d0) (Nat.le_refl _) (Nat.le_refl _)
  generalize hT1 : (T.setVm vm₁).pushCell { cls := cX, slots := kX.instanceTypes.map defaultValue, vm := .none } = T1 at X₁ st1
  have hcat : (Value.ref T.heap.size).category = 1 := rfl
  have hcellA : T1.heap[T.heap.size]? = some (freshCell cX kX) := by rw [← hT1]; exact State.heap_pushCell_size _ _
  have d3' : decode c.code (pc + 3) = .ok (.dup, 1) := by rw [hb]; exact d3
  have d4' : decode c.code (pc + 4) = .ok (.ldc_w is, 3) := by rw [hb]; exact d4
  have hstr' : vk_R own is text sa s' := vk_R.warm hW0 hstr
  obtain ⟨U, hsteps, hrun, hend, hW, hsame, ce, hce, hO⟩ := X₁.ctorThrowS hexec htr (own := own) (cls := cls) (names := names) (ic := ic) hown' hcls hnames h (fun x hx => nomatch hx) hfX hkX hcellA (by rw [hhp, hT]; exact Nat.le_refl _) (msg := .ref sa) rfl
    (g := { method := m, pc := pc + 7, locals := ls, stack := .ref sa :: .ref T.heap.size :: .ref T.heap.size :: rest, locked := none }) rfl hsize rfl rfl (rest := rest) rfl
    (by rw [hb]; exact d7) (by rw [hb]; exact d10) hout hRframes (by simp only [List.map_cons, List.sum_cons, hcat]; omega) hlocks
  obtain ⟨f1, f2⟩ := vx_frame hsame
  rw [hhp] at f1 f2
  have hWs : s.WarmedH U.vm := State.WarmedH.trans hW0 hW
  have hcl : s.vm.findClass cls = some ce.cls := by
    have h9 := hO.cls
    rw [hvm] at h9
    exact h9
  have hall : s.sameButNew ({ U with vm := s.vm } : State) locs mc ms := by
    subst hA
    obtain ⟨e1, e2⟩ := hsame
    rw [State.setFrames_setFrames] at e1
    have h2 : (T.setVm s.vm).sameButNew ({ U with vm := s.vm } : State) [] (0 + 1) (0 + 6) := ⟨e1, e2⟩
    have h3 := X.same.trans h2
    rw [List.append_nil] at h3
    exact h3.mono hc hs
  refine ⟨U, ?_, .threw T.heap.size, hrun, hend, Or.inr ⟨T.heap.size, rfl, cls, ce, locs, hx U hWs.alike f1 (fun q hq => f2 q hq (fun z hz => nomatch hz)), hce, hO.vm, hcl, hWs, hall, hf⟩⟩
  refine st1 _ ?_
  show Steps p.tables e below (T1.setTop { method := m, pc := pc + 3, locals := ls, stack := .ref T.heap.size :: rest, locked := none }) _
  jvm_step X₁.here [X₁.here.top, hexec, d3', Value.category]
  exact X₁.ldcStringW hexec (own := own) (text := text) (index := is) (a := sa) hown' hstr'.1 hstr'.2
    (g := { method := m, pc := pc + 4, locals := ls, stack := .ref T.heap.size :: .ref T.heap.size :: rest, locked := none }) rfl d4' _ hsteps
end Ends
section Bodies
variable {l : Launch}
theorem vx_ofW {y : MethodName} {ws ws' : List Cond} {rm : Room} {Pc : Array Value → State → Prop} {Qc : Array Value → State → Outcome → State → Prop} {XC : String → State → State → Prop} {mc ms : Nat} {free : Addr → Prop} {cc : ByteArray} {maxL : Nat} {ret : Option FieldType}
    (hy : plainName y.cls = true) (hw : ws = Cond.code y cc maxL ret :: ws')
    (body : ∀ p e s m args below meth c s₁, BodyLoose p l y (headSpec ws rm) cc maxL ret e s m args below meth c s₁ → c.maxLocals = maxL → (∀ x ∈ c.exceptionTable.toList, False) → Pc args s →
      W p l e (headSpec ws rm).room s m args below meth c s.heap [] 0 0 (vx_MQ below Qc XC args s mc ms free) (entryFrame m args maxL)) : vx_Met l y ws rm Pc Qc XC mc ms free := by
  refine MetFree.of_bodyS (code := cc) (maxLocals := maxL) (ret := ret) hy ?_ ?_
  · intro args s m h hn
    obtain ⟨meth, c, h1, h2, h3, h4, h5, h6, -, -⟩ := Cond.code_spec hn (atoms_spec (ws := ws) h _ (by rw [hw]; exact List.mem_cons_self))
    exact ⟨meth, c, h1, h2, h3, h4, h5, h6⟩
  · intro p e s m args below meth c s₁ B hml hP _
    have hh0 : s₁.heap = s.heap := by rw [B.state]; rfl
    have ht : ∀ x ∈ c.exceptionTable.toList, False := by
      obtain ⟨meth9, c9, h1, h2, -, -, -, -, h7, -⟩ := Cond.code_spec B.named (atoms_spec (ws := ws) B.pre _ (by rw [hw]; exact List.mem_cons_self))
      cases Option.some.inj (h1.symm.trans B.method)
      cases Option.some.inj (h2.symm.trans (Stand.of_body B).code)
      intro x hx
      rw [Array.isEmpty_iff.mp h7] at hx
      cases hx
    obtain ⟨t, a1, o, b1, b2, b3⟩ := body p e s m args below meth c s₁ B hml ht hP s₁ hh0 (Stand.of_body B)
    exact ⟨t, o, a1, b1, b2, b3⟩
/-- the table of a body with handlers -/
theorem vx_table {p : Program} {x y : MethodName} {S : Spec} {cc bytes : ByteArray} {maxL maxL' : Nat} {ret ret' : Option FieldType} {e : Env} {s s₁ : State} {m : MethodId} {args : Array Value} {below : List Frame} {meth : Method} {c : Code} {hh : List (Nat × Nat × Nat × Nat)}
    (B : BodyLoose p l y S cc maxL ret e s m args below meth c s₁) (h : (Cond.codeWith y bytes maxL' ret' hh).before args s = true) : c.exceptionTable.toList = tableOf hh := by
  obtain ⟨m9, meth9, c9, hn9, h1, h2, -, -, h6, -⟩ := Cond.codeWith_spec h
  cases Option.some.inj (hn9.symm.trans B.named)
  cases Option.some.inj (h1.symm.trans B.method)
  cases Option.some.inj (h2.symm.trans (Stand.of_body B).code)
  rw [← h6, table_eq]
end Bodies
end VXA
/-! ===== END ===== -/
/-! ===== BEGIN a static call of a method with an exception table ===== -/
section VXS
variable {p : Program} {l : Launch} {e : Env} {R : Room} {s : State} {m : MethodId} {args : Array Value} {below : List Frame} {meth : Method} {c : Code} {T : State} {H : Heap} {locs : List Loc} {cells slots : Nat}
abbrev vx_CSW (R : Room) (s : State) (args : Array Value) (own : String) (index : Nat) (y : MethodName) (bytes : ByteArray) (maxL : Nat) (ret : Option FieldType) (hh : List (Nat × Nat × Nat × Nat)) (ws : List Cond) (rm : Room) (mc ms n : Nat) : Prop :=
  (rm.cells = mc ∧ rm.slots = ms ∧ rm.frames + 1 ≤ R.frames ∧ 8 + (maxL + 11) + rm.locals ≤ R.locals ∧ (∀ w ∈ ws, ∀ (a' : Array Value) (U : State), s.WarmedH U.vm → w.before a' U = true) ∧ Cond.codeWith y bytes maxL ret hh ∈ ws) ∧
  (Cond.codeWith y bytes maxL ret hh).before args s = true ∧ (Cond.initialized y.cls).before args s = true ∧ (y.cls ≠ "java/lang/invoke/MethodHandle" ∧ y.cls ≠ "java/lang/invoke/VarHandle") ∧
  (∀ sig, parseMethodDescriptor y.desc = some sig → n = sig.parameters.length) ∧ (Cond.methodLink own index y).before args s = true ∧ (Cond.static y).before args s = true
theorem vx_cwSW {own : String} {index maxL mc ms : Nat} {y : MethodName} {bytes : ByteArray} {ret : Option FieldType} {hh : List (Nat × Nat × Nat × Nat)} {Ts ws ws' : List Cond} {rm : Room} (n : Nat) (ht : ∀ w ∈ Ts, w.before args s = true) (hT : GoodIn Ts (va_wsS own index y ws)) (hw : ws = Cond.codeWith y bytes maxL ret hh :: ws') (hrc : rm.cells = mc) (hrs : rm.slots = ms)
    (hd : y.cls ≠ "java/lang/invoke/MethodHandle" ∧ y.cls ≠ "java/lang/invoke/VarHandle" ∧ (parseMethodDescriptor y.desc).map (fun d => d.parameters.length) = some n) (hR : rm.frames + 1 ≤ R.frames ∧ 8 + (maxL + 11) + rm.locals ≤ R.locals) :
    vx_CSW R s args own index y bytes maxL ret hh ws rm mc ms n := by
  have ok : ∀ w ∈ va_wsS own index y ws, w.before args s = true := fun w h => ht w (hT w h).1
  have hG : GoodIn Ts ws := fun w h => hT w (by unfold va_wsS; exact List.mem_append_right _ h)
  have hc : Cond.codeWith y bytes maxL ret hh ∈ ws := by rw [hw]; exact List.mem_cons_self
  refine ⟨⟨hrc, hrs, hR.1, hR.2, pay_in ht hG, hc⟩, ht _ (hG _ hc).1, ok _ (by simp [va_wsS]), ⟨hd.1, hd.2.1⟩, fun sig h => ?_, ok _ (by simp [va_wsS]), ok _ (by simp [va_wsS])⟩
  have h2 := hd.2.2
  rw [h] at h2
  exact (Option.some.inj h2).symm
theorem vx_callSW (X : Stand p l e R s m args below meth c T locs cells slots) (hexec : p.tables.exec = Jvm.exec) {own : String} {index : Nat} {y : MethodName} {bytes : ByteArray} {maxL : Nat} {ret : Option FieldType} {hh : List (Nat × Nat × Nat × Nat)}
    (hown : s.vm.findClass own = some m.cls) (hlink : (Cond.methodLink own index y).before args s = true) (hstat : (Cond.static y).before args s = true) (hinit : (Cond.initialized y.cls).before args s = true)
    (hcode : (Cond.codeWith y bytes maxL ret hh).before args s = true) (hy : y.cls ≠ "java/lang/invoke/MethodHandle" ∧ y.cls ≠ "java/lang/invoke/VarHandle")
    {W9 : Nat} {Pre : Pt → Array Value → Prop} {Post : Pt → Array Value → Option Value → Pt → Prop} (hK : Back l R p e below s args y 3 W9 Pre Post)
    {g : JFrame} (hg : g.method = m) (hsize : g.locals.size = c.maxLocals) {argsL rest : List Value} (hlen : ∀ sig, parseMethodDescriptor y.desc = some sig → argsL.length = sig.parameters.length)
    (hstack : g.stack = argsL.reverse ++ rest) (hW : 2 * g.monitorRoom + (rest.map fun v => v.category).sum ≤ W9) (hdg : decode c.code g.pc = .ok (.invokestatic index, 3))
    (hpre : ∀ vm₁, s.WarmedH vm₁ → Pre ⟨T.setVm vm₁, locs, cells, slots⟩ argsL.toArray) :
    ∃ (v : Option Value) (vm₁ : Vm) (B : Pt), s.WarmedH vm₁ ∧ Stand p l e R s m args below meth c B.U B.locs B.cells B.slots ∧ Post ⟨T.setVm vm₁, locs, cells, slots⟩ argsL.toArray v B ∧
      ∀ target, Steps p.tables e below (B.U.setTop { g with pc := g.pc + 3, stack := v.toList ++ rest }) target → Steps p.tables e below (T.setTop g) target := by
  obtain ⟨mk, methM, cM, hnamed, hmethM, -, -, -, -, -, -, hsigM⟩ := Cond.codeWith_spec hcode
  have hstatic : methM.isStatic = true := Cond.static_spec hnamed hmethM hstat
  obtain ⟨kP, hkP, -⟩ := className_of_methodNamed hnamed
  have hinitP : kP.init = .initialized := Cond.initialized_spec (findClass_of_methodNamed hnamed) hkP hinit
  obtain ⟨vm₁, X₁, hstep₁⟩ := X.invokestatic hexec hown hlink hnamed hmethM hstatic hkP hinitP hy (g := g) hg (argsL := argsL) (rest := rest) (hlen _ hsigM) hstack hdg
  obtain ⟨v, B, X', hpost, hsteps⟩ := hK m meth c ⟨T.setVm vm₁, locs, cells, slots⟩ { g with stack := rest } (.invokestatic index) mk argsL.toArray X₁ hg hsize hdg hW (X₁.named hnamed) (hpre vm₁ X₁.warmed)
  exact ⟨v, vm₁, B, X₁.warmed, X', hpost, fun target h => hstep₁ _ fun acts => by rw [doInvoke_state]; exact hsteps.trans h⟩
theorem vx_runSW {y : MethodName} {bytes cc : ByteArray} {maxL nL mc ms n index : Nat} {ret : Option FieldType} {hh : List (Nat × Nat × Nat × Nat)} {ws : List Cond} {rm : Room} {Pc : Array Value → State → Prop} {Qc : Array Value → State → Outcome → State → Prop} {free : Addr → Prop} {Ts : List Cond} {own : String} {As rest : List Value} {g : JFrame}
    (S : CallFix p m c cc nL s args Ts own) (hM : Met l y ws rm Pc Qc mc ms free) (cw : vx_CSW R s args own index y bytes maxL ret hh ws rm mc ms n) (hp : PreS s H Pc As)
    (hg : g.method = m) (hn : As.length = n) (hsize : g.locals.size = nL) (hstack : g.stack = As.reverse ++ rest) (hW : 2 * g.monitorRoom + (rest.map fun v => v.category).sum ≤ 8) (hdg : decode cc g.pc = .ok (.invokestatic index, 3)) (hf : cells + mc ≤ R.cells ∧ slots + ms ≤ R.slots) :
    va_Run p l e R s m args below meth c H locs cells slots mc ms g rest (Qc As.toArray) (free) := by
  obtain ⟨⟨hrc, hrs, hfr, hlo, hws, hcw⟩, hcode, hini, hy, hlen, hl, hstt⟩ := cw
  have hK : Back l R p e below s args y 3 8 (PreOf R mc ms Pc) (PostOf Qc mc ms free) := va_backW (hh := hh) (bytes := bytes) (maxL := maxL) (ret := ret) hM hp.1 hrc hrs hfr hlo hws hcw (fun a' U hW => word_at hW (Or.inl (by first | rfl | simp [Cond.onTables, Cond.keeps, Cond.steady])) hini)
  obtain ⟨hx, hb, hml, ho, -⟩ := S
  intro T hT X
  obtain ⟨v, vm₁, ⟨U', l2, c2, s2⟩, hW₁, X', ⟨g', mk, t, L, e1, e2, hq, h1, hL, h2, h3⟩, st⟩ := vx_callSW X hx (hh := hh) (bytes := bytes) (maxL := maxL) (ret := ret) ho hl hstt hini hcode hy hK hg (hsize.trans hml.symm) (argsL := As) (rest := rest) (fun sig h => hn.trans (hlen sig h)) hstack hW (by rw [hb]; exact hdg)
    (fun vm₁ hW₁ => ⟨hf.1, hf.2, hp.2 (T.setVm vm₁) hT hW₁⟩)
  dsimp only [Pt.U, Pt.locs, Pt.cells, Pt.slots] at X' e1 e2 h1 h2 h3 st
  subst h1; subst h2; subst h3
  exact ⟨v, (T.setVm vm₁).calling g' mk As.toArray, t, U', L, hT, X', hL, e1, e2, hq, st⟩
/-- not caught here, past rows that name other classes: it goes on to the caller -/
theorem vx_outP {p : Program} {l : Launch} {e : Env} {R : Room} {s : State} {m : MethodId} {args : Array Value} {below : List Frame} {meth : Method} {c : Code} {H : Heap} {locs : List Loc} {cells slots : Nat} {free : Addr → Prop} {ls : Array Slot} {rest : List Value} {Qc : Array Value → State → Outcome → State → Prop} {XC : String → State → State → Prop}
    {pc : Nat} {own E : String} {ce : Cell} {q : Addr} {mc ms : Nat} (hown : s.vm.findClass own = some m.cls) (hlocks : meth.locks = false)
    (hpass : ∀ z ∈ c.exceptionTable.toList, covers z pc = false ∨ (z.catchType ≠ 0 ∧ ∃ nm : String, (Cond.classLink own z.catchType nm).before args s = true ∧ va_Nc E nm s)) (hcell : H[q]? = some ce) (hv : ce.vm = .none) (hcl : s.vm.findClass E = some ce.cls)
    (hx : ∀ t : State, t.heap = H → s.vm.Alike t.vm → XC E s t) (hf : ∀ z ∈ locs, free z.base) (hc : cells ≤ mc) (hs : slots ≤ ms) :
    vx_W p l e R s m args below meth c H locs cells slots (vx_MQ below Qc XC args s mc ms free) (F0 m pc ls rest) q := by
  intro T hT X
  have hpl : e.platform.magicAccessors = ({} : Platform).magicAccessors := by rw [X.admits.platform]
  obtain ⟨vm', hW', X', st⟩ := X.outThrough hlocks q (g := F0 m pc ls rest) rfl rfl rfl (cell := ce) (by rw [hT]; exact hcell) (by rw [hv]; rfl)
    (by obtain ⟨k9, h9, -⟩ := Vm.findClass_spec hcl; exact ⟨k9, h9⟩) (fun z hz => by
      rcases hpass z hz with h | ⟨hz0, nm, hl1, hn1⟩
      · exact Or.inl h
      · obtain ⟨c6, hc6, hcl6⟩ := Cond.classLink_spec hown hl1 e.platform hpl
        obtain ⟨a8, b8, h1, h2, h3⟩ := hn1
        cases Option.some.inj (h1.symm.trans hcl)
        cases Option.some.inj (h2.symm.trans hc6)
        exact Or.inr ⟨hz0, _, hcl6, h3⟩)
  obtain ⟨g₀, hfr⟩ := X'.frames_eq
  have hcell9 : ((T.setVm vm').setFrames (.throwing q :: below)).heap[q]? = some ce := by
    show T.heap[q]? = some ce
    rw [hT]; exact hcell
  have hend : Ended ((T.setVm vm').setFrames (.throwing q :: below)) below (.threw q) := State.frames_setFrames _ (State.cur_lt_of_frames hfr)
  refine ⟨(T.setVm vm').setFrames (.throwing q :: below), ?_, .threw q, X'.here.running, hend, Or.inr ⟨q, rfl, E, ce, locs, hx _ hT (X'.ends _).1.alike, hcell9, hv, hcl, (X'.ends _).1, (X'.ends _).2.mono hc hs, hf⟩⟩
  rw [X.pushThrowing_eq]
  exact st
/-- a thing of a world lies in the heap -/
theorem vx_lt {D : va_G} {cl : List vw_C} {ws : va_W} {H1 : Heap} (h : va_P D cl ws H1) {k : Nat} {q : Nat × va_E} (hk : ws[k]? = some q) : q.1 < H1.size := (h k q hk).lt
end VXS
/-! ===== END ===== -/
/-! ===== BEGIN methods with a table of their own: called by a name, returning or throwing ===== -/
section VXH
/-! vx_backW, vx_callVX, vx_callSX, vx_callVW, vx_runVW, vx_runVX, vx_runSX, vx_ofWH follow the same proofs as their sisters above (Free/Laws.lean, Shelf42/LK1.lean); vx_outP calls Shelf42/NT130.lean (outThrough). -/
section
variable {l : Launch} {R : Room} {p : Program} {e : Env} {below : List Frame} {s : State} {sargs : Array Value} {y : MethodName} {len W9 : Nat}
theorem vx_backW {ws : List Cond} {rm : Room} {Pc : Array Value → State → Prop} {Qc : Array Value → State → Outcome → State → Prop} {XC : String → State → State → Prop} {mc ms : Nat} {free : Addr → Prop} {bytes : ByteArray} {maxL : Nat} {ret : Option FieldType} {hh : List (Nat × Nat × Nat × Nat)}
    (hM : vx_Met l y ws rm Pc Qc XC mc ms free) (hblind : FrameBlind Pc) (hrc : rm.cells = mc) (hrs : rm.slots = ms)
    (hframes : rm.frames + 1 ≤ R.frames) (hlocals : W9 + (maxL + 11) + rm.locals ≤ R.locals)
    (hws : ∀ w ∈ ws, ∀ a' U, s.WarmedH U.vm → w.before a' U = true) (hcode : Cond.codeWith y bytes maxL ret hh ∈ ws) (hinit : ∀ a' U, s.WarmedH U.vm → (Cond.initialized y.cls).before a' U = true) :
    vx_Back l R p e below s sargs y len W9 (PreOf R mc ms Pc) (PostOf Qc mc ms free) (vx_Post XC mc ms free) := by
  intro m meth c A g ig mk a X hg hsize hdg hW hn hp
  have h1 : (headSpec ws rm).pre.before a A.U = true := atoms_intro fun w hw => hws w hw _ _ X.warmed
  have h2 : (Cond.codeWith y bytes maxL ret hh).before a A.U = true := hws _ hcode _ _ X.warmed
  have h3 : (Cond.initialized y.cls).before a A.U = true := hinit _ _ X.warmed
  have h4 : A.cells + (headSpec ws rm).room.cells ≤ R.cells := by rw [show (headSpec ws rm).room.cells = mc from hrc]; exact hp.1
  have h5 : A.slots + (headSpec ws rm).room.slots ≤ R.slots := by rw [show (headSpec ws rm).room.slots = ms from hrs]; exact hp.2.1
  have hPc : Pc a (A.U.calling g mk a) := hblind _ _ _ _ hp.2.2
  obtain ⟨U, Ls, c0, s0⟩ := A
  dsimp only [Pt.U, Pt.locs, Pt.cells, Pt.slots] at h1 h2 h3 h4 h5 X hn hPc ⊢
  obtain ⟨m9, methY, cY, hn9, hmY, hcY, -, hlY, -⟩ := Cond.codeWith_spec h2
  cases Option.some.inj (hn9.symm.trans hn)
  obtain ⟨kY, hkY, -⟩ := className_of_methodNamed hn
  have hinitY : kY.init = .initialized := Cond.initialized_spec (findClass_of_methodNamed hn) hkY h3
  have h : At U g.method c below := by rw [hg]; exact X.here
  have hlocals9 : W9 + (maxL + 11) + (headSpec ws rm).room.locals ≤ R.locals := hlocals
  have happ : (headSpec ws rm).appliesLoose y e.platform (U.calling g mk a) = true :=
    Spec.appliesLoose_calling (g := g) h hdg hn hkY hinitY
      (X.room_calling (g := g) (R' := (headSpec ws rm).room) hsize hmY hcY hframes (by rw [hlY]; omega) h4 h5) h1
  obtain ⟨mid, hmid⟩ := h.above
  have hfr : (U.setTop g).frames = (.java g :: mid) ++ below := by rw [State.frames_setTop' g h.top, hmid]; rfl
  obtain ⟨o, s₂, hsteps, -, hend, hq⟩ := Steps.callFree hM p X.admits X.cas X.clock (acts := []) hfr happ hPc trivial
  have hq' : vx_Q Qc XC mc ms free a (U.calling g mk a) o s₂ := hq
  rw [State.frames_setTop' g h.top] at hend
  obtain ⟨g₀, hg0⟩ := Option.isSome_iff_exists.mp h.top
  obtain ⟨r, hr⟩ := State.topJava?_eq_some.mp hg0
  have hr' : (({ U with heap := s₂.heap, slotsUsed := s₂.slotsUsed } : State).setVm s₂.vm).frames = .java g₀ :: r := hr
  rcases hq' with ⟨hqc, L, hfe, hL⟩ | ⟨q, rfl, E, ce, L, hx, hce, hcv, hcl, hW₂, hsm, hL⟩
  · obtain ⟨⟨v, rfl⟩, hW₂, e2, q2, q3, q4, q5, q6⟩ := id hfe
    have e3 : s₂ = ({ (U.calling g mk a).setFrames s₂.frames with heap := s₂.heap, slotsUsed := s₂.slotsUsed } : State).setVm s₂.vm := by
      have : s₂ = ({ s₂ with vm := (U.calling g mk a).vm } : State).setVm s₂.vm := rfl
      rw [e2] at this
      exact this
    obtain ⟨c₂, i₂, len₂, hc₂, hd₂, hf₂⟩ := hend
    have hW' : U.WarmedH s₂.vm := hW₂
    have hcc : c₂ = c := by
      have h1 : s₂.code? g.method = U.code? g.method := by
        rw [State.code?_eq, State.code?_eq, hW'.alike.method?]
      exact Option.some.inj (hc₂.symm.trans (h1.trans h.code))
    subst hcc
    have hlen : len₂ = len := by rw [hdg] at hd₂; cases hd₂; rfl
    subst hlen
    have hs₂ : s₂ = (({ U with heap := s₂.heap, slotsUsed := s₂.slotsUsed } : State).setVm s₂.vm).setTop { g with pc := g.pc + len₂, stack := v.toList ++ g.stack } := by
      refine e3.trans ?_
      rw [hf₂, State.calling_eq h.top, State.setFrames_setFrames, State.setTop_of_frames _ hr', hr]
      rfl
    have hsame : U.sameButNew ({ U with heap := s₂.heap, slotsUsed := s₂.slotsUsed } : State) L mc ms := by
      refine ⟨?_, q2, q3, q4, q5, q6⟩
      obtain ⟨t, ht, -⟩ := State.frames_cons hr
      show ({ U with heap := s₂.heap, slotsUsed := s₂.slotsUsed } : State) = { U.setFrames U.frames with heap := s₂.heap, slotsUsed := s₂.slotsUsed }
      rw [State.setFrames_self ht]
    subst hg
    refine Or.inl ⟨v, ⟨(({ U with heap := s₂.heap, slotsUsed := s₂.slotsUsed } : State).setVm s₂.vm), Ls ++ L, c0 + mc, s0 + ms⟩,
      ⟨X.admits, X.cas, X.clock, X.frames, X.room, X.hears, X.method, X.code, (X.here.setHeapUsed s₂.heap s₂.slotsUsed).setVm hW'.alike, X.tail, State.WarmedH.trans X.warmed hW', X.limits, X.bytes, X.same.trans (hsame.setVm s.vm)⟩,
      ⟨g, mk, s₂, L, rfl, rfl, hqc, rfl, hL, rfl, rfl⟩, ?_⟩
    show Steps p.tables e below _ ((({ U with heap := s₂.heap, slotsUsed := s₂.slotsUsed } : State).setVm s₂.vm).setTop { g with pc := g.pc + len₂, stack := v.toList ++ g.stack })
    rw [← hs₂]
    exact hsteps
  · obtain ⟨e2, q2, q3, q4, q5, q6⟩ := id hsm
    have e3 : s₂ = ({ (U.calling g mk a).setFrames s₂.frames with heap := s₂.heap, slotsUsed := s₂.slotsUsed } : State).setVm s₂.vm := by
      have : s₂ = ({ s₂ with vm := (U.calling g mk a).vm } : State).setVm s₂.vm := rfl
      rw [e2] at this
      exact this
    have hf₂ : s₂.frames = .throwing q :: .java g :: U.frames.tail := hend
    have hW' : U.WarmedH s₂.vm := hW₂
    have hs₂ : s₂ = ((({ U with heap := s₂.heap, slotsUsed := s₂.slotsUsed } : State).setVm s₂.vm).setTop g).pushFrame (.throwing q) := by
      refine e3.trans ?_
      rw [hf₂, State.calling_eq h.top, State.setFrames_setFrames, State.pushFrame, State.frames_setTop _ hr', State.setTop_of_frames _ hr', State.setFrames_setFrames, hr]
      rfl
    have hsame : U.sameButNew ({ U with heap := s₂.heap, slotsUsed := s₂.slotsUsed } : State) L mc ms := by
      refine ⟨?_, q2, q3, q4, q5, q6⟩
      obtain ⟨t, ht, -⟩ := State.frames_cons hr
      show ({ U with heap := s₂.heap, slotsUsed := s₂.slotsUsed } : State) = { U.setFrames U.frames with heap := s₂.heap, slotsUsed := s₂.slotsUsed }
      rw [State.setFrames_self ht]
    subst hg
    refine Or.inr ⟨q, ⟨(({ U with heap := s₂.heap, slotsUsed := s₂.slotsUsed } : State).setVm s₂.vm), Ls ++ L, c0 + mc, s0 + ms⟩,
      ⟨X.admits, X.cas, X.clock, X.frames, X.room, X.hears, X.method, X.code, (X.here.setHeapUsed s₂.heap s₂.slotsUsed).setVm hW'.alike, X.tail, State.WarmedH.trans X.warmed hW', X.limits, X.bytes, X.same.trans (hsame.setVm s.vm)⟩,
      ⟨g, mk, s₂, L, E, ce, rfl, rfl, hx, hce, hcv, hcl, rfl, hL, rfl, rfl⟩, ?_⟩
    show Steps p.tables e below _ (((({ U with heap := s₂.heap, slotsUsed := s₂.slotsUsed } : State).setVm s₂.vm).setTop g).pushFrame (.throwing q))
    rw [← hs₂]
    exact hsteps
end
variable {p : Program} {l : Launch} {e : Env} {R : Room} {s : State} {m : MethodId} {args : Array Value} {below : List Frame} {meth : Method} {c : Code} {T : State} {H : Heap} {locs : List Loc} {cells slots : Nat}
theorem vx_callVX (X : Stand p l e R s m args below meth c T locs cells slots) (hexec : p.tables.exec = Jvm.exec) {own C : String} {index : Nat} {y : MethodName} {bytes : ByteArray} {maxL : Nat} {ret : Option FieldType} {hh : List (Nat × Nat × Nat × Nat)}
    (hown : s.vm.findClass own = some m.cls) (hlink : (Cond.methodLink own index y).before args s = true) (hinst : (Cond.instanceMethod y).before args s = true) (hsel : (Cond.selects C y y).before args s = true)
    (hcode : (Cond.codeWith y bytes maxL ret hh).before args s = true) (hy : y.cls ≠ "java/lang/invoke/MethodHandle" ∧ y.cls ≠ "java/lang/invoke/VarHandle")
    {W9 : Nat} {Pre : Pt → Array Value → Prop} {Post : Pt → Array Value → Option Value → Pt → Prop} {PostX : Pt → Array Value → Addr → Pt → Prop} (hK : vx_Back l R p e below s args y 3 W9 Pre Post PostX)
    {b : Addr} {cellB : Cell} (hcell : T.heap[b]? = some cellB) (hobj : cellB.vm.isStatics = false) (hcls : s.vm.findClass C = some cellB.cls)
    {g : JFrame} (hg : g.method = m) (hsize : g.locals.size = c.maxLocals) {argsL rest : List Value} (hlen : ∀ sig, parseMethodDescriptor y.desc = some sig → argsL.length = sig.parameters.length)
    (hstack : g.stack = argsL.reverse ++ .ref b :: rest) (hW : 2 * g.monitorRoom + (rest.map fun v => v.category).sum ≤ W9) (hdg : decode c.code g.pc = .ok (.invokevirtual index, 3))
    (hpre : ∀ vm₁, s.WarmedH vm₁ → Pre ⟨T.setVm vm₁, locs, cells, slots⟩ (Value.ref b :: argsL).toArray) :
    (∃ (v : Option Value) (vm₁ : Vm) (B : Pt), s.WarmedH vm₁ ∧ Stand p l e R s m args below meth c B.U B.locs B.cells B.slots ∧ Post ⟨T.setVm vm₁, locs, cells, slots⟩ (Value.ref b :: argsL).toArray v B ∧
      ∀ target, Steps p.tables e below (B.U.setTop { g with pc := g.pc + 3, stack := v.toList ++ rest }) target → Steps p.tables e below (T.setTop g) target) ∨
    (∃ (q : Addr) (vm₁ : Vm) (B : Pt), s.WarmedH vm₁ ∧ Stand p l e R s m args below meth c B.U B.locs B.cells B.slots ∧ PostX ⟨T.setVm vm₁, locs, cells, slots⟩ (Value.ref b :: argsL).toArray q B ∧
      Steps p.tables e below (T.setTop g) ((B.U.setTop { g with stack := rest }).pushFrame (.throwing q))) := by
  obtain ⟨mk, methM, hnamed, hmethM, hstM, habM⟩ := Cond.instanceMethod_spec hinst
  obtain ⟨m8, methM', cM, hn8, hmethM', -, -, -, -, -, -, hsigM⟩ := Cond.codeWith_spec hcode
  cases Option.some.inj (hn8.symm.trans hnamed)
  cases hmethM.symm.trans hmethM'
  obtain ⟨c2, r2, m2, q1, q2, q3, q4, kP, hkP, hkPi⟩ := Cond.selects_spec hsel
  cases hcls.symm.trans q1
  cases (State.methodFound?_of_named hnamed hy).symm.trans q2
  cases hnamed.symm.trans q3
  have hselP : selectMethod e.platform s.vm cellB.cls mk = .method mk := by rw [Launch.admits_selectMethod X.admits]; exact q4
  obtain ⟨vm₁, X₁, hstep₁⟩ := X.invokevirtual hexec hown hlink hnamed hmethM hstM hkP hkPi hy (a := b) (cell := cellB) hcell
    (fun z h => by rw [h] at hobj; cases hobj) hselP hmethM habM hkP hkPi (g := g) hg (argsL := argsL) (rest := rest) (hlen _ hsigM) hstack hdg
  rcases hK m meth c ⟨T.setVm vm₁, locs, cells, slots⟩ { g with stack := rest } (.invokevirtual index) mk (Value.ref b :: argsL).toArray X₁ hg hsize hdg hW (X₁.named hnamed) (hpre vm₁ X₁.warmed) with ⟨v, B, X', hpost, hsteps⟩ | ⟨q, B, X', hpost, hsteps⟩
  · exact Or.inl ⟨v, vm₁, B, X₁.warmed, X', hpost, fun target h => hstep₁ _ fun acts => by rw [doInvoke_state]; exact hsteps.trans h⟩
  · exact Or.inr ⟨q, vm₁, B, X₁.warmed, X', hpost, hstep₁ _ fun acts => by rw [doInvoke_state]; exact hsteps⟩
theorem vx_callSX (X : Stand p l e R s m args below meth c T locs cells slots) (hexec : p.tables.exec = Jvm.exec) {own : String} {index : Nat} {y : MethodName} {bytes : ByteArray} {maxL : Nat} {ret : Option FieldType} {hh : List (Nat × Nat × Nat × Nat)}
    (hown : s.vm.findClass own = some m.cls) (hlink : (Cond.methodLink own index y).before args s = true) (hstat : (Cond.static y).before args s = true) (hinit : (Cond.initialized y.cls).before args s = true)
    (hcode : (Cond.codeWith y bytes maxL ret hh).before args s = true) (hy : y.cls ≠ "java/lang/invoke/MethodHandle" ∧ y.cls ≠ "java/lang/invoke/VarHandle")
    {W9 : Nat} {Pre : Pt → Array Value → Prop} {Post : Pt → Array Value → Option Value → Pt → Prop} {PostX : Pt → Array Value → Addr → Pt → Prop} (hK : vx_Back l R p e below s args y 3 W9 Pre Post PostX)
    {g : JFrame} (hg : g.method = m) (hsize : g.locals.size = c.maxLocals) {argsL rest : List Value} (hlen : ∀ sig, parseMethodDescriptor y.desc = some sig → argsL.length = sig.parameters.length)
    (hstack : g.stack = argsL.reverse ++ rest) (hW : 2 * g.monitorRoom + (rest.map fun v => v.category).sum ≤ W9) (hdg : decode c.code g.pc = .ok (.invokestatic index, 3))
    (hpre : ∀ vm₁, s.WarmedH vm₁ → Pre ⟨T.setVm vm₁, locs, cells, slots⟩ argsL.toArray) :
    (∃ (v : Option Value) (vm₁ : Vm) (B : Pt), s.WarmedH vm₁ ∧ Stand p l e R s m args below meth c B.U B.locs B.cells B.slots ∧ Post ⟨T.setVm vm₁, locs, cells, slots⟩ argsL.toArray v B ∧
      ∀ target, Steps p.tables e below (B.U.setTop { g with pc := g.pc + 3, stack := v.toList ++ rest }) target → Steps p.tables e below (T.setTop g) target) ∨
    (∃ (q : Addr) (vm₁ : Vm) (B : Pt), s.WarmedH vm₁ ∧ Stand p l e R s m args below meth c B.U B.locs B.cells B.slots ∧ PostX ⟨T.setVm vm₁, locs, cells, slots⟩ argsL.toArray q B ∧
      Steps p.tables e below (T.setTop g) ((B.U.setTop { g with stack := rest }).pushFrame (.throwing q))) := by
  obtain ⟨mk, methM, cM, hnamed, hmethM, -, -, -, -, -, -, hsigM⟩ := Cond.codeWith_spec hcode
  have hstatic : methM.isStatic = true := Cond.static_spec hnamed hmethM hstat
  obtain ⟨kP, hkP, -⟩ := className_of_methodNamed hnamed
  have hinitP : kP.init = .initialized := Cond.initialized_spec (findClass_of_methodNamed hnamed) hkP hinit
  obtain ⟨vm₁, X₁, hstep₁⟩ := X.invokestatic hexec hown hlink hnamed hmethM hstatic hkP hinitP hy (g := g) hg (argsL := argsL) (rest := rest) (hlen _ hsigM) hstack hdg
  rcases hK m meth c ⟨T.setVm vm₁, locs, cells, slots⟩ { g with stack := rest } (.invokestatic index) mk argsL.toArray X₁ hg hsize hdg hW (X₁.named hnamed) (hpre vm₁ X₁.warmed) with ⟨v, B, X', hpost, hsteps⟩ | ⟨q, B, X', hpost, hsteps⟩
  · exact Or.inl ⟨v, vm₁, B, X₁.warmed, X', hpost, fun target h => hstep₁ _ fun acts => by rw [doInvoke_state]; exact hsteps.trans h⟩
  · exact Or.inr ⟨q, vm₁, B, X₁.warmed, X', hpost, hstep₁ _ fun acts => by rw [doInvoke_state]; exact hsteps⟩
theorem vx_callVW (X : Stand p l e R s m args below meth c T locs cells slots) (hexec : p.tables.exec = Jvm.exec) {own C : String} {index : Nat} {y : MethodName} {bytes : ByteArray} {maxL : Nat} {ret : Option FieldType} {hh : List (Nat × Nat × Nat × Nat)}
    (hown : s.vm.findClass own = some m.cls) (hlink : (Cond.methodLink own index y).before args s = true) (hinst : (Cond.instanceMethod y).before args s = true) (hsel : (Cond.selects C y y).before args s = true)
    (hcode : (Cond.codeWith y bytes maxL ret hh).before args s = true) (hy : y.cls ≠ "java/lang/invoke/MethodHandle" ∧ y.cls ≠ "java/lang/invoke/VarHandle")
    {W9 : Nat} {Pre : Pt → Array Value → Prop} {Post : Pt → Array Value → Option Value → Pt → Prop} (hK : Back l R p e below s args y 3 W9 Pre Post)
    {b : Addr} {cellB : Cell} (hcell : T.heap[b]? = some cellB) (hobj : cellB.vm.isStatics = false) (hcls : s.vm.findClass C = some cellB.cls)
    {g : JFrame} (hg : g.method = m) (hsize : g.locals.size = c.maxLocals) {argsL rest : List Value} (hlen : ∀ sig, parseMethodDescriptor y.desc = some sig → argsL.length = sig.parameters.length)
    (hstack : g.stack = argsL.reverse ++ .ref b :: rest) (hW : 2 * g.monitorRoom + (rest.map fun v => v.category).sum ≤ W9) (hdg : decode c.code g.pc = .ok (.invokevirtual index, 3))
    (hpre : ∀ vm₁, s.WarmedH vm₁ → Pre ⟨T.setVm vm₁, locs, cells, slots⟩ (Value.ref b :: argsL).toArray) :
    ∃ (v : Option Value) (vm₁ : Vm) (B : Pt), s.WarmedH vm₁ ∧ Stand p l e R s m args below meth c B.U B.locs B.cells B.slots ∧ Post ⟨T.setVm vm₁, locs, cells, slots⟩ (Value.ref b :: argsL).toArray v B ∧
      ∀ target, Steps p.tables e below (B.U.setTop { g with pc := g.pc + 3, stack := v.toList ++ rest }) target → Steps p.tables e below (T.setTop g) target := by
  obtain ⟨mk, methM, hnamed, hmethM, hstM, habM⟩ := Cond.instanceMethod_spec hinst
  obtain ⟨m8, methM', cM, hn8, hmethM', -, -, -, -, -, -, hsigM⟩ := Cond.codeWith_spec hcode
  cases Option.some.inj (hn8.symm.trans hnamed)
  cases hmethM.symm.trans hmethM'
  obtain ⟨c2, r2, m2, q1, q2, q3, q4, kP, hkP, hkPi⟩ := Cond.selects_spec hsel
  cases hcls.symm.trans q1
  cases (State.methodFound?_of_named hnamed hy).symm.trans q2
  cases hnamed.symm.trans q3
  have hselP : selectMethod e.platform s.vm cellB.cls mk = .method mk := by rw [Launch.admits_selectMethod X.admits]; exact q4
  obtain ⟨vm₁, X₁, hstep₁⟩ := X.invokevirtual hexec hown hlink hnamed hmethM hstM hkP hkPi hy (a := b) (cell := cellB) hcell
    (fun z h => by rw [h] at hobj; cases hobj) hselP hmethM habM hkP hkPi (g := g) hg (argsL := argsL) (rest := rest) (hlen _ hsigM) hstack hdg
  obtain ⟨v, B, X', hpost, hsteps⟩ := hK m meth c ⟨T.setVm vm₁, locs, cells, slots⟩ { g with stack := rest } (.invokevirtual index) mk (Value.ref b :: argsL).toArray X₁ hg hsize hdg hW (X₁.named hnamed) (hpre vm₁ X₁.warmed)
  exact ⟨v, vm₁, B, X₁.warmed, X', hpost, fun target h => hstep₁ _ fun acts => by rw [doInvoke_state]; exact hsteps.trans h⟩
abbrev vx_CVW (R : Room) (s : State) (args : Array Value) (own C : String) (index : Nat) (y : MethodName) (bytes : ByteArray) (maxL : Nat) (ret : Option FieldType) (hh : List (Nat × Nat × Nat × Nat)) (ws : List Cond) (rm : Room) (mc ms n : Nat) : Prop :=
  (rm.cells = mc ∧ rm.slots = ms ∧ rm.frames + 1 ≤ R.frames ∧ 8 + (maxL + 11) + rm.locals ≤ R.locals ∧ (∀ w ∈ ws, ∀ (a' : Array Value) (U : State), s.WarmedH U.vm → w.before a' U = true) ∧ Cond.codeWith y bytes maxL ret hh ∈ ws) ∧
  (Cond.codeWith y bytes maxL ret hh).before args s = true ∧ (Cond.initialized y.cls).before args s = true ∧ (y.cls ≠ "java/lang/invoke/MethodHandle" ∧ y.cls ≠ "java/lang/invoke/VarHandle") ∧
  (∀ sig, parseMethodDescriptor y.desc = some sig → n = sig.parameters.length) ∧ (Cond.methodLink own index y).before args s = true ∧ (Cond.instanceMethod y).before args s = true ∧ (Cond.selects C y y).before args s = true
theorem vx_cwVW {own C : String} {index maxL mc ms : Nat} {y : MethodName} {bytes : ByteArray} {ret : Option FieldType} {hh : List (Nat × Nat × Nat × Nat)} {Ts ws ws' : List Cond} {rm : Room} (n : Nat) (ht : ∀ w ∈ Ts, w.before args s = true) (hT : GoodIn Ts (wsV own index C y ws)) (hw : ws = Cond.codeWith y bytes maxL ret hh :: ws') (hrc : rm.cells = mc) (hrs : rm.slots = ms)
    (hd : y.cls = C ∧ y.cls ≠ "java/lang/invoke/MethodHandle" ∧ y.cls ≠ "java/lang/invoke/VarHandle" ∧ (parseMethodDescriptor y.desc).map (fun d => d.parameters.length) = some n) (hR : rm.frames + 1 ≤ R.frames ∧ 8 + (maxL + 11) + rm.locals ≤ R.locals) :
    vx_CVW R s args own C index y bytes maxL ret hh ws rm mc ms n := by
  obtain ⟨hC, hd⟩ := hd
  subst hC
  have ok : ∀ w ∈ wsV own index y.cls y ws, w.before args s = true := fun w h => ht w (hT w h).1
  have hG : GoodIn Ts ws := fun w h => hT w (by unfold wsV; exact List.mem_append_right _ h)
  have hc : Cond.codeWith y bytes maxL ret hh ∈ ws := by rw [hw]; exact List.mem_cons_self
  refine ⟨⟨hrc, hrs, hR.1, hR.2, pay_in ht hG, hc⟩, ht _ (hG _ hc).1, ok _ (by simp [wsV]), ⟨hd.1, hd.2.1⟩, fun sig h => ?_, ok _ (by simp [wsV]), ok _ (by simp [wsV]), ok _ (by simp [wsV])⟩
  have h2 := hd.2.2
  rw [h] at h2
  exact (Option.some.inj h2).symm
theorem vx_runVW {y : MethodName} {bytes cc : ByteArray} {maxL nL mc ms n index : Nat} {ret : Option FieldType} {hh : List (Nat × Nat × Nat × Nat)} {ws : List Cond} {rm : Room} {Pc : Array Value → State → Prop} {Qc : Array Value → State → Outcome → State → Prop} {free : Addr → Prop} {Ts : List Cond} {own C : String} {b : Addr} {As rest : List Value} {g : JFrame}
    (S : CallFix p m c cc nL s args Ts own) (hM : Met l y ws rm Pc Qc mc ms free) (cw : vx_CVW R s args own C index y bytes maxL ret hh ws rm mc ms n) (hp : PreV s H C b Pc As)
    (hg : g.method = m) (hn : As.length = n) (hsize : g.locals.size = nL) (hstack : g.stack = As.reverse ++ .ref b :: rest) (hW : 2 * g.monitorRoom + (rest.map fun v => v.category).sum ≤ 8) (hdg : decode cc g.pc = .ok (.invokevirtual index, 3)) (hf : cells + mc ≤ R.cells ∧ slots + ms ≤ R.slots) :
    va_Run p l e R s m args below meth c H locs cells slots mc ms g rest (Qc (Value.ref b :: As).toArray) free := by
  obtain ⟨⟨hrc, hrs, hfr, hlo, hws, hcw⟩, hcode, hini, hy, hlen, hl, hin, hse⟩ := cw
  have hK : Back l R p e below s args y 3 8 (PreOf R mc ms Pc) (PostOf Qc mc ms free) := va_backW (hh := hh) (bytes := bytes) (maxL := maxL) (ret := ret) hM hp.1 hrc hrs hfr hlo hws hcw (fun a' U hW => word_at hW (Or.inl (by first | rfl | simp [Cond.onTables, Cond.keeps, Cond.steady])) hini)
  obtain ⟨hx, hb, hml, ho, -⟩ := S
  obtain ⟨-, ⟨cellB, hcB, hoB, hclB⟩, hPc⟩ := hp
  intro T hT X
  obtain ⟨v, vm₁, ⟨U', l2, c2, s2⟩, hW₁, X', ⟨g', mk, t, L, e1, e2, hq, h1, hL, h2, h3⟩, st⟩ := vx_callVW X hx (C := C) (hh := hh) (bytes := bytes) (maxL := maxL) (ret := ret) ho hl hin hse hcode hy hK (by rw [hT]; exact hcB) hoB hclB hg (hsize.trans hml.symm) (argsL := As) (rest := rest) (fun sig h => hn.trans (hlen sig h)) hstack hW (by rw [hb]; exact hdg)
    (fun vm₁ hW₁ => ⟨hf.1, hf.2, hPc (T.setVm vm₁) hT hW₁⟩)
  dsimp only [Pt.U, Pt.locs, Pt.cells, Pt.slots] at X' e1 e2 h1 h2 h3 st
  subst h1; subst h2; subst h3
  exact ⟨v, (T.setVm vm₁).calling g' mk (Value.ref b :: As).toArray, t, U', L, hT, X', hL, e1, e2, hq, st⟩
section
variable {y : MethodName} {bytes cc : ByteArray} {maxL nL mc ms n index : Nat} {ret : Option FieldType} {ws : List Cond} {rm : Room} {Pc : Array Value → State → Prop} {Qc : Array Value → State → Outcome → State → Prop} {XC : String → State → State → Prop} {free : Addr → Prop} {Ts : List Cond} {own C : String} {b : Addr} {As rest : List Value} {g : JFrame}
theorem vx_runVX {hh : List (Nat × Nat × Nat × Nat)} (S : CallFix p m c cc nL s args Ts own) (hM : vx_Met l y ws rm Pc Qc XC mc ms free) (cw : vx_CVW R s args own C index y bytes maxL ret hh ws rm mc ms n) (hp : PreV s H C b Pc As)
    (hg : g.method = m) (hn : As.length = n) (hsize : g.locals.size = nL) (hstack : g.stack = As.reverse ++ .ref b :: rest) (hW : 2 * g.monitorRoom + (rest.map fun v => v.category).sum ≤ 8) (hdg : decode cc g.pc = .ok (.invokevirtual index, 3)) (hf : cells + mc ≤ R.cells ∧ slots + ms ≤ R.slots) :
    vx_Run p l e R s m args below meth c H locs cells slots mc ms g rest (Qc (Value.ref b :: As).toArray) XC free := by
  obtain ⟨⟨hrc, hrs, hfr, hlo, hws, hcw⟩, hcode, hini, hy, hlen, hl, hin, hse⟩ := cw
  have hK : vx_Back l R p e below s args y 3 8 (PreOf R mc ms Pc) (PostOf Qc mc ms free) (vx_Post XC mc ms free) := vx_backW (hh := hh) (bytes := bytes) (maxL := maxL) (ret := ret) hM hp.1 hrc hrs hfr hlo hws hcw (fun a' U hW => word_at hW (Or.inl (by first | rfl | simp [Cond.onTables, Cond.keeps, Cond.steady])) hini)
  obtain ⟨hx, hb, hml, ho, -⟩ := S
  obtain ⟨-, ⟨cellB, hcB, hoB, hclB⟩, hPc⟩ := hp
  intro T hT X
  rcases vx_callVX X hx (C := C) (hh := hh) (bytes := bytes) (maxL := maxL) (ret := ret) ho hl hin hse hcode hy hK (by rw [hT]; exact hcB) hoB hclB hg (hsize.trans hml.symm) (argsL := As) (rest := rest) (fun sig h => hn.trans (hlen sig h)) hstack hW (by rw [hb]; exact hdg)
    (fun vm₁ hW₁ => ⟨hf.1, hf.2, hPc (T.setVm vm₁) hT hW₁⟩) with ⟨v, vm₁, ⟨U', l2, c2, s2⟩, hW₁, X', ⟨g', mk, t, L, e1, e2, hq, h1, hL, h2, h3⟩, st⟩ | ⟨q, vm₁, ⟨U', l2, c2, s2⟩, hW₁, X', ⟨g', mk, t, L, E, ce, e1, e2, hq, hce, hcv, hcl, h1, hL, h2, h3⟩, st⟩
  · dsimp only [Pt.U, Pt.locs, Pt.cells, Pt.slots] at X' e1 e2 h1 h2 h3 st
    subst h1; subst h2; subst h3
    exact Or.inl ⟨v, (T.setVm vm₁).calling g' mk (Value.ref b :: As).toArray, t, U', L, hT, X', hL, e1, e2, hq, st⟩
  · dsimp only [Pt.U, Pt.locs, Pt.cells, Pt.slots] at X' e1 e2 h1 h2 h3 st hcl
    subst h1; subst h2; subst h3
    exact Or.inr ⟨q, (T.setVm vm₁).calling g' mk (Value.ref b :: As).toArray, t, U', L, E, ce, hT, X', hL, e1, e2, hq, hce, hcv, vx_cls hW₁ hcl, st⟩
theorem vx_runSX {hh : List (Nat × Nat × Nat × Nat)} (S : CallFix p m c cc nL s args Ts own) (hM : vx_Met l y ws rm Pc Qc XC mc ms free) (cw : vx_CSW R s args own index y bytes maxL ret hh ws rm mc ms n) (hp : PreS s H Pc As)
    (hg : g.method = m) (hn : As.length = n) (hsize : g.locals.size = nL) (hstack : g.stack = As.reverse ++ rest) (hW : 2 * g.monitorRoom + (rest.map fun v => v.category).sum ≤ 8) (hdg : decode cc g.pc = .ok (.invokestatic index, 3)) (hf : cells + mc ≤ R.cells ∧ slots + ms ≤ R.slots) :
    vx_Run p l e R s m args below meth c H locs cells slots mc ms g rest (Qc As.toArray) XC free := by
  obtain ⟨⟨hrc, hrs, hfr, hlo, hws, hcw⟩, hcode, hini, hy, hlen, hl, hstt⟩ := cw
  have hK : vx_Back l R p e below s args y 3 8 (PreOf R mc ms Pc) (PostOf Qc mc ms free) (vx_Post XC mc ms free) := vx_backW (hh := hh) (bytes := bytes) (maxL := maxL) (ret := ret) hM hp.1 hrc hrs hfr hlo hws hcw (fun a' U hW => word_at hW (Or.inl (by first | rfl | simp [Cond.onTables, Cond.keeps, Cond.steady])) hini)
  obtain ⟨hx, hb, hml, ho, -⟩ := S
  intro T hT X
  rcases vx_callSX X hx (hh := hh) (bytes := bytes) (maxL := maxL) (ret := ret) ho hl hstt hini hcode hy hK hg (hsize.trans hml.symm) (argsL := As) (rest := rest) (fun sig h => hn.trans (hlen sig h)) hstack hW (by rw [hb]; exact hdg)
    (fun vm₁ hW₁ => ⟨hf.1, hf.2, hp.2 (T.setVm vm₁) hT hW₁⟩) with ⟨v, vm₁, ⟨U', l2, c2, s2⟩, hW₁, X', ⟨g', mk, t, L, e1, e2, hq, h1, hL, h2, h3⟩, st⟩ | ⟨q, vm₁, ⟨U', l2, c2, s2⟩, hW₁, X', ⟨g', mk, t, L, E, ce, e1, e2, hq, hce, hcv, hcl, h1, hL, h2, h3⟩, st⟩
  · dsimp only [Pt.U, Pt.locs, Pt.cells, Pt.slots] at X' e1 e2 h1 h2 h3 st
    subst h1; subst h2; subst h3
    exact Or.inl ⟨v, (T.setVm vm₁).calling g' mk As.toArray, t, U', L, hT, X', hL, e1, e2, hq, st⟩
  · dsimp only [Pt.U, Pt.locs, Pt.cells, Pt.slots] at X' e1 e2 h1 h2 h3 st hcl
    subst h1; subst h2; subst h3
    exact Or.inr ⟨q, (T.setVm vm₁).calling g' mk As.toArray, t, U', L, E, ce, hT, X', hL, e1, e2, hq, hce, hcv, vx_cls hW₁ hcl, st⟩
end
end VXH
theorem vx_ofWH {l : Launch} {y : MethodName} {ws ws' : List Cond} {rm : Room} {Pc : Array Value → State → Prop} {Qc : Array Value → State → Outcome → State → Prop} {XC : String → State → State → Prop} {mc ms : Nat} {free : Addr → Prop} {cc : ByteArray} {maxL : Nat} {ret : Option FieldType} {hh : List (Nat × Nat × Nat × Nat)}
    (hy : plainName y.cls = true) (hw : ws = Cond.codeWith y cc maxL ret hh :: ws')
    (body : ∀ p e s m args below meth c s₁, BodyLoose p l y (headSpec ws rm) cc maxL ret e s m args below meth c s₁ → c.maxLocals = maxL → Pc args s →
      W p l e (headSpec ws rm).room s m args below meth c s.heap [] 0 0 (vx_MQ below Qc XC args s mc ms free) (entryFrame m args maxL)) : vx_Met l y ws rm Pc Qc XC mc ms free := by
  refine MetFree.of_bodyS (code := cc) (maxLocals := maxL) (ret := ret) hy ?_ ?_
  · intro args s m h hn
    obtain ⟨m9, meth, c, hn9, h1, h2, h3, h4, -, h5, h6, -⟩ := Cond.codeWith_spec (atoms_spec (ws := ws) h _ (by rw [hw]; exact List.mem_cons_self))
    cases hn.symm.trans hn9
    exact ⟨meth, c, h1, h2, h3, h4, h5, h6⟩
  · intro p e s m args below meth c s₁ B hml hP _
    have hh0 : s₁.heap = s.heap := by rw [B.state]; rfl
    obtain ⟨t, a1, o, b1, b2, b3⟩ := body p e s m args below meth c s₁ B hml hP s₁ hh0 (Stand.of_body B)
    exact ⟨t, o, a1, b1, b2, b3⟩
/-! ===== END ===== -/
end
section
/-! ===== BEGIN printed: names, fields, word lists, decode rows ===== -/
def RX0 : String := "Postunion$Leg"
def TX0 : u_T := fun k => match k with
  | 0 => ("Postunion$Leg", "one", "LPostunion$Post;", true)
  | 1 => ("Postunion$Leg", "other", "LPostunion$Post;", true)
  | 2 => ("Postunion$Leg", "length", "I", true)
  | _ => ("Postunion$Leg", "isClosed", "Z", false)
def tyX0 : Nat → FieldType := fun k => match k with
  | 0 => .object "Postunion$Post"
  | 1 => .object "Postunion$Post"
  | 2 => .int
  | _ => .boolean
abbrev wsX00 : List Cond := u_ws RX0 TX0 4
theorem nmX0 : ∀ a, a < 4 → ∀ b, b < 4 → a ≠ b → (TX0 a).2.1 ≠ (TX0 b).2.1 := by decide +kernel
theorem tyX0_ok : ∀ k, k < 4 → parseFieldDescriptor (TX0 k).2.2.1 = some (tyX0 k) := by decide +kernel
abbrev cX0_init : ByteArray := prog_2_method_1_code
def yX0_init : MethodName := ⟨RX0, "<init>", "(LPostunion$Post;LPostunion$Post;I)V"⟩
abbrev cX0_farEnd : ByteArray := prog_2_method_2_code
def yX0_farEnd : MethodName := ⟨RX0, "farEnd", "(LPostunion$Post;)LPostunion$Post;"⟩
abbrev cX0_leadsTo : ByteArray := prog_2_method_3_code
def yX0_leadsTo : MethodName := ⟨RX0, "leadsTo", "(I)I"⟩
def RX1 : String := "Postunion$Post"
def TX1 : u_T := fun k => match k with
  | 0 => ("Postunion$Post", "number", "I", true)
  | 1 => ("Postunion$Post", "firstRates", "[I", true)
  | 2 => ("Postunion$Post", "furtherRates", "[I", true)
  | 3 => ("Postunion$Post", "dues", "[I", true)
  | 4 => ("Postunion$Post", "countedFor", "[J", true)
  | 5 => ("Postunion$Post", "chargeTold", "I", false)
  | 6 => ("Postunion$Post", "couponPrice", "I", false)
  | 7 => ("Postunion$Post", "isStriking", "Z", false)
  | 8 => ("Postunion$Post", "accountCents", "J", false)
  | _ => ("Postunion$Post", "tillCents", "J", false)
def tyX1 : Nat → FieldType := fun k => match k with
  | 0 => .int
  | 1 => .array .int
  | 2 => .array .int
  | 3 => .array .int
  | 4 => .array .long
  | 5 => .int
  | 6 => .int
  | 7 => .boolean
  | 8 => .long
  | _ => .long
abbrev wsX10 : List Cond := u_ws RX1 TX1 10
theorem nmX1 : ∀ a, a < 10 → ∀ b, b < 10 → a ≠ b → (TX1 a).2.1 ≠ (TX1 b).2.1 := by decide +kernel
theorem tyX1_ok : ∀ k, k < 10 → parseFieldDescriptor (TX1 k).2.2.1 = some (tyX1 k) := by decide +kernel
abbrev cX1_init : ByteArray := prog_3_method_1_code
def yX1_init : MethodName := ⟨RX1, "<init>", "(I)V"⟩
abbrev cX1_rateOf : ByteArray := prog_3_method_2_code
def yX1_rateOf : MethodName := ⟨RX1, "rateOf", "(IIZ)I"⟩
abbrev cX1_chargeFor : ByteArray := prog_3_method_3_code
def yX1_chargeFor : MethodName := ⟨RX1, "chargeFor", "(I)J"⟩
def RX2 : String := "Postunion$Routes"
def TX2 : u_T := fun k => match k with
  | 0 => ("Postunion$Routes", "legs", "[LPostunion$Leg;", true)
  | 1 => ("Postunion$Routes", "direct", "[I", true)
  | 2 => ("Postunion$Routes", "least", "[I", true)
  | 3 => ("Postunion$Routes", "onward", "[I", true)
  | _ => ("Postunion$Routes", "legCount", "I", false)
def tyX2 : Nat → FieldType := fun k => match k with
  | 0 => .array (.object "Postunion$Leg")
  | 1 => .array .int
  | 2 => .array .int
  | 3 => .array .int
  | _ => .int
abbrev wsX20 : List Cond := u_ws RX2 TX2 5
theorem nmX2 : ∀ a, a < 5 → ∀ b, b < 5 → a ≠ b → (TX2 a).2.1 ≠ (TX2 b).2.1 := by decide +kernel
theorem tyX2_ok : ∀ k, k < 5 → parseFieldDescriptor (TX2 k).2.2.1 = some (tyX2 k) := by decide +kernel
abbrev cX2_init : ByteArray := prog_4_method_1_code
def yX2_init : MethodName := ⟨RX2, "<init>", "()V"⟩
abbrev cX2_addLeg : ByteArray := prog_4_method_2_code
def yX2_addLeg : MethodName := ⟨RX2, "addLeg", "(LPostunion$Post;LPostunion$Post;I)I"⟩
abbrev cX2_legOf : ByteArray := prog_4_method_3_code
def yX2_legOf : MethodName := ⟨RX2, "legOf", "(I)LPostunion$Leg;"⟩
abbrev cX2_setClosed : ByteArray := prog_4_method_4_code
def yX2_setClosed : MethodName := ⟨RX2, "setClosed", "(LPostunion$Leg;Z)Z"⟩
abbrev cX2_leastDays : ByteArray := prog_4_method_5_code
def yX2_leastDays : MethodName := ⟨RX2, "leastDays", "(LPostunion$Post;LPostunion$Post;)I"⟩
abbrev cX2_leastDaysOfAllWays : ByteArray := prog_4_method_6_code
def yX2_leastDaysOfAllWays : MethodName := ⟨RX2, "leastDaysOfAllWays", "(LPostunion$Post;LPostunion$Post;)I"⟩
abbrev cX2_onwardLeg : ByteArray := prog_4_method_7_code
def yX2_onwardLeg : MethodName := ⟨RX2, "onwardLeg", "(LPostunion$Post;LPostunion$Post;)I"⟩
abbrev cX2_cell : ByteArray := prog_4_method_8_code
def yX2_cell : MethodName := ⟨RX2, "cell", "(II)I"⟩
abbrev cX2_noneIfFar : ByteArray := prog_4_method_9_code
def yX2_noneIfFar : MethodName := ⟨RX2, "noneIfFar", "(I)I"⟩
abbrev cX2_leastOfWays : ByteArray := prog_4_method_10_code
def yX2_leastOfWays : MethodName := ⟨RX2, "leastOfWays", "([IIIII)I"⟩
abbrev cX2_reckon : ByteArray := prog_4_method_11_code
def yX2_reckon : MethodName := ⟨RX2, "reckon", "()V"⟩
abbrev cX2_reckonDirect : ByteArray := prog_4_method_12_code
def yX2_reckonDirect : MethodName := ⟨RX2, "reckonDirect", "()V"⟩
abbrev cX2_shorten : ByteArray := prog_4_method_13_code
def yX2_shorten : MethodName := ⟨RX2, "shorten", "(III)V"⟩
abbrev cX2_reckonLeast : ByteArray := prog_4_method_14_code
def yX2_reckonLeast : MethodName := ⟨RX2, "reckonLeast", "()V"⟩
abbrev cX2_reckonOnward : ByteArray := prog_4_method_15_code
def yX2_reckonOnward : MethodName := ⟨RX2, "reckonOnward", "()V"⟩
abbrev cX2_firstLegOf : ByteArray := prog_4_method_16_code
def yX2_firstLegOf : MethodName := ⟨RX2, "firstLegOf", "(II)I"⟩
def RX3 : String := "Postunion$Thing"
def TX3 : u_T := fun k => match k with
  | 0 => ("Postunion$Thing", "kind", "I", true)
  | 1 => ("Postunion$Thing", "origin", "LPostunion$Post;", true)
  | 2 => ("Postunion$Thing", "grams", "I", true)
  | 3 => ("Postunion$Thing", "lacking", "I", true)
  | 4 => ("Postunion$Thing", "isRegistered", "Z", true)
  | 5 => ("Postunion$Thing", "target", "LPostunion$Post;", false)
  | 6 => ("Postunion$Thing", "place", "LPostunion$Post;", false)
  | 7 => ("Postunion$Thing", "leg", "LPostunion$Leg;", false)
  | 8 => ("Postunion$Thing", "state", "I", false)
  | 9 => ("Postunion$Thing", "daysLeft", "I", false)
  | 10 => ("Postunion$Thing", "isRefused", "Z", false)
  | 11 => ("Postunion$Thing", "isBack", "Z", false)
  | 12 => ("Postunion$Thing", "isClaimed", "Z", false)
  | 13 => ("Postunion$Thing", "hands", "[I", false)
  | _ => ("Postunion$Thing", "handCount", "I", false)
def tyX3 : Nat → FieldType := fun k => match k with
  | 0 => .int
  | 1 => .object "Postunion$Post"
  | 2 => .int
  | 3 => .int
  | 4 => .boolean
  | 5 => .object "Postunion$Post"
  | 6 => .object "Postunion$Post"
  | 7 => .object "Postunion$Leg"
  | 8 => .int
  | 9 => .int
  | 10 => .boolean
  | 11 => .boolean
  | 12 => .boolean
  | 13 => .array .int
  | _ => .int
abbrev wsX30 : List Cond := u_ws RX3 TX3 15
theorem nmX3 : ∀ a, a < 15 → ∀ b, b < 15 → a ≠ b → (TX3 a).2.1 ≠ (TX3 b).2.1 := by decide +kernel
theorem tyX3_ok : ∀ k, k < 15 → parseFieldDescriptor (TX3 k).2.2.1 = some (tyX3 k) := by decide +kernel
abbrev cX3_init : ByteArray := prog_5_method_1_code
def yX3_init : MethodName := ⟨RX3, "<init>", "(ILPostunion$Post;LPostunion$Post;IIZ)V"⟩
abbrev cX3_isUnderWay : ByteArray := prog_5_method_2_code
def yX3_isUnderWay : MethodName := ⟨RX3, "isUnderWay", "()Z"⟩
abbrev cX3_taxOfNow : ByteArray := prog_5_method_3_code
def yX3_taxOfNow : MethodName := ⟨RX3, "taxOfNow", "()J"⟩
abbrev cX3_departOn : ByteArray := prog_5_method_4_code
def yX3_departOn : MethodName := ⟨RX3, "departOn", "(LPostunion$Leg;)V"⟩
abbrev cX3_arrivesToday : ByteArray := prog_5_method_5_code
def yX3_arrivesToday : MethodName := ⟨RX3, "arrivesToday", "()Z"⟩
abbrev cX3_latestHand : ByteArray := prog_5_method_6_code
def yX3_latestHand : MethodName := ⟨RX3, "latestHand", "()I"⟩
abbrev cX3_sign : ByteArray := prog_5_method_7_code
def yX3_sign : MethodName := ⟨RX3, "sign", "()V"⟩
def RX4 : String := "Postunion"
def TX4 : u_T := fun k => match k with
  | 0 => ("Postunion", "posts", "[LPostunion$Post;", true)
  | 1 => ("Postunion", "things", "[LPostunion$Thing;", true)
  | 2 => ("Postunion", "routes", "LPostunion$Routes;", true)
  | 3 => ("Postunion", "postCount", "I", false)
  | 4 => ("Postunion", "thingCount", "I", false)
  | _ => ("Postunion", "isOfSamples", "Z", false)
def tyX4 : Nat → FieldType := fun k => match k with
  | 0 => .array (.object "Postunion$Post")
  | 1 => .array (.object "Postunion$Thing")
  | 2 => .object "Postunion$Routes"
  | 3 => .int
  | 4 => .int
  | _ => .boolean
abbrev wsX40 : List Cond := u_ws RX4 TX4 6
theorem nmX4 : ∀ a, a < 6 → ∀ b, b < 6 → a ≠ b → (TX4 a).2.1 ≠ (TX4 b).2.1 := by decide +kernel
theorem tyX4_ok : ∀ k, k < 6 → parseFieldDescriptor (TX4 k).2.2.1 = some (tyX4 k) := by decide +kernel
abbrev cX4_init : ByteArray := prog_1_method_1_code
def yX4_init : MethodName := ⟨RX4, "<init>", "()V"⟩
abbrev cX4_post : ByteArray := prog_1_method_2_code
def yX4_post : MethodName := ⟨RX4, "post", "()I"⟩
abbrev cX4_rates : ByteArray := prog_1_method_3_code
def yX4_rates : MethodName := ⟨RX4, "rates", "(IIII)V"⟩
abbrev cX4_due : ByteArray := prog_1_method_4_code
def yX4_due : MethodName := ⟨RX4, "due", "(III)I"⟩
abbrev cX4_charge : ByteArray := prog_1_method_5_code
def yX4_charge : MethodName := ⟨RX4, "charge", "(II)I"⟩
abbrev cX4_coupon : ByteArray := prog_1_method_6_code
def yX4_coupon : MethodName := ⟨RX4, "coupon", "(II)I"⟩
abbrev cX4_strike : ByteArray := prog_1_method_7_code
def yX4_strike : MethodName := ⟨RX4, "strike", "(IZ)Z"⟩
abbrev cX4_leg : ByteArray := prog_1_method_8_code
def yX4_leg : MethodName := ⟨RX4, "leg", "(III)I"⟩
abbrev cX4_close : ByteArray := prog_1_method_9_code
def yX4_close : MethodName := ⟨RX4, "close", "(IZ)Z"⟩
abbrev cX4_days : ByteArray := prog_1_method_10_code
def yX4_days : MethodName := ⟨RX4, "days", "(II)I"⟩
abbrev cX4_daysAnew : ByteArray := prog_1_method_11_code
def yX4_daysAnew : MethodName := ⟨RX4, "daysAnew", "(II)I"⟩
abbrev cX4_next : ByteArray := prog_1_method_12_code
def yX4_next : MethodName := ⟨RX4, "next", "(II)I"⟩
abbrev cX4_mail : ByteArray := prog_1_method_13_code
def yX4_mail : MethodName := ⟨RX4, "mail", "(IIIIIZ)I"⟩
abbrev cX4_redirect : ByteArray := prog_1_method_14_code
def yX4_redirect : MethodName := ⟨RX4, "redirect", "(II)I"⟩
abbrev cX4_refuse : ByteArray := prog_1_method_15_code
def yX4_refuse : MethodName := ⟨RX4, "refuse", "(IZ)Z"⟩
abbrev cX4_go : ByteArray := prog_1_method_16_code
def yX4_go : MethodName := ⟨RX4, "go", "(I)I"⟩
abbrev cX4_lose : ByteArray := prog_1_method_17_code
def yX4_lose : MethodName := ⟨RX4, "lose", "(I)I"⟩
abbrev cX4_claim : ByteArray := prog_1_method_18_code
def yX4_claim : MethodName := ⟨RX4, "claim", "(I)I"⟩
abbrev cX4_sample : ByteArray := prog_1_method_19_code
def yX4_sample : MethodName := ⟨RX4, "sample", "(Z)Z"⟩
abbrev cX4_settle : ByteArray := prog_1_method_20_code
def yX4_settle : MethodName := ⟨RX4, "settle", "(I)J"⟩
abbrev cX4_rate : ByteArray := prog_1_method_21_code
def yX4_rate : MethodName := ⟨RX4, "rate", "(IIIZ)I"⟩
abbrev cX4_ofThing : ByteArray := prog_1_method_22_code
def yX4_ofThing : MethodName := ⟨RX4, "ofThing", "(II)J"⟩
abbrev cX4_hand : ByteArray := prog_1_method_23_code
def yX4_hand : MethodName := ⟨RX4, "hand", "(II)I"⟩
abbrev cX4_account : ByteArray := prog_1_method_24_code
def yX4_account : MethodName := ⟨RX4, "account", "(I)J"⟩
abbrev cX4_till : ByteArray := prog_1_method_25_code
def yX4_till : MethodName := ⟨RX4, "till", "(I)J"⟩
abbrev cX4_counted : ByteArray := prog_1_method_26_code
def yX4_counted : MethodName := ⟨RX4, "counted", "(II)J"⟩
abbrev cX4_gain : ByteArray := prog_1_method_27_code
def yX4_gain : MethodName := ⟨RX4, "gain", "(I)I"⟩
abbrev cX4_postOf : ByteArray := prog_1_method_28_code
def yX4_postOf : MethodName := ⟨RX4, "postOf", "(I)LPostunion$Post;"⟩
abbrev cX4_thingOf : ByteArray := prog_1_method_29_code
def yX4_thingOf : MethodName := ⟨RX4, "thingOf", "(I)LPostunion$Thing;"⟩
abbrev cX4_demandWithin : ByteArray := prog_1_method_30_code
def yX4_demandWithin : MethodName := ⟨RX4, "demandWithin", "(III)V"⟩
abbrev cX4_demandKind : ByteArray := prog_1_method_31_code
def yX4_demandKind : MethodName := ⟨RX4, "demandKind", "(I)V"⟩
abbrev cX4_demandGrams : ByteArray := prog_1_method_32_code
def yX4_demandGrams : MethodName := ⟨RX4, "demandGrams", "(II)V"⟩
abbrev cX4_demandChangeable : ByteArray := prog_1_method_33_code
def yX4_demandChangeable : MethodName := ⟨RX4, "demandChangeable", "(LPostunion$Thing;)V"⟩
abbrev cX4_moveThoseThatTravel : ByteArray := prog_1_method_34_code
def yX4_moveThoseThatTravel : MethodName := ⟨RX4, "moveThoseThatTravel", "()I"⟩
abbrev cX4_endAtTarget : ByteArray := prog_1_method_35_code
def yX4_endAtTarget : MethodName := ⟨RX4, "endAtTarget", "(LPostunion$Thing;)V"⟩
abbrev cX4_oweDue : ByteArray := prog_1_method_36_code
def yX4_oweDue : MethodName := ⟨RX4, "oweDue", "(LPostunion$Thing;)V"⟩
abbrev cX4_sendThoseThatWait : ByteArray := prog_1_method_37_code
def yX4_sendThoseThatWait : MethodName := ⟨RX4, "sendThoseThatWait", "()V"⟩
abbrev cX4_sendOn : ByteArray := prog_1_method_38_code
def yX4_sendOn : MethodName := ⟨RX4, "sendOn", "(LPostunion$Thing;)V"⟩
abbrev cX4_pay : ByteArray := prog_1_method_39_code
def yX4_pay : MethodName := ⟨RX4, "pay", "(LPostunion$Post;LPostunion$Post;J)V"⟩
abbrev cX4_payClaim : ByteArray := prog_1_method_40_code
def yX4_payClaim : MethodName := ⟨RX4, "payClaim", "(LPostunion$Post;LPostunion$Post;I)I"⟩
abbrev cX4_settlePair : ByteArray := prog_1_method_41_code
def yX4_settlePair : MethodName := ⟨RX4, "settlePair", "(LPostunion$Post;LPostunion$Post;I)J"⟩
abbrev cX4_gainOf : ByteArray := prog_1_method_42_code
def yX4_gainOf : MethodName := ⟨RX4, "gainOf", "(LPostunion$Post;LPostunion$Post;)I"⟩
abbrev cX4_begunParts : ByteArray := prog_1_method_43_code
def yX4_begunParts : MethodName := ⟨RX4, "begunParts", "(II)I"⟩
def RX5 : String := "PostunionModel"
def TX5 : u_T := fun k => match k with
  | 0 => ("PostunionModel", "posts", "I", false)
  | 1 => ("PostunionModel", "first", "[I", true)
  | 2 => ("PostunionModel", "further", "[I", true)
  | 3 => ("PostunionModel", "due", "[I", true)
  | 4 => ("PostunionModel", "charge", "[I", true)
  | 5 => ("PostunionModel", "coupon", "[I", true)
  | 6 => ("PostunionModel", "strikes", "[Z", true)
  | 7 => ("PostunionModel", "account", "[J", true)
  | 8 => ("PostunionModel", "till", "[J", true)
  | 9 => ("PostunionModel", "counted", "[J", true)
  | 10 => ("PostunionModel", "legs", "I", false)
  | 11 => ("PostunionModel", "one", "[I", true)
  | 12 => ("PostunionModel", "other", "[I", true)
  | 13 => ("PostunionModel", "legDays", "[I", true)
  | 14 => ("PostunionModel", "isClosed", "[Z", true)
  | 15 => ("PostunionModel", "far", "[I", true)
  | 16 => ("PostunionModel", "things", "I", false)
  | 17 => ("PostunionModel", "kind", "[I", true)
  | 18 => ("PostunionModel", "origin", "[I", true)
  | 19 => ("PostunionModel", "target", "[I", true)
  | 20 => ("PostunionModel", "grams", "[I", true)
  | 21 => ("PostunionModel", "isRegistered", "[Z", true)
  | 22 => ("PostunionModel", "lacks", "[I", true)
  | 23 => ("PostunionModel", "state", "[I", true)
  | 24 => ("PostunionModel", "at", "[I", true)
  | 25 => ("PostunionModel", "on", "[I", true)
  | 26 => ("PostunionModel", "left", "[I", true)
  | 27 => ("PostunionModel", "isBack", "[Z", true)
  | 28 => ("PostunionModel", "isRefused", "[Z", true)
  | 29 => ("PostunionModel", "isClaimed", "[Z", true)
  | 30 => ("PostunionModel", "signed", "I", false)
  | 31 => ("PostunionModel", "post", "[I", true)
  | 32 => ("PostunionModel", "following", "[I", true)
  | 33 => ("PostunionModel", "firstHand", "[I", true)
  | 34 => ("PostunionModel", "lastHand", "[I", true)
  | 35 => ("PostunionModel", "hands", "[I", true)
  | 36 => ("PostunionModel", "isSample", "Z", false)
  | 37 => ("PostunionModel", "best", "[I", true)
  | _ => ("PostunionModel", "thrown", "I", false)
def tyX5 : Nat → FieldType := fun k => match k with
  | 0 => .int
  | 1 => .array .int
  | 2 => .array .int
  | 3 => .array .int
  | 4 => .array .int
  | 5 => .array .int
  | 6 => .array .boolean
  | 7 => .array .long
  | 8 => .array .long
  | 9 => .array .long
  | 10 => .int
  | 11 => .array .int
  | 12 => .array .int
  | 13 => .array .int
  | 14 => .array .boolean
  | 15 => .array .int
  | 16 => .int
  | 17 => .array .int
  | 18 => .array .int
  | 19 => .array .int
  | 20 => .array .int
  | 21 => .array .boolean
  | 22 => .array .int
  | 23 => .array .int
  | 24 => .array .int
  | 25 => .array .int
  | 26 => .array .int
  | 27 => .array .boolean
  | 28 => .array .boolean
  | 29 => .array .boolean
  | 30 => .int
  | 31 => .array .int
  | 32 => .array .int
  | 33 => .array .int
  | 34 => .array .int
  | 35 => .array .int
  | 36 => .boolean
  | 37 => .array .int
  | _ => .int
abbrev wsX50 : List Cond := u_ws RX5 TX5 39
theorem nmX5 : ∀ a, a < 39 → ∀ b, b < 39 → a ≠ b → (TX5 a).2.1 ≠ (TX5 b).2.1 := by decide +kernel
theorem tyX5_ok : ∀ k, k < 39 → parseFieldDescriptor (TX5 k).2.2.1 = some (tyX5 k) := by decide +kernel
abbrev cX5_init : ByteArray := prog_7_method_1_code
def yX5_init : MethodName := ⟨RX5, "<init>", "()V"⟩
abbrev cX5_thrown : ByteArray := prog_7_method_2_code
def yX5_thrown : MethodName := ⟨RX5, "thrown", "()I"⟩
abbrev cX5_fails : ByteArray := prog_7_method_3_code
def yX5_fails : MethodName := ⟨RX5, "fails", "(I)I"⟩
abbrev cX5_asks : ByteArray := prog_7_method_4_code
def yX5_asks : MethodName := ⟨RX5, "asks", "(Z)Z"⟩
abbrev cX5_in : ByteArray := prog_7_method_5_code
def yX5_in : MethodName := ⟨RX5, "in", "(III)Z"⟩
abbrev cX5_isPost : ByteArray := prog_7_method_6_code
def yX5_isPost : MethodName := ⟨RX5, "isPost", "(I)Z"⟩
abbrev cX5_isKind : ByteArray := prog_7_method_7_code
def yX5_isKind : MethodName := ⟨RX5, "isKind", "(I)Z"⟩
abbrev cX5_areGrams : ByteArray := prog_7_method_8_code
def yX5_areGrams : MethodName := ⟨RX5, "areGrams", "(II)Z"⟩
abbrev cX5_post : ByteArray := prog_7_method_9_code
def yX5_post : MethodName := ⟨RX5, "post", "()I"⟩
abbrev cX5_rates : ByteArray := prog_7_method_10_code
def yX5_rates : MethodName := ⟨RX5, "rates", "(IIII)V"⟩
abbrev cX5_due : ByteArray := prog_7_method_11_code
def yX5_due : MethodName := ⟨RX5, "due", "(III)I"⟩
abbrev cX5_charge : ByteArray := prog_7_method_12_code
def yX5_charge : MethodName := ⟨RX5, "charge", "(II)I"⟩
abbrev cX5_coupon : ByteArray := prog_7_method_13_code
def yX5_coupon : MethodName := ⟨RX5, "coupon", "(II)I"⟩
abbrev cX5_strike : ByteArray := prog_7_method_14_code
def yX5_strike : MethodName := ⟨RX5, "strike", "(IZ)Z"⟩
abbrev cX5_leg : ByteArray := prog_7_method_15_code
def yX5_leg : MethodName := ⟨RX5, "leg", "(III)I"⟩
abbrev cX5_close : ByteArray := prog_7_method_16_code
def yX5_close : MethodName := ⟨RX5, "close", "(IZ)Z"⟩
abbrev cX5_across : ByteArray := prog_7_method_17_code
def yX5_across : MethodName := ⟨RX5, "across", "(II)I"⟩
abbrev cX5_ends : ByteArray := prog_7_method_18_code
def yX5_ends : MethodName := ⟨RX5, "ends", "(II)Z"⟩
abbrev cX5_measures : ByteArray := prog_7_method_19_code
def yX5_measures : MethodName := ⟨RX5, "measures", "(I)V"⟩
abbrev cX5_daysTold : ByteArray := prog_7_method_20_code
def yX5_daysTold : MethodName := ⟨RX5, "daysTold", "(II)I"⟩
abbrev cX5_days : ByteArray := prog_7_method_21_code
def yX5_days : MethodName := ⟨RX5, "days", "(II)I"⟩
abbrev cX5_daysAnew : ByteArray := prog_7_method_22_code
def yX5_daysAnew : MethodName := ⟨RX5, "daysAnew", "(II)I"⟩
abbrev cX5_nextOf : ByteArray := prog_7_method_23_code
def yX5_nextOf : MethodName := ⟨RX5, "nextOf", "(II)I"⟩
abbrev cX5_next : ByteArray := prog_7_method_24_code
def yX5_next : MethodName := ⟨RX5, "next", "(II)I"⟩
abbrev cX5_rateOf : ByteArray := prog_7_method_25_code
def yX5_rateOf : MethodName := ⟨RX5, "rateOf", "(IIIZ)I"⟩
abbrev cX5_signs : ByteArray := prog_7_method_26_code
def yX5_signs : MethodName := ⟨RX5, "signs", "(II)V"⟩
abbrev cX5_mail : ByteArray := prog_7_method_27_code
def yX5_mail : MethodName := ⟨RX5, "mail", "(IIIIIZ)I"⟩
abbrev cX5_isThing : ByteArray := prog_7_method_28_code
def yX5_isThing : MethodName := ⟨RX5, "isThing", "(I)Z"⟩
abbrev cX5_isUnderWay : ByteArray := prog_7_method_29_code
def yX5_isUnderWay : MethodName := ⟨RX5, "isUnderWay", "(I)Z"⟩
abbrev cX5_redirect : ByteArray := prog_7_method_30_code
def yX5_redirect : MethodName := ⟨RX5, "redirect", "(II)I"⟩
abbrev cX5_refuse : ByteArray := prog_7_method_31_code
def yX5_refuse : MethodName := ⟨RX5, "refuse", "(IZ)Z"⟩
abbrev cX5_taxOf : ByteArray := prog_7_method_32_code
def yX5_taxOf : MethodName := ⟨RX5, "taxOf", "(I)J"⟩
abbrev cX5_pays : ByteArray := prog_7_method_33_code
def yX5_pays : MethodName := ⟨RX5, "pays", "(IIJ)V"⟩
abbrev cX5_comes : ByteArray := prog_7_method_34_code
def yX5_comes : MethodName := ⟨RX5, "comes", "(I)I"⟩
abbrev cX5_travels : ByteArray := prog_7_method_35_code
def yX5_travels : MethodName := ⟨RX5, "travels", "(I)I"⟩
abbrev cX5_leaves : ByteArray := prog_7_method_36_code
def yX5_leaves : MethodName := ⟨RX5, "leaves", "(I)V"⟩
abbrev cX5_go : ByteArray := prog_7_method_37_code
def yX5_go : MethodName := ⟨RX5, "go", "(I)I"⟩
abbrev cX5_lose : ByteArray := prog_7_method_38_code
def yX5_lose : MethodName := ⟨RX5, "lose", "(I)I"⟩
abbrev cX5_paysFor : ByteArray := prog_7_method_39_code
def yX5_paysFor : MethodName := ⟨RX5, "paysFor", "(III)I"⟩
abbrev cX5_claim : ByteArray := prog_7_method_40_code
def yX5_claim : MethodName := ⟨RX5, "claim", "(I)I"⟩
abbrev cX5_sample : ByteArray := prog_7_method_41_code
def yX5_sample : MethodName := ⟨RX5, "sample", "(Z)Z"⟩
abbrev cX5_settle : ByteArray := prog_7_method_42_code
def yX5_settle : MethodName := ⟨RX5, "settle", "(I)J"⟩
abbrev cX5_rate : ByteArray := prog_7_method_43_code
def yX5_rate : MethodName := ⟨RX5, "rate", "(IIIZ)I"⟩
abbrev cX5_ofThing : ByteArray := prog_7_method_44_code
def yX5_ofThing : MethodName := ⟨RX5, "ofThing", "(II)J"⟩
abbrev cX5_hand : ByteArray := prog_7_method_45_code
def yX5_hand : MethodName := ⟨RX5, "hand", "(II)I"⟩
abbrev cX5_account : ByteArray := prog_7_method_46_code
def yX5_account : MethodName := ⟨RX5, "account", "(I)J"⟩
abbrev cX5_till : ByteArray := prog_7_method_47_code
def yX5_till : MethodName := ⟨RX5, "till", "(I)J"⟩
abbrev cX5_counted : ByteArray := prog_7_method_48_code
def yX5_counted : MethodName := ⟨RX5, "counted", "(II)J"⟩
abbrev cX5_gain : ByteArray := prog_7_method_49_code
def yX5_gain : MethodName := ⟨RX5, "gain", "(I)I"⟩
def RJx145de : String := "java/io/Serializable"
def TJx145de : u_T := fun k => match k with
  | _ => ("", "", "", false)
def tyJx145de : Nat → FieldType := fun k => match k with
  | _ => .int
abbrev wsJx145de0 : List Cond := u_ws RJx145de TJx145de 0
theorem nmJx145de : ∀ a, a < 0 → ∀ b, b < 0 → a ≠ b → (TJx145de a).2.1 ≠ (TJx145de b).2.1 := by decide +kernel
theorem tyJx145de_ok : ∀ k, k < 0 → parseFieldDescriptor (TJx145de k).2.2.1 = some (tyJx145de k) := by decide +kernel
def RJx8e188 : String := "java/lang/Cloneable"
def TJx8e188 : u_T := fun k => match k with
  | _ => ("", "", "", false)
def tyJx8e188 : Nat → FieldType := fun k => match k with
  | _ => .int
abbrev wsJx8e1880 : List Cond := u_ws RJx8e188 TJx8e188 0
theorem nmJx8e188 : ∀ a, a < 0 → ∀ b, b < 0 → a ≠ b → (TJx8e188 a).2.1 ≠ (TJx8e188 b).2.1 := by decide +kernel
theorem tyJx8e188_ok : ∀ k, k < 0 → parseFieldDescriptor (TJx8e188 k).2.2.1 = some (tyJx8e188 k) := by decide +kernel
def RJ9 : String := "java/lang/Math"
def TJ9 : u_T := fun k => match k with
  | _ => ("", "", "", false)
def tyJ9 : Nat → FieldType := fun k => match k with
  | _ => .int
abbrev wsJ90 : List Cond := u_ws RJ9 TJ9 0
theorem nmJ9 : ∀ a, a < 0 → ∀ b, b < 0 → a ≠ b → (TJ9 a).2.1 ≠ (TJ9 b).2.1 := by decide +kernel
theorem tyJ9_ok : ∀ k, k < 0 → parseFieldDescriptor (TJ9 k).2.2.1 = some (tyJ9 k) := by decide +kernel
abbrev cJ9_max_7cf53 : ByteArray := prog_13_method_65_code
def yJ9_max_7cf53 : MethodName := ⟨RJ9, "max", "(II)I"⟩
abbrev cJ9_min_7cf53 : ByteArray := prog_13_method_69_code
def yJ9_min_7cf53 : MethodName := ⟨RJ9, "min", "(II)I"⟩
def RJ0 : String := "java/lang/String"
def TJ0 : u_T := fun k => match k with
  | _ => ("", "", "", false)
def tyJ0 : Nat → FieldType := fun k => match k with
  | _ => .int
abbrev wsJ00 : List Cond := u_ws RJ0 TJ0 0
theorem nmJ0 : ∀ a, a < 0 → ∀ b, b < 0 → a ≠ b → (TJ0 a).2.1 ≠ (TJ0 b).2.1 := by decide +kernel
theorem tyJ0_ok : ∀ k, k < 0 → parseFieldDescriptor (TJ0 k).2.2.1 = some (tyJ0 k) := by decide +kernel
def RJ10 : String := "java/lang/System"
def TJ10 : u_T := fun k => match k with
  | _ => ("", "", "", false)
def tyJ10 : Nat → FieldType := fun k => match k with
  | _ => .int
abbrev wsJ100 : List Cond := u_ws RJ10 TJ10 0
theorem nmJ10 : ∀ a, a < 0 → ∀ b, b < 0 → a ≠ b → (TJ10 a).2.1 ≠ (TJ10 b).2.1 := by decide +kernel
theorem tyJ10_ok : ∀ k, k < 0 → parseFieldDescriptor (TJ10 k).2.2.1 = some (tyJ10 k) := by decide +kernel
def RJ7 : String := "java/util/Arrays"
def TJ7 : u_T := fun k => match k with
  | _ => ("", "", "", false)
def tyJ7 : Nat → FieldType := fun k => match k with
  | _ => .int
abbrev wsJ70 : List Cond := u_ws RJ7 TJ7 0
theorem nmJ7 : ∀ a, a < 0 → ∀ b, b < 0 → a ≠ b → (TJ7 a).2.1 ≠ (TJ7 b).2.1 := by decide +kernel
theorem tyJ7_ok : ∀ k, k < 0 → parseFieldDescriptor (TJ7 k).2.2.1 = some (tyJ7 k) := by decide +kernel
abbrev cJ7_fill_53178 : ByteArray := prog_18_method_103_code
def yJ7_fill_53178 : MethodName := ⟨RJ7, "fill", "([II)V"⟩
abbrev cJ7_copyOf_59c91 : ByteArray := prog_18_method_123_code
def yJ7_copyOf_59c91 : MethodName := ⟨RJ7, "copyOf", "([II)[I"⟩
def RL : String := "PostunionLaw"
abbrev cL_post : ByteArray := method_3_code
def yL_post : MethodName := ⟨RL, "post", "(LPostunion;[J)I"⟩
abbrev cL_rates : ByteArray := method_4_code
def yL_rates : MethodName := ⟨RL, "rates", "(LPostunion;IIII)I"⟩
abbrev cL_due : ByteArray := method_5_code
def yL_due : MethodName := ⟨RL, "due", "(LPostunion;III[J)I"⟩
abbrev cL_charge : ByteArray := method_6_code
def yL_charge : MethodName := ⟨RL, "charge", "(LPostunion;II[J)I"⟩
abbrev cL_coupon : ByteArray := method_7_code
def yL_coupon : MethodName := ⟨RL, "coupon", "(LPostunion;II[J)I"⟩
abbrev cL_strike : ByteArray := method_8_code
def yL_strike : MethodName := ⟨RL, "strike", "(LPostunion;IZ[J)I"⟩
abbrev cL_leg : ByteArray := method_9_code
def yL_leg : MethodName := ⟨RL, "leg", "(LPostunion;III[J)I"⟩
abbrev cL_close : ByteArray := method_10_code
def yL_close : MethodName := ⟨RL, "close", "(LPostunion;IZ[J)I"⟩
abbrev cL_days : ByteArray := method_11_code
def yL_days : MethodName := ⟨RL, "days", "(LPostunion;II[J)I"⟩
abbrev cL_daysAnew : ByteArray := method_12_code
def yL_daysAnew : MethodName := ⟨RL, "daysAnew", "(LPostunion;II[J)I"⟩
abbrev cL_next : ByteArray := method_13_code
def yL_next : MethodName := ⟨RL, "next", "(LPostunion;II[J)I"⟩
abbrev cL_mail : ByteArray := method_14_code
def yL_mail : MethodName := ⟨RL, "mail", "(LPostunion;IIIIIZ[J)I"⟩
abbrev cL_redirect : ByteArray := method_15_code
def yL_redirect : MethodName := ⟨RL, "redirect", "(LPostunion;II[J)I"⟩
abbrev cL_refuse : ByteArray := method_16_code
def yL_refuse : MethodName := ⟨RL, "refuse", "(LPostunion;IZ[J)I"⟩
abbrev cL_go : ByteArray := method_17_code
def yL_go : MethodName := ⟨RL, "go", "(LPostunion;I[J)I"⟩
abbrev cL_lose : ByteArray := method_18_code
def yL_lose : MethodName := ⟨RL, "lose", "(LPostunion;I[J)I"⟩
abbrev cL_claim : ByteArray := method_19_code
def yL_claim : MethodName := ⟨RL, "claim", "(LPostunion;I[J)I"⟩
abbrev cL_settle : ByteArray := method_20_code
def yL_settle : MethodName := ⟨RL, "settle", "(LPostunion;I[J)I"⟩
abbrev cL_rate : ByteArray := method_21_code
def yL_rate : MethodName := ⟨RL, "rate", "(LPostunion;IIIZ[J)I"⟩
abbrev cL_ofThing : ByteArray := method_22_code
def yL_ofThing : MethodName := ⟨RL, "ofThing", "(LPostunion;II[J)I"⟩
abbrev cL_hand : ByteArray := method_23_code
def yL_hand : MethodName := ⟨RL, "hand", "(LPostunion;II[J)I"⟩
abbrev cL_account : ByteArray := method_24_code
def yL_account : MethodName := ⟨RL, "account", "(LPostunion;I[J)I"⟩
abbrev cL_till : ByteArray := method_25_code
def yL_till : MethodName := ⟨RL, "till", "(LPostunion;I[J)I"⟩
abbrev cL_counted : ByteArray := method_26_code
def yL_counted : MethodName := ⟨RL, "counted", "(LPostunion;II[J)I"⟩
abbrev cL_gain : ByteArray := method_27_code
def yL_gain : MethodName := ⟨RL, "gain", "(LPostunion;I[J)I"⟩
abbrev cL_law : ByteArray := code
def yL_law : MethodName := ⟨RL, "law", "([I)Z"⟩
abbrev vwCl : List vw_C := [(RX0, TX0, 4), (RX1, TX1, 10), (RX2, TX2, 5), (RX3, TX3, 15), (RX4, TX4, 6), (RX5, TX5, 39)]
def xdec (cc : ByteArray) (l : List (Nat × Instr × Nat)) : Bool := l.all fun q => decide (decode cc q.1 = .ok (q.2.1, q.2.2))
theorem xdec_at {cc : ByteArray} {l : List (Nat × Instr × Nat)} (h : xdec cc l = true) (i : Nat) {pc n : Nat} {ins : Instr} (hi : l[i]? = some (pc, ins, n)) : decode cc pc = .ok (ins, n) := by
  have h1 := List.all_eq_true.mp h (pc, ins, n) (List.mem_of_getElem? hi)
  simp only [decide_eq_true_eq] at h1
  exact h1
end
section
def lX0_init_0 : List (Nat × Instr × Nat) := [(0, .aload_n 0, 1), (1, .invokespecial 3, 3), (4, .aload_n 0, 1), (5, .iconst 0, 1), (6, .putfield 9, 3), (9, .aload_n 0, 1), (10, .aload_n 1, 1), (11, .putfield 15, 3), (14, .aload_n 0, 1), (15, .aload_n 2, 1), (16, .putfield 19, 3), (19, .aload_n 0, 1), (20, .iload_n 3, 1), (21, .putfield 22, 3), (24, .return_, 1)]
set_option maxRecDepth 100000 in
theorem tX0_init_0 : xdec cX0_init lX0_init_0 = true := by decide +kernel
def lX0_farEnd_0 : List (Nat × Instr × Nat) := [(0, .aload_n 1, 1), (1, .aload_n 0, 1), (2, .getfield 15, 3), (5, .if_acmp .ne 10, 3), (8, .aload_n 0, 1), (9, .getfield 19, 3), (12, .goto 7, 3), (15, .aload_n 0, 1), (16, .getfield 15, 3), (19, .areturn, 1)]
set_option maxRecDepth 100000 in
theorem tX0_farEnd_0 : xdec cX0_farEnd lX0_farEnd_0 = true := by decide +kernel
def lX0_leadsTo_0 : List (Nat × Instr × Nat) := [(0, .aload_n 0, 1), (1, .getfield 9, 3), (4, .ifCond .eq 5, 3), (7, .iconst (-1), 1), (8, .ireturn, 1), (9, .iload_n 1, 1), (10, .aload_n 0, 1), (11, .getfield 15, 3), (14, .getfield 26, 3), (17, .if_icmp .ne 13, 3), (20, .aload_n 0, 1), (21, .getfield 19, 3), (24, .getfield 26, 3), (27, .goto 25, 3), (30, .iload_n 1, 1), (31, .aload_n 0, 1), (32, .getfield 19, 3), (35, .getfield 26, 3), (38, .if_icmp .ne 13, 3), (41, .aload_n 0, 1), (42, .getfield 15, 3), (45, .getfield 26, 3), (48, .goto 4, 3), (51, .iconst (-1), 1), (52, .ireturn, 1)]
set_option maxRecDepth 100000 in
theorem tX0_leadsTo_0 : xdec cX0_leadsTo lX0_leadsTo_0 = true := by decide +kernel
def lX1_init_0 : List (Nat × Instr × Nat) := [(0, .aload_n 0, 1), (1, .invokespecial 3, 3), (4, .aload_n 0, 1), (5, .iconst 3, 1), (6, .newarray .int, 2), (8, .putfield 9, 3), (11, .aload_n 0, 1), (12, .iconst 3, 1), (13, .newarray .int, 2), (15, .putfield 15, 3), (18, .aload_n 0, 1), (19, .iconst 3, 1), (20, .newarray .int, 2), (22, .putfield 18, 3), (25, .aload_n 0, 1), (26, .bipush 8, 2), (28, .newarray .long, 2), (30, .putfield 21, 3), (33, .aload_n 0, 1), (34, .iconst 0, 1), (35, .putfield 25, 3), (38, .aload_n 0, 1), (39, .iconst 0, 1), (40, .putfield 29, 3), (43, .aload_n 0, 1), (44, .iconst 0, 1), (45, .putfield 32, 3), (48, .aload_n 0, 1), (49, .lconst 0, 1), (50, .putfield 36, 3), (53, .aload_n 0, 1), (54, .lconst 0, 1), (55, .putfield 40, 3), (58, .aload_n 0, 1), (59, .iload_n 1, 1), (60, .putfield 43, 3), (63, .return_, 1)]
set_option maxRecDepth 100000 in
theorem tX1_init_0 : xdec cX1_init lX1_init_0 = true := by decide +kernel
def lX1_rateOf_0 : List (Nat × Instr × Nat) := [(0, .aload_n 0, 1), (1, .getfield 15, 3), (4, .iload_n 1, 1), (5, .iaload, 1), (6, .iload_n 2, 1), (7, .bipush 20, 2), (9, .isub, 1), (10, .bipush 20, 2), (12, .invokestatic 46, 3), (15, .imul, 1), (16, .istore 4, 2), (18, .aload_n 0, 1), (19, .getfield 9, 3), (22, .iload_n 1, 1), (23, .iaload, 1), (24, .iload 4, 2), (26, .iadd, 1), (27, .iload_n 3, 1), (28, .ifCond .eq 8, 3), (31, .bipush 50, 2), (33, .goto 4, 3), (36, .iconst 0, 1), (37, .iadd, 1), (38, .ireturn, 1)]
set_option maxRecDepth 100000 in
theorem tX1_rateOf_0 : xdec cX1_rateOf lX1_rateOf_0 = true := by decide +kernel
def lX1_chargeFor_0 : List (Nat × Instr × Nat) := [(0, .aload_n 0, 1), (1, .getfield 25, 3), (4, .i2l, 1), (5, .iload_n 1, 1), (6, .bipush 10, 2), (8, .invokestatic 46, 3), (11, .i2l, 1), (12, .lmul, 1), (13, .lreturn, 1)]
set_option maxRecDepth 100000 in
theorem tX1_chargeFor_0 : xdec cX1_chargeFor lX1_chargeFor_0 = true := by decide +kernel
def lX2_init_0 : List (Nat × Instr × Nat) := [(0, .aload_n 0, 1), (1, .invokespecial 3, 3), (4, .aload_n 0, 1), (5, .bipush 20, 2), (7, .anewarray 9, 3), (10, .putfield 11, 3), (13, .aload_n 0, 1), (14, .bipush 64, 2), (16, .newarray .int, 2), (18, .putfield 17, 3), (21, .aload_n 0, 1), (22, .bipush 64, 2), (24, .newarray .int, 2), (26, .putfield 21, 3), (29, .aload_n 0, 1), (30, .bipush 64, 2), (32, .newarray .int, 2), (34, .putfield 24, 3), (37, .aload_n 0, 1), (38, .iconst 0, 1), (39, .putfield 27, 3), (42, .aload_n 0, 1), (43, .invokevirtual 31, 3), (46, .return_, 1)]
set_option maxRecDepth 100000 in
theorem tX2_init_0 : xdec cX2_init lX2_init_0 = true := by decide +kernel
def lX2_addLeg_0 : List (Nat × Instr × Nat) := [(0, .aload_n 0, 1), (1, .getfield 27, 3), (4, .bipush 20, 2), (6, .if_icmp .lt 5, 3), (9, .iconst (-1), 1), (10, .ireturn, 1), (11, .aload_n 0, 1), (12, .getfield 11, 3), (15, .aload_n 0, 1), (16, .getfield 27, 3), (19, .new 9, 3), (22, .dup, 1), (23, .aload_n 1, 1), (24, .aload_n 2, 1), (25, .iload_n 3, 1), (26, .invokespecial 34, 3), (29, .aastore, 1), (30, .aload_n 0, 1), (31, .dup, 1), (32, .getfield 27, 3), (35, .iconst 1, 1), (36, .iadd, 1), (37, .putfield 27, 3), (40, .aload_n 0, 1), (41, .invokevirtual 31, 3), (44, .aload_n 0, 1), (45, .getfield 27, 3), (48, .iconst 1, 1), (49, .isub, 1), (50, .ireturn, 1)]
set_option maxRecDepth 100000 in
theorem tX2_addLeg_0 : xdec cX2_addLeg lX2_addLeg_0 = true := by decide +kernel
def lX2_legOf_0 : List (Nat × Instr × Nat) := [(0, .iload_n 1, 1), (1, .ifCond .lt 20, 3), (4, .iload_n 1, 1), (5, .aload_n 0, 1), (6, .getfield 27, 3), (9, .if_icmp .ge 12, 3), (12, .aload_n 0, 1), (13, .getfield 11, 3), (16, .iload_n 1, 1), (17, .aaload, 1), (18, .goto 4, 3), (21, .aconst_null, 1), (22, .areturn, 1)]
set_option maxRecDepth 100000 in
theorem tX2_legOf_0 : xdec cX2_legOf lX2_legOf_0 = true := by decide +kernel
def lX2_setClosed_0 : List (Nat × Instr × Nat) := [(0, .aload_n 1, 1), (1, .getfield 37, 3), (4, .istore_n 3, 1), (5, .aload_n 1, 1), (6, .iload_n 2, 1), (7, .putfield 37, 3), (10, .iload_n 3, 1), (11, .iload_n 2, 1), (12, .if_icmp .eq 7, 3), (15, .aload_n 0, 1), (16, .invokevirtual 31, 3), (19, .iload_n 3, 1), (20, .ireturn, 1)]
set_option maxRecDepth 100000 in
theorem tX2_setClosed_0 : xdec cX2_setClosed lX2_setClosed_0 = true := by decide +kernel
def lX2_leastDays_0 : List (Nat × Instr × Nat) := [(0, .aload_n 0, 1), (1, .getfield 21, 3), (4, .aload_n 1, 1), (5, .getfield 41, 3), (8, .aload_n 2, 1), (9, .getfield 41, 3), (12, .invokestatic 46, 3), (15, .iaload, 1), (16, .invokestatic 50, 3), (19, .ireturn, 1)]
set_option maxRecDepth 100000 in
theorem tX2_leastDays_0 : xdec cX2_leastDays lX2_leastDays_0 = true := by decide +kernel
def lX2_leastDaysOfAllWays_0 : List (Nat × Instr × Nat) := [(0, .aload_n 0, 1), (1, .getfield 17, 3), (4, .aload_n 1, 1), (5, .getfield 41, 3), (8, .aload_n 2, 1), (9, .getfield 41, 3), (12, .iconst 1, 1), (13, .aload_n 1, 1), (14, .getfield 41, 3), (17, .ishl, 1), (18, .iconst 0, 1), (19, .invokestatic 54, 3), (22, .invokestatic 50, 3), (25, .ireturn, 1)]
set_option maxRecDepth 100000 in
theorem tX2_leastDaysOfAllWays_0 : xdec cX2_leastDaysOfAllWays lX2_leastDaysOfAllWays_0 = true := by decide +kernel
def lX2_onwardLeg_0 : List (Nat × Instr × Nat) := [(0, .aload_n 0, 1), (1, .getfield 24, 3), (4, .aload_n 1, 1), (5, .getfield 41, 3), (8, .aload_n 2, 1), (9, .getfield 41, 3), (12, .invokestatic 46, 3), (15, .iaload, 1), (16, .ireturn, 1)]
set_option maxRecDepth 100000 in
theorem tX2_onwardLeg_0 : xdec cX2_onwardLeg lX2_onwardLeg_0 = true := by decide +kernel
def lX2_cell_0 : List (Nat × Instr × Nat) := [(0, .iload_n 0, 1), (1, .bipush 8, 2), (3, .imul, 1), (4, .iload_n 1, 1), (5, .iadd, 1), (6, .ireturn, 1)]
set_option maxRecDepth 100000 in
theorem tX2_cell_0 : xdec cX2_cell lX2_cell_0 = true := by decide +kernel
def lX2_noneIfFar_0 : List (Nat × Instr × Nat) := [(0, .iload_n 0, 1), (1, .ldc 58, 2), (3, .if_icmp .ge 7, 3), (6, .iload_n 0, 1), (7, .goto 4, 3), (10, .iconst (-1), 1), (11, .ireturn, 1)]
set_option maxRecDepth 100000 in
theorem tX2_noneIfFar_0 : xdec cX2_noneIfFar lX2_noneIfFar_0 = true := by decide +kernel
def lX2_leastOfWays_0 : List (Nat × Instr × Nat) := [(0, .iload_n 1, 1), (1, .iload_n 2, 1), (2, .if_icmp .ne 5, 3), (5, .iconst 0, 1), (6, .ireturn, 1), (7, .ldc 58, 2), (9, .istore 5, 2), (11, .iload 4, 2), (13, .bipush 8, 2), (15, .if_icmp .lt 6, 3), (18, .iload 5, 2), (20, .ireturn, 1), (21, .iconst 0, 1), (22, .istore 6, 2), (24, .iload 6, 2), (26, .bipush 8, 2), (28, .if_icmp .ge 66, 3), (31, .aload_n 0, 1), (32, .iload_n 1, 1), (33, .iload 6, 2), (35, .invokestatic 46, 3), (38, .iaload, 1), (39, .istore 7, 2), (41, .iload 7, 2), (43, .ldc 58, 2), (45, .if_icmp .ge 43, 3), (48, .iload_n 3, 1), (49, .iconst 1, 1), (50, .iload 6, 2), (52, .ishl, 1), (53, .iand, 1), (54, .ifCond .ne 34, 3), (57, .aload_n 0, 1), (58, .iload 6, 2), (60, .iload_n 2, 1), (61, .iload_n 3, 1), (62, .iconst 1, 1), (63, .iload 6, 2), (65, .ishl, 1), (66, .ior, 1)]
set_option maxRecDepth 100000 in
theorem tX2_leastOfWays_0 : xdec cX2_leastOfWays lX2_leastOfWays_0 = true := by decide +kernel
def lX2_leastOfWays_1 : List (Nat × Instr × Nat) := [(67, .iload 4, 2), (69, .iconst 1, 1), (70, .iadd, 1), (71, .invokestatic 54, 3), (74, .istore 8, 2), (76, .iload 5, 2), (78, .iload 7, 2), (80, .iload 8, 2), (82, .iadd, 1), (83, .invokestatic 59, 3), (86, .istore 5, 2), (88, .iinc 6 1, 3), (91, .goto (-67), 3), (94, .iload 5, 2), (96, .ireturn, 1)]
set_option maxRecDepth 100000 in
theorem tX2_leastOfWays_1 : xdec cX2_leastOfWays lX2_leastOfWays_1 = true := by decide +kernel
def lX2_reckon_0 : List (Nat × Instr × Nat) := [(0, .aload_n 0, 1), (1, .invokevirtual 64, 3), (4, .aload_n 0, 1), (5, .invokevirtual 67, 3), (8, .aload_n 0, 1), (9, .invokevirtual 70, 3), (12, .return_, 1)]
set_option maxRecDepth 100000 in
theorem tX2_reckon_0 : xdec cX2_reckon lX2_reckon_0 = true := by decide +kernel
def lX2_reckonDirect_0 : List (Nat × Instr × Nat) := [(0, .aload_n 0, 1), (1, .getfield 17, 3), (4, .ldc 58, 2), (6, .invokestatic 73, 3), (9, .iconst 0, 1), (10, .istore_n 1, 1), (11, .iload_n 1, 1), (12, .aload_n 0, 1), (13, .getfield 27, 3), (16, .if_icmp .ge 67, 3), (19, .aload_n 0, 1), (20, .getfield 11, 3), (23, .iload_n 1, 1), (24, .aaload, 1), (25, .astore_n 2, 1), (26, .aload_n 2, 1), (27, .getfield 37, 3), (30, .ifCond .ne 47, 3), (33, .aload_n 0, 1), (34, .aload_n 2, 1), (35, .getfield 79, 3), (38, .getfield 41, 3), (41, .aload_n 2, 1), (42, .getfield 83, 3), (45, .getfield 41, 3), (48, .aload_n 2, 1), (49, .getfield 86, 3), (52, .invokevirtual 89, 3), (55, .aload_n 0, 1), (56, .aload_n 2, 1), (57, .getfield 83, 3), (60, .getfield 41, 3), (63, .aload_n 2, 1), (64, .getfield 79, 3), (67, .getfield 41, 3), (70, .aload_n 2, 1), (71, .getfield 86, 3), (74, .invokevirtual 89, 3), (77, .iinc 1 1, 3), (80, .goto (-69), 3)]
set_option maxRecDepth 100000 in
theorem tX2_reckonDirect_0 : xdec cX2_reckonDirect lX2_reckonDirect_0 = true := by decide +kernel
def lX2_reckonDirect_1 : List (Nat × Instr × Nat) := [(83, .return_, 1)]
set_option maxRecDepth 100000 in
theorem tX2_reckonDirect_1 : xdec cX2_reckonDirect lX2_reckonDirect_1 = true := by decide +kernel
def lX2_shorten_0 : List (Nat × Instr × Nat) := [(0, .aload_n 0, 1), (1, .getfield 17, 3), (4, .iload_n 1, 1), (5, .iload_n 2, 1), (6, .invokestatic 46, 3), (9, .aload_n 0, 1), (10, .getfield 17, 3), (13, .iload_n 1, 1), (14, .iload_n 2, 1), (15, .invokestatic 46, 3), (18, .iaload, 1), (19, .iload_n 3, 1), (20, .invokestatic 59, 3), (23, .iastore, 1), (24, .return_, 1)]
set_option maxRecDepth 100000 in
theorem tX2_shorten_0 : xdec cX2_shorten lX2_shorten_0 = true := by decide +kernel
def lX2_reckonLeast_0 : List (Nat × Instr × Nat) := [(0, .aload_n 0, 1), (1, .getfield 17, 3), (4, .iconst 0, 1), (5, .aload_n 0, 1), (6, .getfield 21, 3), (9, .iconst 0, 1), (10, .aload_n 0, 1), (11, .getfield 17, 3), (14, .arraylength, 1), (15, .invokestatic 93, 3), (18, .iconst 0, 1), (19, .istore_n 1, 1), (20, .iload_n 1, 1), (21, .bipush 8, 2), (23, .if_icmp .ge 20, 3), (26, .aload_n 0, 1), (27, .getfield 21, 3), (30, .iload_n 1, 1), (31, .iload_n 1, 1), (32, .invokestatic 46, 3), (35, .iconst 0, 1), (36, .iastore, 1), (37, .iinc 1 1, 3), (40, .goto (-20), 3), (43, .iconst 0, 1), (44, .istore_n 1, 1), (45, .iload_n 1, 1), (46, .bipush 8, 2), (48, .if_icmp .ge 85, 3), (51, .iconst 0, 1), (52, .istore_n 2, 1), (53, .iload_n 2, 1), (54, .bipush 8, 2), (56, .if_icmp .ge 71, 3), (59, .iconst 0, 1), (60, .istore_n 3, 1), (61, .iload_n 3, 1), (62, .bipush 8, 2), (64, .if_icmp .ge 57, 3), (67, .aload_n 0, 1)]
set_option maxRecDepth 100000 in
theorem tX2_reckonLeast_0 : xdec cX2_reckonLeast lX2_reckonLeast_0 = true := by decide +kernel
def lX2_reckonLeast_1 : List (Nat × Instr × Nat) := [(68, .getfield 21, 3), (71, .iload_n 2, 1), (72, .iload_n 1, 1), (73, .invokestatic 46, 3), (76, .iaload, 1), (77, .aload_n 0, 1), (78, .getfield 21, 3), (81, .iload_n 1, 1), (82, .iload_n 3, 1), (83, .invokestatic 46, 3), (86, .iaload, 1), (87, .iadd, 1), (88, .istore 4, 2), (90, .aload_n 0, 1), (91, .getfield 21, 3), (94, .iload_n 2, 1), (95, .iload_n 3, 1), (96, .invokestatic 46, 3), (99, .aload_n 0, 1), (100, .getfield 21, 3), (103, .iload_n 2, 1), (104, .iload_n 3, 1), (105, .invokestatic 46, 3), (108, .iaload, 1), (109, .iload 4, 2), (111, .invokestatic 59, 3), (114, .iastore, 1), (115, .iinc 3 1, 3), (118, .goto (-57), 3), (121, .iinc 2 1, 3), (124, .goto (-71), 3), (127, .iinc 1 1, 3), (130, .goto (-85), 3), (133, .return_, 1)]
set_option maxRecDepth 100000 in
theorem tX2_reckonLeast_1 : xdec cX2_reckonLeast lX2_reckonLeast_1 = true := by decide +kernel
def lX2_reckonOnward_0 : List (Nat × Instr × Nat) := [(0, .iconst 0, 1), (1, .istore_n 1, 1), (2, .iload_n 1, 1), (3, .bipush 8, 2), (5, .if_icmp .ge 39, 3), (8, .iconst 0, 1), (9, .istore_n 2, 1), (10, .iload_n 2, 1), (11, .bipush 8, 2), (13, .if_icmp .ge 25, 3), (16, .aload_n 0, 1), (17, .getfield 24, 3), (20, .iload_n 1, 1), (21, .iload_n 2, 1), (22, .invokestatic 46, 3), (25, .aload_n 0, 1), (26, .iload_n 1, 1), (27, .iload_n 2, 1), (28, .invokevirtual 99, 3), (31, .iastore, 1), (32, .iinc 2 1, 3), (35, .goto (-25), 3), (38, .iinc 1 1, 3), (41, .goto (-39), 3), (44, .return_, 1)]
set_option maxRecDepth 100000 in
theorem tX2_reckonOnward_0 : xdec cX2_reckonOnward lX2_reckonOnward_0 = true := by decide +kernel
def lX2_firstLegOf_0 : List (Nat × Instr × Nat) := [(0, .iconst (-1), 1), (1, .istore_n 3, 1), (2, .bipush 8, 2), (4, .istore 4, 2), (6, .iconst 0, 1), (7, .istore 5, 2), (9, .iload 5, 2), (11, .aload_n 0, 1), (12, .getfield 27, 3), (15, .if_icmp .ge 76, 3), (18, .aload_n 0, 1), (19, .getfield 11, 3), (22, .iload 5, 2), (24, .aaload, 1), (25, .astore 6, 2), (27, .aload 6, 2), (29, .iload_n 1, 1), (30, .invokevirtual 102, 3), (33, .istore 7, 2), (35, .iload 7, 2), (37, .iconst (-1), 1), (38, .if_icmp .eq 47, 3), (41, .iload 7, 2), (43, .iload 4, 2), (45, .if_icmp .ge 40, 3), (48, .aload 6, 2), (50, .getfield 86, 3), (53, .aload_n 0, 1), (54, .getfield 21, 3), (57, .iload 7, 2), (59, .iload_n 2, 1), (60, .invokestatic 46, 3), (63, .iaload, 1), (64, .iadd, 1), (65, .aload_n 0, 1), (66, .getfield 21, 3), (69, .iload_n 1, 1), (70, .iload_n 2, 1), (71, .invokestatic 46, 3), (74, .iaload, 1)]
set_option maxRecDepth 100000 in
theorem tX2_firstLegOf_0 : xdec cX2_firstLegOf lX2_firstLegOf_0 = true := by decide +kernel
def lX2_firstLegOf_1 : List (Nat × Instr × Nat) := [(75, .if_icmp .ne 10, 3), (78, .iload 5, 2), (80, .istore_n 3, 1), (81, .iload 7, 2), (83, .istore 4, 2), (85, .iinc 5 1, 3), (88, .goto (-79), 3), (91, .iload_n 3, 1), (92, .ireturn, 1)]
set_option maxRecDepth 100000 in
theorem tX2_firstLegOf_1 : xdec cX2_firstLegOf lX2_firstLegOf_1 = true := by decide +kernel
def lX3_init_0 : List (Nat × Instr × Nat) := [(0, .aload_n 0, 1), (1, .invokespecial 3, 3), (4, .aload_n 0, 1), (5, .aconst_null, 1), (6, .putfield 9, 3), (9, .aload_n 0, 1), (10, .iconst 0, 1), (11, .putfield 15, 3), (14, .aload_n 0, 1), (15, .iconst 0, 1), (16, .putfield 19, 3), (19, .aload_n 0, 1), (20, .iconst 0, 1), (21, .putfield 22, 3), (24, .aload_n 0, 1), (25, .iconst 0, 1), (26, .putfield 26, 3), (29, .aload_n 0, 1), (30, .iconst 0, 1), (31, .putfield 29, 3), (34, .aload_n 0, 1), (35, .iconst 0, 1), (36, .putfield 32, 3), (39, .aload_n 0, 1), (40, .iload_n 1, 1), (41, .putfield 35, 3), (44, .aload_n 0, 1), (45, .aload_n 2, 1), (46, .putfield 38, 3), (49, .aload_n 0, 1), (50, .aload_n 3, 1), (51, .putfield 42, 3), (54, .aload_n 0, 1), (55, .aload_n 2, 1), (56, .putfield 45, 3), (59, .aload_n 0, 1), (60, .iload 4, 2), (62, .putfield 48, 3), (65, .aload_n 0, 1), (66, .iload 5, 2)]
set_option maxRecDepth 100000 in
theorem tX3_init_0 : xdec cX3_init lX3_init_0 = true := by decide +kernel
def lX3_init_1 : List (Nat × Instr × Nat) := [(68, .putfield 51, 3), (71, .aload_n 0, 1), (72, .iload 6, 2), (74, .putfield 54, 3), (77, .aload_n 0, 1), (78, .iload 6, 2), (80, .ifCond .eq 8, 3), (83, .bipush 8, 2), (85, .goto 4, 3), (88, .iconst 0, 1), (89, .newarray .int, 2), (91, .putfield 57, 3), (94, .aload_n 0, 1), (95, .invokevirtual 61, 3), (98, .return_, 1)]
set_option maxRecDepth 100000 in
theorem tX3_init_1 : xdec cX3_init lX3_init_1 = true := by decide +kernel
def lX3_isUnderWay_0 : List (Nat × Instr × Nat) := [(0, .aload_n 0, 1), (1, .getfield 15, 3), (4, .ifCond .eq 11, 3), (7, .aload_n 0, 1), (8, .getfield 15, 3), (11, .iconst 1, 1), (12, .if_icmp .ne 7, 3), (15, .iconst 1, 1), (16, .goto 4, 3), (19, .iconst 0, 1), (20, .ireturn, 1)]
set_option maxRecDepth 100000 in
theorem tX3_isUnderWay_0 : xdec cX3_isUnderWay lX3_isUnderWay_0 = true := by decide +kernel
def lX3_taxOfNow_0 : List (Nat × Instr × Nat) := [(0, .ldc2_w 64, 3), (3, .aload_n 0, 1), (4, .getfield 51, 3), (7, .i2l, 1), (8, .lmul, 1), (9, .lstore_n 1, 1), (10, .aload_n 0, 1), (11, .getfield 38, 3), (14, .getfield 66, 3), (17, .iconst 0, 1), (18, .iaload, 1), (19, .istore_n 3, 1), (20, .iload_n 3, 1), (21, .ifCond .ne 7, 3), (24, .lload_n 1, 1), (25, .goto 18, 3), (28, .lload_n 1, 1), (29, .aload_n 0, 1), (30, .getfield 42, 3), (33, .getfield 66, 3), (36, .iconst 0, 1), (37, .iaload, 1), (38, .i2l, 1), (39, .lmul, 1), (40, .iload_n 3, 1), (41, .i2l, 1), (42, .ldiv, 1), (43, .lreturn, 1)]
set_option maxRecDepth 100000 in
theorem tX3_taxOfNow_0 : xdec cX3_taxOfNow lX3_taxOfNow_0 = true := by decide +kernel
def lX3_departOn_0 : List (Nat × Instr × Nat) := [(0, .aload_n 0, 1), (1, .aload_n 1, 1), (2, .putfield 9, 3), (5, .aload_n 0, 1), (6, .aload_n 1, 1), (7, .aload_n 0, 1), (8, .getfield 45, 3), (11, .invokevirtual 71, 3), (14, .putfield 45, 3), (17, .aload_n 0, 1), (18, .aload_n 1, 1), (19, .getfield 77, 3), (22, .putfield 19, 3), (25, .aload_n 0, 1), (26, .iconst 1, 1), (27, .putfield 15, 3), (30, .return_, 1)]
set_option maxRecDepth 100000 in
theorem tX3_departOn_0 : xdec cX3_departOn lX3_departOn_0 = true := by decide +kernel
def lX3_arrivesToday_0 : List (Nat × Instr × Nat) := [(0, .aload_n 0, 1), (1, .dup, 1), (2, .getfield 19, 3), (5, .iconst 1, 1), (6, .isub, 1), (7, .putfield 19, 3), (10, .aload_n 0, 1), (11, .getfield 19, 3), (14, .ifCond .le 5, 3), (17, .iconst 0, 1), (18, .ireturn, 1), (19, .aload_n 0, 1), (20, .aconst_null, 1), (21, .putfield 9, 3), (24, .aload_n 0, 1), (25, .iconst 0, 1), (26, .putfield 15, 3), (29, .aload_n 0, 1), (30, .invokevirtual 61, 3), (33, .iconst 1, 1), (34, .ireturn, 1)]
set_option maxRecDepth 100000 in
theorem tX3_arrivesToday_0 : xdec cX3_arrivesToday lX3_arrivesToday_0 = true := by decide +kernel
def lX3_latestHand_0 : List (Nat × Instr × Nat) := [(0, .aload_n 0, 1), (1, .getfield 32, 3), (4, .ifCond .le 17, 3), (7, .aload_n 0, 1), (8, .getfield 57, 3), (11, .aload_n 0, 1), (12, .getfield 32, 3), (15, .iconst 1, 1), (16, .isub, 1), (17, .iaload, 1), (18, .goto 4, 3), (21, .iconst (-1), 1), (22, .ireturn, 1)]
set_option maxRecDepth 100000 in
theorem tX3_latestHand_0 : xdec cX3_latestHand lX3_latestHand_0 = true := by decide +kernel
def lX3_sign_0 : List (Nat × Instr × Nat) := [(0, .aload_n 0, 1), (1, .getfield 54, 3), (4, .ifCond .eq 13, 3), (7, .aload_n 0, 1), (8, .getfield 32, 3), (11, .sipush 8192, 3), (14, .if_icmp .lt 4, 3), (17, .return_, 1), (18, .aload_n 0, 1), (19, .getfield 32, 3), (22, .aload_n 0, 1), (23, .getfield 57, 3), (26, .arraylength, 1), (27, .if_icmp .lt 26, 3), (30, .aload_n 0, 1), (31, .aload_n 0, 1), (32, .getfield 57, 3), (35, .sipush 8192, 3), (38, .iconst 2, 1), (39, .aload_n 0, 1), (40, .getfield 32, 3), (43, .imul, 1), (44, .invokestatic 80, 3), (47, .invokestatic 86, 3), (50, .putfield 57, 3), (53, .aload_n 0, 1), (54, .getfield 57, 3), (57, .aload_n 0, 1), (58, .getfield 32, 3), (61, .aload_n 0, 1), (62, .getfield 45, 3), (65, .getfield 92, 3), (68, .iastore, 1), (69, .aload_n 0, 1), (70, .dup, 1), (71, .getfield 32, 3), (74, .iconst 1, 1), (75, .iadd, 1), (76, .putfield 32, 3), (79, .return_, 1)]
set_option maxRecDepth 100000 in
theorem tX3_sign_0 : xdec cX3_sign lX3_sign_0 = true := by decide +kernel
def lX4_init_0 : List (Nat × Instr × Nat) := [(0, .aload_n 0, 1), (1, .invokespecial 1, 3), (4, .aload_n 0, 1), (5, .bipush 8, 2), (7, .anewarray 9, 3), (10, .putfield 11, 3), (13, .aload_n 0, 1), (14, .bipush 40, 2), (16, .anewarray 15, 3), (19, .putfield 17, 3), (22, .aload_n 0, 1), (23, .new 21, 3), (26, .dup, 1), (27, .invokespecial 23, 3), (30, .putfield 24, 3), (33, .aload_n 0, 1), (34, .iconst 0, 1), (35, .putfield 28, 3), (38, .aload_n 0, 1), (39, .iconst 0, 1), (40, .putfield 32, 3), (43, .aload_n 0, 1), (44, .iconst 0, 1), (45, .putfield 35, 3), (48, .return_, 1)]
set_option maxRecDepth 100000 in
theorem tX4_init_0 : xdec cX4_init lX4_init_0 = true := by decide +kernel
def lX4_post_0 : List (Nat × Instr × Nat) := [(0, .aload_n 0, 1), (1, .getfield 28, 3), (4, .bipush 8, 2), (6, .if_icmp .lt 13, 3), (9, .new 39, 3), (12, .dup, 1), (13, .ldc 41, 2), (15, .invokespecial 43, 3), (18, .athrow, 1), (19, .aload_n 0, 1), (20, .getfield 11, 3), (23, .aload_n 0, 1), (24, .getfield 28, 3), (27, .new 9, 3), (30, .dup, 1), (31, .aload_n 0, 1), (32, .getfield 28, 3), (35, .invokespecial 46, 3), (38, .aastore, 1), (39, .aload_n 0, 1), (40, .dup, 1), (41, .getfield 28, 3), (44, .iconst 1, 1), (45, .iadd, 1), (46, .putfield 28, 3), (49, .aload_n 0, 1), (50, .getfield 28, 3), (53, .iconst 1, 1), (54, .isub, 1), (55, .ireturn, 1)]
set_option maxRecDepth 100000 in
theorem tX4_post_0 : xdec cX4_post lX4_post_0 = true := by decide +kernel
def lX4_rates_0 : List (Nat × Instr × Nat) := [(0, .aload_n 0, 1), (1, .iload_n 1, 1), (2, .invokevirtual 49, 3), (5, .astore 5, 2), (7, .iload_n 2, 1), (8, .invokestatic 53, 3), (11, .iload_n 3, 1), (12, .iconst 0, 1), (13, .sipush 10000, 3), (16, .invokestatic 56, 3), (19, .iload 4, 2), (21, .iconst 0, 1), (22, .sipush 10000, 3), (25, .invokestatic 56, 3), (28, .aload 5, 2), (30, .getfield 60, 3), (33, .iload_n 2, 1), (34, .iload_n 3, 1), (35, .iastore, 1), (36, .aload 5, 2), (38, .getfield 64, 3), (41, .iload_n 2, 1), (42, .iload 4, 2), (44, .iastore, 1), (45, .return_, 1)]
set_option maxRecDepth 100000 in
theorem tX4_rates_0 : xdec cX4_rates lX4_rates_0 = true := by decide +kernel
def lX4_due_0 : List (Nat × Instr × Nat) := [(0, .aload_n 0, 1), (1, .iload_n 1, 1), (2, .invokevirtual 49, 3), (5, .astore 4, 2), (7, .iload_n 2, 1), (8, .invokestatic 53, 3), (11, .iload_n 3, 1), (12, .iconst 0, 1), (13, .sipush 10000, 3), (16, .invokestatic 56, 3), (19, .aload 4, 2), (21, .getfield 67, 3), (24, .iload_n 2, 1), (25, .iaload, 1), (26, .istore 5, 2), (28, .aload 4, 2), (30, .getfield 67, 3), (33, .iload_n 2, 1), (34, .iload_n 3, 1), (35, .iastore, 1), (36, .iload 5, 2), (38, .ireturn, 1)]
set_option maxRecDepth 100000 in
theorem tX4_due_0 : xdec cX4_due lX4_due_0 = true := by decide +kernel
def lX4_charge_0 : List (Nat × Instr × Nat) := [(0, .aload_n 0, 1), (1, .iload_n 1, 1), (2, .invokevirtual 49, 3), (5, .astore_n 3, 1), (6, .iload_n 2, 1), (7, .iconst 0, 1), (8, .sipush 1000, 3), (11, .invokestatic 56, 3), (14, .aload_n 3, 1), (15, .getfield 70, 3), (18, .istore 4, 2), (20, .aload_n 3, 1), (21, .iload_n 2, 1), (22, .putfield 70, 3), (25, .iload 4, 2), (27, .ireturn, 1)]
set_option maxRecDepth 100000 in
theorem tX4_charge_0 : xdec cX4_charge lX4_charge_0 = true := by decide +kernel
def lX4_coupon_0 : List (Nat × Instr × Nat) := [(0, .aload_n 0, 1), (1, .iload_n 1, 1), (2, .invokevirtual 49, 3), (5, .astore_n 3, 1), (6, .iload_n 2, 1), (7, .iconst 0, 1), (8, .sipush 10000, 3), (11, .invokestatic 56, 3), (14, .aload_n 3, 1), (15, .getfield 73, 3), (18, .istore 4, 2), (20, .aload_n 3, 1), (21, .iload_n 2, 1), (22, .putfield 73, 3), (25, .iload 4, 2), (27, .ireturn, 1)]
set_option maxRecDepth 100000 in
theorem tX4_coupon_0 : xdec cX4_coupon lX4_coupon_0 = true := by decide +kernel
def lX4_strike_0 : List (Nat × Instr × Nat) := [(0, .aload_n 0, 1), (1, .iload_n 1, 1), (2, .invokevirtual 49, 3), (5, .astore_n 3, 1), (6, .aload_n 3, 1), (7, .getfield 76, 3), (10, .istore 4, 2), (12, .aload_n 3, 1), (13, .iload_n 2, 1), (14, .putfield 76, 3), (17, .iload 4, 2), (19, .ireturn, 1)]
set_option maxRecDepth 100000 in
theorem tX4_strike_0 : xdec cX4_strike lX4_strike_0 = true := by decide +kernel
def lX4_leg_0 : List (Nat × Instr × Nat) := [(0, .aload_n 0, 1), (1, .iload_n 1, 1), (2, .invokevirtual 49, 3), (5, .astore 4, 2), (7, .aload_n 0, 1), (8, .iload_n 2, 1), (9, .invokevirtual 49, 3), (12, .astore 5, 2), (14, .iload_n 3, 1), (15, .iconst 1, 1), (16, .bipush 100, 2), (18, .invokestatic 56, 3), (21, .aload 4, 2), (23, .aload 5, 2), (25, .if_acmp .ne 13, 3), (28, .new 79, 3), (31, .dup, 1), (32, .ldc 81, 2), (34, .invokespecial 83, 3), (37, .athrow, 1), (38, .aload_n 0, 1), (39, .getfield 24, 3), (42, .aload 4, 2), (44, .aload 5, 2), (46, .iload_n 3, 1), (47, .invokevirtual 84, 3), (50, .istore 6, 2), (52, .iload 6, 2), (54, .iconst (-1), 1), (55, .if_icmp .ne 13, 3), (58, .new 39, 3), (61, .dup, 1), (62, .ldc 88, 2), (64, .invokespecial 43, 3), (67, .athrow, 1), (68, .iload 6, 2), (70, .ireturn, 1)]
set_option maxRecDepth 100000 in
theorem tX4_leg_0 : xdec cX4_leg lX4_leg_0 = true := by decide +kernel
def lX4_close_0 : List (Nat × Instr × Nat) := [(0, .aload_n 0, 1), (1, .getfield 24, 3), (4, .iload_n 1, 1), (5, .invokevirtual 90, 3), (8, .astore_n 3, 1), (9, .aload_n 3, 1), (10, .ifnonnull 13, 3), (13, .new 94, 3), (16, .dup, 1), (17, .ldc 96, 2), (19, .invokespecial 98, 3), (22, .athrow, 1), (23, .aload_n 0, 1), (24, .getfield 24, 3), (27, .aload_n 3, 1), (28, .iload_n 2, 1), (29, .invokevirtual 99, 3), (32, .ireturn, 1)]
set_option maxRecDepth 100000 in
theorem tX4_close_0 : xdec cX4_close lX4_close_0 = true := by decide +kernel
def lX4_days_0 : List (Nat × Instr × Nat) := [(0, .aload_n 0, 1), (1, .getfield 24, 3), (4, .aload_n 0, 1), (5, .iload_n 1, 1), (6, .invokevirtual 49, 3), (9, .aload_n 0, 1), (10, .iload_n 2, 1), (11, .invokevirtual 49, 3), (14, .invokevirtual 103, 3), (17, .ireturn, 1)]
set_option maxRecDepth 100000 in
theorem tX4_days_0 : xdec cX4_days lX4_days_0 = true := by decide +kernel
def lX4_daysAnew_0 : List (Nat × Instr × Nat) := [(0, .aload_n 0, 1), (1, .getfield 24, 3), (4, .aload_n 0, 1), (5, .iload_n 1, 1), (6, .invokevirtual 49, 3), (9, .aload_n 0, 1), (10, .iload_n 2, 1), (11, .invokevirtual 49, 3), (14, .invokevirtual 107, 3), (17, .ireturn, 1)]
set_option maxRecDepth 100000 in
theorem tX4_daysAnew_0 : xdec cX4_daysAnew lX4_daysAnew_0 = true := by decide +kernel
def lX4_next_0 : List (Nat × Instr × Nat) := [(0, .aload_n 0, 1), (1, .getfield 24, 3), (4, .aload_n 0, 1), (5, .iload_n 1, 1), (6, .invokevirtual 49, 3), (9, .aload_n 0, 1), (10, .iload_n 2, 1), (11, .invokevirtual 49, 3), (14, .invokevirtual 110, 3), (17, .ireturn, 1)]
set_option maxRecDepth 100000 in
theorem tX4_next_0 : xdec cX4_next lX4_next_0 = true := by decide +kernel
def lX4_mail_0 : List (Nat × Instr × Nat) := [(0, .aload_n 0, 1), (1, .iload_n 2, 1), (2, .invokevirtual 49, 3), (5, .astore 7, 2), (7, .aload_n 0, 1), (8, .iload_n 3, 1), (9, .invokevirtual 49, 3), (12, .astore 8, 2), (14, .iload_n 1, 1), (15, .invokestatic 53, 3), (18, .iload_n 1, 1), (19, .iload 4, 2), (21, .invokestatic 113, 3), (24, .iload 5, 2), (26, .iconst 0, 1), (27, .ldc 117, 2), (29, .invokestatic 56, 3), (32, .aload 7, 2), (34, .aload 8, 2), (36, .if_acmp .ne 13, 3), (39, .new 79, 3), (42, .dup, 1), (43, .ldc 118, 2), (45, .invokespecial 83, 3), (48, .athrow, 1), (49, .aload_n 0, 1), (50, .getfield 32, 3), (53, .bipush 40, 2), (55, .if_icmp .lt 13, 3), (58, .new 39, 3), (61, .dup, 1), (62, .ldc 120, 2), (64, .invokespecial 43, 3), (67, .athrow, 1), (68, .iconst 0, 1), (69, .aload 7, 2), (71, .iload_n 1, 1), (72, .iload 4, 2), (74, .iload 6, 2), (76, .invokevirtual 122, 3)]
set_option maxRecDepth 100000 in
theorem tX4_mail_0 : xdec cX4_mail lX4_mail_0 = true := by decide +kernel
def lX4_mail_1 : List (Nat × Instr × Nat) := [(79, .iload 5, 2), (81, .isub, 1), (82, .invokestatic 126, 3), (85, .istore 9, 2), (87, .aload 7, 2), (89, .dup, 1), (90, .getfield 132, 3), (93, .iload 5, 2), (95, .i2l, 1), (96, .ladd, 1), (97, .putfield 132, 3), (100, .aload_n 0, 1), (101, .getfield 17, 3), (104, .aload_n 0, 1), (105, .getfield 32, 3), (108, .new 15, 3), (111, .dup, 1), (112, .iload_n 1, 1), (113, .aload 7, 2), (115, .aload 8, 2), (117, .iload 4, 2), (119, .iload 9, 2), (121, .iload 6, 2), (123, .invokespecial 136, 3), (126, .aastore, 1), (127, .aload_n 0, 1), (128, .dup, 1), (129, .getfield 32, 3), (132, .iconst 1, 1), (133, .iadd, 1), (134, .putfield 32, 3), (137, .aload_n 0, 1), (138, .getfield 32, 3), (141, .iconst 1, 1), (142, .isub, 1), (143, .ireturn, 1)]
set_option maxRecDepth 100000 in
theorem tX4_mail_1 : xdec cX4_mail lX4_mail_1 = true := by decide +kernel
end
section
def lX4_redirect_0 : List (Nat × Instr × Nat) := [(0, .aload_n 0, 1), (1, .iload_n 1, 1), (2, .invokevirtual 139, 3), (5, .astore_n 3, 1), (6, .aload_n 0, 1), (7, .iload_n 2, 1), (8, .invokevirtual 49, 3), (11, .astore 4, 2), (13, .aload_n 3, 1), (14, .getfield 143, 3), (17, .ifCond .ne 22, 3), (20, .aload_n 3, 1), (21, .getfield 146, 3), (24, .aload 4, 2), (26, .if_acmp .ne 13, 3), (29, .new 79, 3), (32, .dup, 1), (33, .ldc 150, 2), (35, .invokespecial 83, 3), (38, .athrow, 1), (39, .aload_n 3, 1), (40, .invokestatic 152, 3), (43, .aload_n 3, 1), (44, .getfield 156, 3), (47, .getfield 159, 3), (50, .istore 5, 2), (52, .aload_n 3, 1), (53, .aload 4, 2), (55, .putfield 156, 3), (58, .iload 5, 2), (60, .ireturn, 1)]
set_option maxRecDepth 100000 in
theorem tX4_redirect_0 : xdec cX4_redirect lX4_redirect_0 = true := by decide +kernel
def lX4_refuse_0 : List (Nat × Instr × Nat) := [(0, .aload_n 0, 1), (1, .iload_n 1, 1), (2, .invokevirtual 139, 3), (5, .astore_n 3, 1), (6, .aload_n 3, 1), (7, .invokestatic 152, 3), (10, .aload_n 3, 1), (11, .getfield 162, 3), (14, .istore 4, 2), (16, .aload_n 3, 1), (17, .iload_n 2, 1), (18, .putfield 162, 3), (21, .iload 4, 2), (23, .ireturn, 1)]
set_option maxRecDepth 100000 in
theorem tX4_refuse_0 : xdec cX4_refuse lX4_refuse_0 = true := by decide +kernel
def lX4_go_0 : List (Nat × Instr × Nat) := [(0, .iload_n 1, 1), (1, .iconst 1, 1), (2, .sipush 200, 3), (5, .invokestatic 56, 3), (8, .iconst 0, 1), (9, .istore_n 2, 1), (10, .iconst 0, 1), (11, .istore_n 3, 1), (12, .iload_n 3, 1), (13, .iload_n 1, 1), (14, .if_icmp .ge 20, 3), (17, .iload_n 2, 1), (18, .aload_n 0, 1), (19, .invokevirtual 165, 3), (22, .iadd, 1), (23, .istore_n 2, 1), (24, .aload_n 0, 1), (25, .invokevirtual 169, 3), (28, .iinc 3 1, 3), (31, .goto (-19), 3), (34, .iload_n 2, 1), (35, .ireturn, 1)]
set_option maxRecDepth 100000 in
theorem tX4_go_0 : xdec cX4_go lX4_go_0 = true := by decide +kernel
def lX4_lose_0 : List (Nat × Instr × Nat) := [(0, .aload_n 0, 1), (1, .iload_n 1, 1), (2, .invokevirtual 139, 3), (5, .astore_n 2, 1), (6, .aload_n 2, 1), (7, .invokevirtual 172, 3), (10, .ifCond .ne 13, 3), (13, .new 39, 3), (16, .dup, 1), (17, .ldc 176, 2), (19, .invokespecial 43, 3), (22, .athrow, 1), (23, .aload_n 2, 1), (24, .iconst 3, 1), (25, .putfield 143, 3), (28, .aload_n 2, 1), (29, .iconst 0, 1), (30, .putfield 178, 3), (33, .aload_n 2, 1), (34, .invokevirtual 181, 3), (37, .ireturn, 1)]
set_option maxRecDepth 100000 in
theorem tX4_lose_0 : xdec cX4_lose lX4_lose_0 = true := by decide +kernel
def lX4_claim_0 : List (Nat × Instr × Nat) := [(0, .aload_n 0, 1), (1, .iload_n 1, 1), (2, .invokevirtual 139, 3), (5, .astore_n 2, 1), (6, .aload_n 2, 1), (7, .getfield 143, 3), (10, .iconst 3, 1), (11, .if_icmp .ne 17, 3), (14, .aload_n 2, 1), (15, .getfield 184, 3), (18, .ifCond .eq 10, 3), (21, .aload_n 2, 1), (22, .getfield 187, 3), (25, .ifCond .eq 13, 3), (28, .new 39, 3), (31, .dup, 1), (32, .ldc 190, 2), (34, .invokespecial 43, 3), (37, .athrow, 1), (38, .aload_n 2, 1), (39, .iconst 1, 1), (40, .putfield 187, 3), (43, .aload_n 2, 1), (44, .getfield 192, 3), (47, .dup, 1), (48, .getfield 132, 3), (51, .ldc2_w 195, 3), (54, .lsub, 1), (55, .putfield 132, 3), (58, .aload_n 2, 1), (59, .getfield 197, 3), (62, .astore_n 3, 1), (63, .aload_n 3, 1), (64, .ifnonnull 18, 3), (67, .aload_n 2, 1), (68, .getfield 146, 3), (71, .aload_n 2, 1), (72, .getfield 192, 3), (75, .sipush 4000, 3), (78, .invokestatic 201, 3)]
set_option maxRecDepth 100000 in
theorem tX4_claim_0 : xdec cX4_claim lX4_claim_0 = true := by decide +kernel
def lX4_claim_1 : List (Nat × Instr × Nat) := [(81, .ireturn, 1), (82, .aload_n 3, 1), (83, .getfield 204, 3), (86, .aload_n 2, 1), (87, .getfield 192, 3), (90, .sipush 2000, 3), (93, .invokestatic 201, 3), (96, .aload_n 3, 1), (97, .getfield 209, 3), (100, .aload_n 2, 1), (101, .getfield 192, 3), (104, .sipush 2000, 3), (107, .invokestatic 201, 3), (110, .iadd, 1), (111, .ireturn, 1)]
set_option maxRecDepth 100000 in
theorem tX4_claim_1 : xdec cX4_claim lX4_claim_1 = true := by decide +kernel
def lX4_sample_0 : List (Nat × Instr × Nat) := [(0, .aload_n 0, 1), (1, .getfield 35, 3), (4, .istore_n 2, 1), (5, .aload_n 0, 1), (6, .iload_n 1, 1), (7, .putfield 35, 3), (10, .iload_n 2, 1), (11, .ireturn, 1)]
set_option maxRecDepth 100000 in
theorem tX4_sample_0 : xdec cX4_sample lX4_sample_0 = true := by decide +kernel
def lX4_settle_0 : List (Nat × Instr × Nat) := [(0, .iload_n 1, 1), (1, .iconst 1, 1), (2, .sipush 1000, 3), (5, .invokestatic 56, 3), (8, .lconst 0, 1), (9, .lstore_n 2, 1), (10, .iconst 0, 1), (11, .istore 4, 2), (13, .iload 4, 2), (15, .aload_n 0, 1), (16, .getfield 28, 3), (19, .if_icmp .ge 48, 3), (22, .iconst 0, 1), (23, .istore 5, 2), (25, .iload 5, 2), (27, .aload_n 0, 1), (28, .getfield 28, 3), (31, .if_icmp .ge 30, 3), (34, .lload_n 2, 1), (35, .aload_n 0, 1), (36, .getfield 11, 3), (39, .iload 4, 2), (41, .aaload, 1), (42, .aload_n 0, 1), (43, .getfield 11, 3), (46, .iload 5, 2), (48, .aaload, 1), (49, .iload_n 1, 1), (50, .invokestatic 212, 3), (53, .ladd, 1), (54, .lstore_n 2, 1), (55, .iinc 5 1, 3), (58, .goto (-33), 3), (61, .iinc 4 1, 3), (64, .goto (-51), 3), (67, .lload_n 2, 1), (68, .lreturn, 1)]
set_option maxRecDepth 100000 in
theorem tX4_settle_0 : xdec cX4_settle lX4_settle_0 = true := by decide +kernel
def lX4_rate_0 : List (Nat × Instr × Nat) := [(0, .aload_n 0, 1), (1, .iload_n 2, 1), (2, .invokevirtual 49, 3), (5, .astore 5, 2), (7, .iload_n 1, 1), (8, .invokestatic 53, 3), (11, .iload_n 1, 1), (12, .iload_n 3, 1), (13, .invokestatic 113, 3), (16, .aload 5, 2), (18, .iload_n 1, 1), (19, .iload_n 3, 1), (20, .iload 4, 2), (22, .invokevirtual 122, 3), (25, .ireturn, 1)]
set_option maxRecDepth 100000 in
theorem tX4_rate_0 : xdec cX4_rate lX4_rate_0 = true := by decide +kernel
def lX4_ofThing_0 : List (Nat × Instr × Nat) := [(0, .aload_n 0, 1), (1, .iload_n 1, 1), (2, .invokevirtual 139, 3), (5, .astore_n 3, 1), (6, .iload_n 2, 1), (7, .tableswitch 95 0 6 #[41, 47, 56, 62, 71, 76, 89], 41), (48, .aload_n 3, 1), (49, .getfield 143, 3), (52, .i2l, 1), (53, .lreturn, 1), (54, .aload_n 3, 1), (55, .getfield 146, 3), (58, .getfield 159, 3), (61, .i2l, 1), (62, .lreturn, 1), (63, .aload_n 3, 1), (64, .getfield 178, 3), (67, .i2l, 1), (68, .lreturn, 1), (69, .aload_n 3, 1), (70, .getfield 156, 3), (73, .getfield 159, 3), (76, .i2l, 1), (77, .lreturn, 1), (78, .aload_n 3, 1), (79, .invokevirtual 216, 3), (82, .lreturn, 1), (83, .aload_n 3, 1), (84, .getfield 220, 3), (87, .ifCond .eq 7, 3), (90, .lconst 1, 1), (91, .goto 4, 3), (94, .lconst 0, 1), (95, .lreturn, 1), (96, .aload_n 3, 1), (97, .getfield 223, 3), (100, .i2l, 1), (101, .lreturn, 1), (102, .new 79, 3), (105, .dup, 1)]
set_option maxRecDepth 100000 in
theorem tX4_ofThing_0 : xdec cX4_ofThing lX4_ofThing_0 = true := by decide +kernel
def lX4_ofThing_1 : List (Nat × Instr × Nat) := [(106, .ldc 226, 2), (108, .invokespecial 83, 3), (111, .athrow, 1)]
set_option maxRecDepth 100000 in
theorem tX4_ofThing_1 : xdec cX4_ofThing lX4_ofThing_1 = true := by decide +kernel
def lX4_hand_0 : List (Nat × Instr × Nat) := [(0, .aload_n 0, 1), (1, .iload_n 1, 1), (2, .invokevirtual 139, 3), (5, .astore_n 3, 1), (6, .iload_n 2, 1), (7, .ifCond .lt 11, 3), (10, .iload_n 2, 1), (11, .aload_n 3, 1), (12, .getfield 223, 3), (15, .if_icmp .lt 13, 3), (18, .new 94, 3), (21, .dup, 1), (22, .ldc 228, 2), (24, .invokespecial 98, 3), (27, .athrow, 1), (28, .aload_n 3, 1), (29, .getfield 230, 3), (32, .iload_n 2, 1), (33, .iaload, 1), (34, .ireturn, 1)]
set_option maxRecDepth 100000 in
theorem tX4_hand_0 : xdec cX4_hand lX4_hand_0 = true := by decide +kernel
def lX4_account_0 : List (Nat × Instr × Nat) := [(0, .aload_n 0, 1), (1, .iload_n 1, 1), (2, .invokevirtual 49, 3), (5, .getfield 233, 3), (8, .lreturn, 1)]
set_option maxRecDepth 100000 in
theorem tX4_account_0 : xdec cX4_account lX4_account_0 = true := by decide +kernel
def lX4_till_0 : List (Nat × Instr × Nat) := [(0, .aload_n 0, 1), (1, .iload_n 1, 1), (2, .invokevirtual 49, 3), (5, .getfield 132, 3), (8, .lreturn, 1)]
set_option maxRecDepth 100000 in
theorem tX4_till_0 : xdec cX4_till lX4_till_0 = true := by decide +kernel
def lX4_counted_0 : List (Nat × Instr × Nat) := [(0, .aload_n 0, 1), (1, .iload_n 1, 1), (2, .invokevirtual 49, 3), (5, .astore_n 3, 1), (6, .aload_n 0, 1), (7, .iload_n 2, 1), (8, .invokevirtual 49, 3), (11, .astore 4, 2), (13, .aload_n 3, 1), (14, .getfield 236, 3), (17, .aload 4, 2), (19, .getfield 159, 3), (22, .laload, 1), (23, .lreturn, 1)]
set_option maxRecDepth 100000 in
theorem tX4_counted_0 : xdec cX4_counted lX4_counted_0 = true := by decide +kernel
def lX4_gain_0 : List (Nat × Instr × Nat) := [(0, .iload_n 1, 1), (1, .iconst 0, 1), (2, .iconst 2, 1), (3, .invokestatic 56, 3), (6, .iconst 0, 1), (7, .istore_n 2, 1), (8, .iconst (-1), 1), (9, .istore_n 3, 1), (10, .iconst (-1), 1), (11, .istore 4, 2), (13, .iconst 0, 1), (14, .istore 5, 2), (16, .iload 5, 2), (18, .aload_n 0, 1), (19, .getfield 28, 3), (22, .if_icmp .ge 62, 3), (25, .iconst 0, 1), (26, .istore 6, 2), (28, .iload 6, 2), (30, .aload_n 0, 1), (31, .getfield 28, 3), (34, .if_icmp .ge 44, 3), (37, .aload_n 0, 1), (38, .getfield 11, 3), (41, .iload 5, 2), (43, .aaload, 1), (44, .aload_n 0, 1), (45, .getfield 11, 3), (48, .iload 6, 2), (50, .aaload, 1), (51, .invokestatic 240, 3), (54, .istore 7, 2), (56, .iload 7, 2), (58, .iload_n 2, 1), (59, .if_icmp .le 13, 3), (62, .iload 7, 2), (64, .istore_n 2, 1), (65, .iload 5, 2), (67, .istore_n 3, 1), (68, .iload 6, 2)]
set_option maxRecDepth 100000 in
theorem tX4_gain_0 : xdec cX4_gain lX4_gain_0 = true := by decide +kernel
def lX4_gain_1 : List (Nat × Instr × Nat) := [(70, .istore 4, 2), (72, .iinc 6 1, 3), (75, .goto (-47), 3), (78, .iinc 5 1, 3), (81, .goto (-65), 3), (84, .iload_n 2, 1), (85, .ifCond .ne 5, 3), (88, .iconst (-1), 1), (89, .ireturn, 1), (90, .iload_n 1, 1), (91, .ifCond .ne 7, 3), (94, .iload_n 2, 1), (95, .goto 14, 3), (98, .iload_n 1, 1), (99, .iconst 1, 1), (100, .if_icmp .ne 7, 3), (103, .iload_n 3, 1), (104, .goto 5, 3), (107, .iload 4, 2), (109, .ireturn, 1)]
set_option maxRecDepth 100000 in
theorem tX4_gain_1 : xdec cX4_gain lX4_gain_1 = true := by decide +kernel
def lX4_postOf_0 : List (Nat × Instr × Nat) := [(0, .iload_n 1, 1), (1, .ifCond .lt 11, 3), (4, .iload_n 1, 1), (5, .aload_n 0, 1), (6, .getfield 28, 3), (9, .if_icmp .lt 13, 3), (12, .new 94, 3), (15, .dup, 1), (16, .ldc 243, 2), (18, .invokespecial 98, 3), (21, .athrow, 1), (22, .aload_n 0, 1), (23, .getfield 11, 3), (26, .iload_n 1, 1), (27, .aaload, 1), (28, .areturn, 1)]
set_option maxRecDepth 100000 in
theorem tX4_postOf_0 : xdec cX4_postOf lX4_postOf_0 = true := by decide +kernel
def lX4_thingOf_0 : List (Nat × Instr × Nat) := [(0, .iload_n 1, 1), (1, .ifCond .lt 11, 3), (4, .iload_n 1, 1), (5, .aload_n 0, 1), (6, .getfield 32, 3), (9, .if_icmp .lt 13, 3), (12, .new 94, 3), (15, .dup, 1), (16, .ldc 245, 2), (18, .invokespecial 98, 3), (21, .athrow, 1), (22, .aload_n 0, 1), (23, .getfield 17, 3), (26, .iload_n 1, 1), (27, .aaload, 1), (28, .areturn, 1)]
set_option maxRecDepth 100000 in
theorem tX4_thingOf_0 : xdec cX4_thingOf lX4_thingOf_0 = true := by decide +kernel
def lX4_demandWithin_0 : List (Nat × Instr × Nat) := [(0, .iload_n 0, 1), (1, .iload_n 1, 1), (2, .if_icmp .lt 8, 3), (5, .iload_n 0, 1), (6, .iload_n 2, 1), (7, .if_icmp .le 13, 3), (10, .new 79, 3), (13, .dup, 1), (14, .ldc 247, 2), (16, .invokespecial 83, 3), (19, .athrow, 1), (20, .return_, 1)]
set_option maxRecDepth 100000 in
theorem tX4_demandWithin_0 : xdec cX4_demandWithin lX4_demandWithin_0 = true := by decide +kernel
def lX4_demandKind_0 : List (Nat × Instr × Nat) := [(0, .iload_n 0, 1), (1, .iconst 0, 1), (2, .iconst 2, 1), (3, .invokestatic 56, 3), (6, .return_, 1)]
set_option maxRecDepth 100000 in
theorem tX4_demandKind_0 : xdec cX4_demandKind lX4_demandKind_0 = true := by decide +kernel
def lX4_demandGrams_0 : List (Nat × Instr × Nat) := [(0, .iload_n 1, 1), (1, .iconst 1, 1), (2, .iload_n 0, 1), (3, .iconst 1, 1), (4, .if_icmp .ne 8, 3), (7, .bipush 20, 2), (9, .goto 6, 3), (12, .sipush 2000, 3), (15, .invokestatic 56, 3), (18, .return_, 1)]
set_option maxRecDepth 100000 in
theorem tX4_demandGrams_0 : xdec cX4_demandGrams lX4_demandGrams_0 = true := by decide +kernel
def lX4_demandChangeable_0 : List (Nat × Instr × Nat) := [(0, .aload_n 0, 1), (1, .invokevirtual 172, 3), (4, .ifCond .eq 10, 3), (7, .aload_n 0, 1), (8, .getfield 220, 3), (11, .ifCond .eq 13, 3), (14, .new 39, 3), (17, .dup, 1), (18, .ldc 249, 2), (20, .invokespecial 43, 3), (23, .athrow, 1), (24, .return_, 1)]
set_option maxRecDepth 100000 in
theorem tX4_demandChangeable_0 : xdec cX4_demandChangeable lX4_demandChangeable_0 = true := by decide +kernel
def lX4_moveThoseThatTravel_0 : List (Nat × Instr × Nat) := [(0, .iconst 0, 1), (1, .istore_n 1, 1), (2, .iconst 0, 1), (3, .istore_n 2, 1), (4, .iload_n 2, 1), (5, .aload_n 0, 1), (6, .getfield 32, 3), (9, .if_icmp .ge 63, 3), (12, .aload_n 0, 1), (13, .getfield 17, 3), (16, .iload_n 2, 1), (17, .aaload, 1), (18, .astore_n 3, 1), (19, .aload_n 3, 1), (20, .getfield 143, 3), (23, .iconst 1, 1), (24, .if_icmp .ne 42, 3), (27, .aload_n 3, 1), (28, .invokevirtual 251, 3), (31, .ifCond .eq 35, 3), (34, .aload_n 3, 1), (35, .getfield 146, 3), (38, .aload_n 3, 1), (39, .getfield 156, 3), (42, .if_acmp .ne 24, 3), (45, .aload_n 0, 1), (46, .aload_n 3, 1), (47, .invokevirtual 254, 3), (50, .iload_n 1, 1), (51, .aload_n 3, 1), (52, .getfield 143, 3), (55, .iconst 2, 1), (56, .if_icmp .ne 7, 3), (59, .iconst 1, 1), (60, .goto 4, 3), (63, .iconst 0, 1), (64, .iadd, 1), (65, .istore_n 1, 1), (66, .iinc 2 1, 3), (69, .goto (-65), 3)]
set_option maxRecDepth 100000 in
theorem tX4_moveThoseThatTravel_0 : xdec cX4_moveThoseThatTravel lX4_moveThoseThatTravel_0 = true := by decide +kernel
def lX4_moveThoseThatTravel_1 : List (Nat × Instr × Nat) := [(72, .iload_n 1, 1), (73, .ireturn, 1)]
set_option maxRecDepth 100000 in
theorem tX4_moveThoseThatTravel_1 : xdec cX4_moveThoseThatTravel lX4_moveThoseThatTravel_1 = true := by decide +kernel
def lX4_endAtTarget_0 : List (Nat × Instr × Nat) := [(0, .aload_n 1, 1), (1, .getfield 220, 3), (4, .ifCond .eq 9, 3), (7, .aload_n 1, 1), (8, .iconst 2, 1), (9, .putfield 143, 3), (12, .return_, 1), (13, .aload_n 1, 1), (14, .invokevirtual 216, 3), (17, .lstore_n 2, 1), (18, .aload_n 1, 1), (19, .getfield 162, 3), (22, .ifCond .eq 34, 3), (25, .lload_n 2, 1), (26, .lconst 0, 1), (27, .lcmp, 1), (28, .ifCond .le 28, 3), (31, .aload_n 1, 1), (32, .getfield 156, 3), (35, .aload_n 1, 1), (36, .getfield 192, 3), (39, .if_acmp .eq 17, 3), (42, .aload_n 1, 1), (43, .iconst 1, 1), (44, .putfield 220, 3), (47, .aload_n 1, 1), (48, .aload_n 1, 1), (49, .getfield 192, 3), (52, .putfield 156, 3), (55, .return_, 1), (56, .aload_n 1, 1), (57, .iconst 2, 1), (58, .putfield 143, 3), (61, .aload_n 1, 1), (62, .getfield 156, 3), (65, .dup, 1), (66, .getfield 132, 3), (69, .lload_n 2, 1), (70, .ladd, 1), (71, .putfield 132, 3)]
set_option maxRecDepth 100000 in
theorem tX4_endAtTarget_0 : xdec cX4_endAtTarget lX4_endAtTarget_0 = true := by decide +kernel
def lX4_endAtTarget_1 : List (Nat × Instr × Nat) := [(74, .aload_n 1, 1), (75, .getfield 156, 3), (78, .aload_n 1, 1), (79, .getfield 192, 3), (82, .if_acmp .eq 8, 3), (85, .aload_n 0, 1), (86, .aload_n 1, 1), (87, .invokevirtual 257, 3), (90, .return_, 1)]
set_option maxRecDepth 100000 in
theorem tX4_endAtTarget_1 : xdec cX4_endAtTarget lX4_endAtTarget_1 = true := by decide +kernel
def lX4_oweDue_0 : List (Nat × Instr × Nat) := [(0, .aload_n 1, 1), (1, .getfield 156, 3), (4, .getfield 67, 3), (7, .aload_n 1, 1), (8, .getfield 260, 3), (11, .iaload, 1), (12, .istore_n 2, 1), (13, .aload_n 1, 1), (14, .getfield 184, 3), (17, .ifCond .eq 19, 3), (20, .aload_n 1, 1), (21, .getfield 192, 3), (24, .aload_n 1, 1), (25, .getfield 156, 3), (28, .iload_n 2, 1), (29, .i2l, 1), (30, .invokestatic 263, 3), (33, .goto 30, 3), (36, .aload_n 0, 1), (37, .getfield 35, 3), (40, .ifCond .eq 23, 3), (43, .aload_n 1, 1), (44, .getfield 192, 3), (47, .getfield 236, 3), (50, .aload_n 1, 1), (51, .getfield 156, 3), (54, .getfield 159, 3), (57, .dup2, 1), (58, .laload, 1), (59, .iload_n 2, 1), (60, .i2l, 1), (61, .ladd, 1), (62, .lastore, 1), (63, .return_, 1)]
set_option maxRecDepth 100000 in
theorem tX4_oweDue_0 : xdec cX4_oweDue lX4_oweDue_0 = true := by decide +kernel
def lX4_sendThoseThatWait_0 : List (Nat × Instr × Nat) := [(0, .iconst 0, 1), (1, .istore_n 1, 1), (2, .iload_n 1, 1), (3, .aload_n 0, 1), (4, .getfield 32, 3), (7, .if_icmp .ge 38, 3), (10, .aload_n 0, 1), (11, .getfield 17, 3), (14, .iload_n 1, 1), (15, .aaload, 1), (16, .astore_n 2, 1), (17, .aload_n 2, 1), (18, .getfield 143, 3), (21, .ifCond .ne 18, 3), (24, .aload_n 2, 1), (25, .getfield 146, 3), (28, .getfield 76, 3), (31, .ifCond .ne 8, 3), (34, .aload_n 0, 1), (35, .aload_n 2, 1), (36, .invokevirtual 267, 3), (39, .iinc 1 1, 3), (42, .goto (-40), 3), (45, .return_, 1)]
set_option maxRecDepth 100000 in
theorem tX4_sendThoseThatWait_0 : xdec cX4_sendThoseThatWait lX4_sendThoseThatWait_0 = true := by decide +kernel
def lX4_sendOn_0 : List (Nat × Instr × Nat) := [(0, .aload_n 0, 1), (1, .getfield 24, 3), (4, .aload_n 0, 1), (5, .getfield 24, 3), (8, .aload_n 1, 1), (9, .getfield 146, 3), (12, .aload_n 1, 1), (13, .getfield 156, 3), (16, .invokevirtual 110, 3), (19, .invokevirtual 90, 3), (22, .astore_n 2, 1), (23, .aload_n 2, 1), (24, .ifnonnull 4, 3), (27, .return_, 1), (28, .aload_n 1, 1), (29, .getfield 146, 3), (32, .aload_n 1, 1), (33, .getfield 192, 3), (36, .if_acmp .eq 25, 3), (39, .aload_n 1, 1), (40, .getfield 192, 3), (43, .aload_n 1, 1), (44, .getfield 146, 3), (47, .aload_n 1, 1), (48, .getfield 146, 3), (51, .aload_n 1, 1), (52, .getfield 270, 3), (55, .invokevirtual 273, 3), (58, .invokestatic 263, 3), (61, .aload_n 1, 1), (62, .aload_n 2, 1), (63, .invokevirtual 277, 3), (66, .return_, 1)]
set_option maxRecDepth 100000 in
theorem tX4_sendOn_0 : xdec cX4_sendOn lX4_sendOn_0 = true := by decide +kernel
def lX4_pay_0 : List (Nat × Instr × Nat) := [(0, .aload_n 0, 1), (1, .dup, 1), (2, .getfield 233, 3), (5, .lload_n 2, 1), (6, .lsub, 1), (7, .putfield 233, 3), (10, .aload_n 1, 1), (11, .dup, 1), (12, .getfield 233, 3), (15, .lload_n 2, 1), (16, .ladd, 1), (17, .putfield 233, 3), (20, .return_, 1)]
set_option maxRecDepth 100000 in
theorem tX4_pay_0 : xdec cX4_pay lX4_pay_0 = true := by decide +kernel
def lX4_payClaim_0 : List (Nat × Instr × Nat) := [(0, .aload_n 0, 1), (1, .aload_n 1, 1), (2, .if_acmp .ne 5, 3), (5, .iconst 0, 1), (6, .ireturn, 1), (7, .aload_n 0, 1), (8, .aload_n 1, 1), (9, .iload_n 2, 1), (10, .i2l, 1), (11, .invokestatic 263, 3), (14, .iload_n 2, 1), (15, .ireturn, 1)]
set_option maxRecDepth 100000 in
theorem tX4_payClaim_0 : xdec cX4_payClaim lX4_payClaim_0 = true := by decide +kernel
def lX4_settlePair_0 : List (Nat × Instr × Nat) := [(0, .aload_n 0, 1), (1, .getfield 236, 3), (4, .aload_n 1, 1), (5, .getfield 159, 3), (8, .laload, 1), (9, .iload_n 2, 1), (10, .i2l, 1), (11, .lmul, 1), (12, .lstore_n 3, 1), (13, .aload_n 0, 1), (14, .getfield 236, 3), (17, .aload_n 1, 1), (18, .getfield 159, 3), (21, .lconst 0, 1), (22, .lastore, 1), (23, .aload_n 0, 1), (24, .aload_n 1, 1), (25, .lload_n 3, 1), (26, .invokestatic 263, 3), (29, .lload_n 3, 1), (30, .lreturn, 1)]
set_option maxRecDepth 100000 in
theorem tX4_settlePair_0 : xdec cX4_settlePair lX4_settlePair_0 = true := by decide +kernel
def lX4_gainOf_0 : List (Nat × Instr × Nat) := [(0, .aload_n 0, 1), (1, .aload_n 1, 1), (2, .if_acmp .eq 10, 3), (5, .aload_n 0, 1), (6, .getfield 73, 3), (9, .ifCond .ne 5, 3), (12, .iconst 0, 1), (13, .ireturn, 1), (14, .aload_n 1, 1), (15, .getfield 60, 3), (18, .iconst 0, 1), (19, .iaload, 1), (20, .aload_n 0, 1), (21, .getfield 73, 3), (24, .isub, 1), (25, .ireturn, 1)]
set_option maxRecDepth 100000 in
theorem tX4_gainOf_0 : xdec cX4_gainOf lX4_gainOf_0 = true := by decide +kernel
def lX4_begunParts_0 : List (Nat × Instr × Nat) := [(0, .iload_n 1, 1), (1, .ifCond .le 17, 3), (4, .iload_n 0, 1), (5, .ifCond .le 13, 3), (8, .iload_n 0, 1), (9, .iconst 1, 1), (10, .isub, 1), (11, .iload_n 1, 1), (12, .idiv, 1), (13, .iconst 1, 1), (14, .iadd, 1), (15, .goto 4, 3), (18, .iconst 0, 1), (19, .ireturn, 1)]
set_option maxRecDepth 100000 in
theorem tX4_begunParts_0 : xdec cX4_begunParts lX4_begunParts_0 = true := by decide +kernel
def lX5_init_0 : List (Nat × Instr × Nat) := [(0, .aload_n 0, 1), (1, .invokespecial 1, 3), (4, .aload_n 0, 1), (5, .bipush 24, 2), (7, .newarray .int, 2), (9, .putfield 7, 3), (12, .aload_n 0, 1), (13, .bipush 24, 2), (15, .newarray .int, 2), (17, .putfield 13, 3), (20, .aload_n 0, 1), (21, .bipush 24, 2), (23, .newarray .int, 2), (25, .putfield 16, 3), (28, .aload_n 0, 1), (29, .bipush 8, 2), (31, .newarray .int, 2), (33, .putfield 19, 3), (36, .aload_n 0, 1), (37, .bipush 8, 2), (39, .newarray .int, 2), (41, .putfield 22, 3), (44, .aload_n 0, 1), (45, .bipush 8, 2), (47, .newarray .boolean, 2), (49, .putfield 25, 3), (52, .aload_n 0, 1), (53, .bipush 8, 2), (55, .newarray .long, 2), (57, .putfield 29, 3), (60, .aload_n 0, 1), (61, .bipush 8, 2), (63, .newarray .long, 2), (65, .putfield 33, 3), (68, .aload_n 0, 1), (69, .bipush 64, 2), (71, .newarray .long, 2), (73, .putfield 36, 3), (76, .aload_n 0, 1), (77, .bipush 20, 2)]
set_option maxRecDepth 100000 in
theorem tX5_init_0 : xdec cX5_init lX5_init_0 = true := by decide +kernel
def lX5_init_1 : List (Nat × Instr × Nat) := [(79, .newarray .int, 2), (81, .putfield 39, 3), (84, .aload_n 0, 1), (85, .bipush 20, 2), (87, .newarray .int, 2), (89, .putfield 42, 3), (92, .aload_n 0, 1), (93, .bipush 20, 2), (95, .newarray .int, 2), (97, .putfield 45, 3), (100, .aload_n 0, 1), (101, .bipush 20, 2), (103, .newarray .boolean, 2), (105, .putfield 48, 3), (108, .aload_n 0, 1), (109, .bipush 8, 2), (111, .newarray .int, 2), (113, .putfield 51, 3), (116, .aload_n 0, 1), (117, .bipush 40, 2), (119, .newarray .int, 2), (121, .putfield 54, 3), (124, .aload_n 0, 1), (125, .bipush 40, 2), (127, .newarray .int, 2), (129, .putfield 57, 3), (132, .aload_n 0, 1), (133, .bipush 40, 2), (135, .newarray .int, 2), (137, .putfield 60, 3), (140, .aload_n 0, 1), (141, .bipush 40, 2), (143, .newarray .int, 2), (145, .putfield 63, 3), (148, .aload_n 0, 1), (149, .bipush 40, 2), (151, .newarray .boolean, 2), (153, .putfield 66, 3), (156, .aload_n 0, 1), (157, .bipush 40, 2)]
set_option maxRecDepth 100000 in
theorem tX5_init_1 : xdec cX5_init lX5_init_1 = true := by decide +kernel
def lX5_init_2 : List (Nat × Instr × Nat) := [(159, .newarray .int, 2), (161, .putfield 69, 3), (164, .aload_n 0, 1), (165, .bipush 40, 2), (167, .newarray .int, 2), (169, .putfield 72, 3), (172, .aload_n 0, 1), (173, .bipush 40, 2), (175, .newarray .int, 2), (177, .putfield 75, 3), (180, .aload_n 0, 1), (181, .bipush 40, 2), (183, .newarray .int, 2), (185, .putfield 78, 3), (188, .aload_n 0, 1), (189, .bipush 40, 2), (191, .newarray .int, 2), (193, .putfield 81, 3), (196, .aload_n 0, 1), (197, .bipush 40, 2), (199, .newarray .boolean, 2), (201, .putfield 84, 3), (204, .aload_n 0, 1), (205, .bipush 40, 2), (207, .newarray .boolean, 2), (209, .putfield 87, 3), (212, .aload_n 0, 1), (213, .bipush 40, 2), (215, .newarray .boolean, 2), (217, .putfield 90, 3), (220, .aload_n 0, 1), (221, .ldc 93, 2), (223, .newarray .int, 2), (225, .putfield 94, 3), (228, .aload_n 0, 1), (229, .ldc 93, 2), (231, .newarray .int, 2), (233, .putfield 97, 3), (236, .aload_n 0, 1), (237, .bipush 40, 2)]
set_option maxRecDepth 100000 in
theorem tX5_init_2 : xdec cX5_init lX5_init_2 = true := by decide +kernel
def lX5_init_3 : List (Nat × Instr × Nat) := [(239, .newarray .int, 2), (241, .putfield 100, 3), (244, .aload_n 0, 1), (245, .bipush 40, 2), (247, .newarray .int, 2), (249, .putfield 103, 3), (252, .aload_n 0, 1), (253, .bipush 40, 2), (255, .newarray .int, 2), (257, .putfield 106, 3), (260, .aload_n 0, 1), (261, .iconst 3, 1), (262, .newarray .int, 2), (264, .putfield 109, 3), (267, .return_, 1)]
set_option maxRecDepth 100000 in
theorem tX5_init_3 : xdec cX5_init lX5_init_3 = true := by decide +kernel
def lX5_thrown_0 : List (Nat × Instr × Nat) := [(0, .aload_n 0, 1), (1, .getfield 112, 3), (4, .ireturn, 1)]
set_option maxRecDepth 100000 in
theorem tX5_thrown_0 : xdec cX5_thrown lX5_thrown_0 = true := by decide +kernel
def lX5_fails_0 : List (Nat × Instr × Nat) := [(0, .aload_n 0, 1), (1, .iload_n 1, 1), (2, .putfield 112, 3), (5, .iconst 0, 1), (6, .ireturn, 1)]
set_option maxRecDepth 100000 in
theorem tX5_fails_0 : xdec cX5_fails lX5_fails_0 = true := by decide +kernel
def lX5_asks_0 : List (Nat × Instr × Nat) := [(0, .aload_n 0, 1), (1, .iload_n 1, 1), (2, .ifCond .eq 7, 3), (5, .iconst 0, 1), (6, .goto 4, 3), (9, .iconst 1, 1), (10, .putfield 112, 3), (13, .iload_n 1, 1), (14, .ireturn, 1)]
set_option maxRecDepth 100000 in
theorem tX5_asks_0 : xdec cX5_asks lX5_asks_0 = true := by decide +kernel
def lX5_in_0 : List (Nat × Instr × Nat) := [(0, .iload_n 0, 1), (1, .iload_n 1, 1), (2, .if_icmp .lt 12, 3), (5, .iload_n 0, 1), (6, .iload_n 2, 1), (7, .if_icmp .gt 7, 3), (10, .iconst 1, 1), (11, .goto 4, 3), (14, .iconst 0, 1), (15, .ireturn, 1)]
set_option maxRecDepth 100000 in
theorem tX5_in_0 : xdec cX5_in lX5_in_0 = true := by decide +kernel
def lX5_isPost_0 : List (Nat × Instr × Nat) := [(0, .iload_n 1, 1), (1, .iconst 0, 1), (2, .aload_n 0, 1), (3, .getfield 116, 3), (6, .iconst 1, 1), (7, .isub, 1), (8, .invokestatic 119, 3), (11, .ireturn, 1)]
set_option maxRecDepth 100000 in
theorem tX5_isPost_0 : xdec cX5_isPost lX5_isPost_0 = true := by decide +kernel
def lX5_isKind_0 : List (Nat × Instr × Nat) := [(0, .iload_n 0, 1), (1, .iconst 0, 1), (2, .iconst 2, 1), (3, .invokestatic 119, 3), (6, .ireturn, 1)]
set_option maxRecDepth 100000 in
theorem tX5_isKind_0 : xdec cX5_isKind lX5_isKind_0 = true := by decide +kernel
def lX5_areGrams_0 : List (Nat × Instr × Nat) := [(0, .iload_n 1, 1), (1, .iconst 1, 1), (2, .iload_n 0, 1), (3, .iconst 1, 1), (4, .if_icmp .ne 8, 3), (7, .bipush 20, 2), (9, .goto 6, 3), (12, .sipush 2000, 3), (15, .invokestatic 119, 3), (18, .ireturn, 1)]
set_option maxRecDepth 100000 in
theorem tX5_areGrams_0 : xdec cX5_areGrams lX5_areGrams_0 = true := by decide +kernel
def lX5_post_0 : List (Nat × Instr × Nat) := [(0, .aload_n 0, 1), (1, .aload_n 0, 1), (2, .getfield 116, 3), (5, .bipush 8, 2), (7, .if_icmp .ge 7, 3), (10, .iconst 1, 1), (11, .goto 4, 3), (14, .iconst 0, 1), (15, .invokevirtual 123, 3), (18, .ifCond .ne 5, 3), (21, .iconst 0, 1), (22, .ireturn, 1), (23, .aload_n 0, 1), (24, .dup, 1), (25, .getfield 116, 3), (28, .iconst 1, 1), (29, .iadd, 1), (30, .putfield 116, 3), (33, .aload_n 0, 1), (34, .getfield 116, 3), (37, .iconst 1, 1), (38, .isub, 1), (39, .ireturn, 1)]
set_option maxRecDepth 100000 in
theorem tX5_post_0 : xdec cX5_post lX5_post_0 = true := by decide +kernel
def lX5_rates_0 : List (Nat × Instr × Nat) := [(0, .aload_n 0, 1), (1, .aload_n 0, 1), (2, .iload_n 1, 1), (3, .invokevirtual 127, 3), (6, .invokevirtual 123, 3), (9, .ifCond .ne 4, 3), (12, .return_, 1), (13, .iload_n 2, 1), (14, .invokestatic 131, 3), (17, .ifCond .eq 26, 3), (20, .iload_n 3, 1), (21, .iconst 0, 1), (22, .sipush 10000, 3), (25, .invokestatic 119, 3), (28, .ifCond .eq 15, 3), (31, .iload 4, 2), (33, .iconst 0, 1), (34, .sipush 10000, 3), (37, .invokestatic 119, 3), (40, .ifCond .ne 9, 3), (43, .aload_n 0, 1), (44, .iconst 2, 1), (45, .putfield 112, 3), (48, .return_, 1), (49, .aload_n 0, 1), (50, .getfield 7, 3), (53, .iconst 3, 1), (54, .iload_n 1, 1), (55, .imul, 1), (56, .iload_n 2, 1), (57, .iadd, 1), (58, .iload_n 3, 1), (59, .iastore, 1), (60, .aload_n 0, 1), (61, .getfield 13, 3), (64, .iconst 3, 1), (65, .iload_n 1, 1), (66, .imul, 1), (67, .iload_n 2, 1), (68, .iadd, 1)]
set_option maxRecDepth 100000 in
theorem tX5_rates_0 : xdec cX5_rates lX5_rates_0 = true := by decide +kernel
def lX5_rates_1 : List (Nat × Instr × Nat) := [(69, .iload 4, 2), (71, .iastore, 1), (72, .return_, 1)]
set_option maxRecDepth 100000 in
theorem tX5_rates_1 : xdec cX5_rates lX5_rates_1 = true := by decide +kernel
def lX5_due_0 : List (Nat × Instr × Nat) := [(0, .aload_n 0, 1), (1, .aload_n 0, 1), (2, .iload_n 1, 1), (3, .invokevirtual 127, 3), (6, .invokevirtual 123, 3), (9, .ifCond .ne 5, 3), (12, .iconst 0, 1), (13, .ireturn, 1), (14, .iload_n 2, 1), (15, .invokestatic 131, 3), (18, .ifCond .eq 14, 3), (21, .iload_n 3, 1), (22, .iconst 0, 1), (23, .sipush 10000, 3), (26, .invokestatic 119, 3), (29, .ifCond .ne 9, 3), (32, .aload_n 0, 1), (33, .iconst 2, 1), (34, .invokevirtual 134, 3), (37, .ireturn, 1), (38, .aload_n 0, 1), (39, .getfield 16, 3), (42, .iconst 3, 1), (43, .iload_n 1, 1), (44, .imul, 1), (45, .iload_n 2, 1), (46, .iadd, 1), (47, .iaload, 1), (48, .istore 4, 2), (50, .aload_n 0, 1), (51, .getfield 16, 3), (54, .iconst 3, 1), (55, .iload_n 1, 1), (56, .imul, 1), (57, .iload_n 2, 1), (58, .iadd, 1), (59, .iload_n 3, 1), (60, .iastore, 1), (61, .iload 4, 2), (63, .ireturn, 1)]
set_option maxRecDepth 100000 in
theorem tX5_due_0 : xdec cX5_due lX5_due_0 = true := by decide +kernel
def lX5_charge_0 : List (Nat × Instr × Nat) := [(0, .aload_n 0, 1), (1, .aload_n 0, 1), (2, .iload_n 1, 1), (3, .invokevirtual 127, 3), (6, .invokevirtual 123, 3), (9, .ifCond .ne 5, 3), (12, .iconst 0, 1), (13, .ireturn, 1), (14, .iload_n 2, 1), (15, .iconst 0, 1), (16, .sipush 1000, 3), (19, .invokestatic 119, 3), (22, .ifCond .ne 9, 3), (25, .aload_n 0, 1), (26, .iconst 2, 1), (27, .invokevirtual 134, 3), (30, .ireturn, 1), (31, .aload_n 0, 1), (32, .getfield 19, 3), (35, .iload_n 1, 1), (36, .iaload, 1), (37, .istore_n 3, 1), (38, .aload_n 0, 1), (39, .getfield 19, 3), (42, .iload_n 1, 1), (43, .iload_n 2, 1), (44, .iastore, 1), (45, .iload_n 3, 1), (46, .ireturn, 1)]
set_option maxRecDepth 100000 in
theorem tX5_charge_0 : xdec cX5_charge lX5_charge_0 = true := by decide +kernel
def lX5_coupon_0 : List (Nat × Instr × Nat) := [(0, .aload_n 0, 1), (1, .aload_n 0, 1), (2, .iload_n 1, 1), (3, .invokevirtual 127, 3), (6, .invokevirtual 123, 3), (9, .ifCond .ne 5, 3), (12, .iconst 0, 1), (13, .ireturn, 1), (14, .iload_n 2, 1), (15, .iconst 0, 1), (16, .sipush 10000, 3), (19, .invokestatic 119, 3), (22, .ifCond .ne 9, 3), (25, .aload_n 0, 1), (26, .iconst 2, 1), (27, .invokevirtual 134, 3), (30, .ireturn, 1), (31, .aload_n 0, 1), (32, .getfield 22, 3), (35, .iload_n 1, 1), (36, .iaload, 1), (37, .istore_n 3, 1), (38, .aload_n 0, 1), (39, .getfield 22, 3), (42, .iload_n 1, 1), (43, .iload_n 2, 1), (44, .iastore, 1), (45, .iload_n 3, 1), (46, .ireturn, 1)]
set_option maxRecDepth 100000 in
theorem tX5_coupon_0 : xdec cX5_coupon lX5_coupon_0 = true := by decide +kernel
end
section
def lX5_strike_0 : List (Nat × Instr × Nat) := [(0, .aload_n 0, 1), (1, .aload_n 0, 1), (2, .iload_n 1, 1), (3, .invokevirtual 127, 3), (6, .invokevirtual 123, 3), (9, .ifCond .ne 5, 3), (12, .iconst 0, 1), (13, .ireturn, 1), (14, .aload_n 0, 1), (15, .getfield 25, 3), (18, .iload_n 1, 1), (19, .baload, 1), (20, .istore_n 3, 1), (21, .aload_n 0, 1), (22, .getfield 25, 3), (25, .iload_n 1, 1), (26, .iload_n 2, 1), (27, .bastore, 1), (28, .iload_n 3, 1), (29, .ireturn, 1)]
set_option maxRecDepth 100000 in
theorem tX5_strike_0 : xdec cX5_strike lX5_strike_0 = true := by decide +kernel
def lX5_leg_0 : List (Nat × Instr × Nat) := [(0, .aload_n 0, 1), (1, .aload_n 0, 1), (2, .iload_n 1, 1), (3, .invokevirtual 127, 3), (6, .ifCond .eq 15, 3), (9, .aload_n 0, 1), (10, .iload_n 2, 1), (11, .invokevirtual 127, 3), (14, .ifCond .eq 7, 3), (17, .iconst 1, 1), (18, .goto 4, 3), (21, .iconst 0, 1), (22, .invokevirtual 123, 3), (25, .ifCond .ne 5, 3), (28, .iconst 0, 1), (29, .ireturn, 1), (30, .iload_n 1, 1), (31, .iload_n 2, 1), (32, .if_icmp .eq 13, 3), (35, .iload_n 3, 1), (36, .iconst 1, 1), (37, .bipush 100, 2), (39, .invokestatic 119, 3), (42, .ifCond .ne 9, 3), (45, .aload_n 0, 1), (46, .iconst 2, 1), (47, .invokevirtual 134, 3), (50, .ireturn, 1), (51, .aload_n 0, 1), (52, .getfield 138, 3), (55, .bipush 20, 2), (57, .if_icmp .ne 9, 3), (60, .aload_n 0, 1), (61, .iconst 3, 1), (62, .invokevirtual 134, 3), (65, .ireturn, 1), (66, .aload_n 0, 1), (67, .getfield 39, 3), (70, .aload_n 0, 1), (71, .getfield 138, 3)]
set_option maxRecDepth 100000 in
theorem tX5_leg_0 : xdec cX5_leg lX5_leg_0 = true := by decide +kernel
def lX5_leg_1 : List (Nat × Instr × Nat) := [(74, .iload_n 1, 1), (75, .iastore, 1), (76, .aload_n 0, 1), (77, .getfield 42, 3), (80, .aload_n 0, 1), (81, .getfield 138, 3), (84, .iload_n 2, 1), (85, .iastore, 1), (86, .aload_n 0, 1), (87, .getfield 45, 3), (90, .aload_n 0, 1), (91, .getfield 138, 3), (94, .iload_n 3, 1), (95, .iastore, 1), (96, .aload_n 0, 1), (97, .dup, 1), (98, .getfield 138, 3), (101, .iconst 1, 1), (102, .iadd, 1), (103, .putfield 138, 3), (106, .aload_n 0, 1), (107, .getfield 138, 3), (110, .iconst 1, 1), (111, .isub, 1), (112, .ireturn, 1)]
set_option maxRecDepth 100000 in
theorem tX5_leg_1 : xdec cX5_leg lX5_leg_1 = true := by decide +kernel
def lX5_close_0 : List (Nat × Instr × Nat) := [(0, .aload_n 0, 1), (1, .iload_n 1, 1), (2, .iconst 0, 1), (3, .aload_n 0, 1), (4, .getfield 138, 3), (7, .iconst 1, 1), (8, .isub, 1), (9, .invokestatic 119, 3), (12, .invokevirtual 123, 3), (15, .ifCond .ne 5, 3), (18, .iconst 0, 1), (19, .ireturn, 1), (20, .aload_n 0, 1), (21, .getfield 48, 3), (24, .iload_n 1, 1), (25, .baload, 1), (26, .istore_n 3, 1), (27, .aload_n 0, 1), (28, .getfield 48, 3), (31, .iload_n 1, 1), (32, .iload_n 2, 1), (33, .bastore, 1), (34, .iload_n 3, 1), (35, .ireturn, 1)]
set_option maxRecDepth 100000 in
theorem tX5_close_0 : xdec cX5_close lX5_close_0 = true := by decide +kernel
def lX5_across_0 : List (Nat × Instr × Nat) := [(0, .aload_n 0, 1), (1, .getfield 39, 3), (4, .iload_n 1, 1), (5, .iaload, 1), (6, .iload_n 2, 1), (7, .if_icmp .ne 12, 3), (10, .aload_n 0, 1), (11, .getfield 42, 3), (14, .iload_n 1, 1), (15, .iaload, 1), (16, .goto 9, 3), (19, .aload_n 0, 1), (20, .getfield 39, 3), (23, .iload_n 1, 1), (24, .iaload, 1), (25, .ireturn, 1)]
set_option maxRecDepth 100000 in
theorem tX5_across_0 : xdec cX5_across lX5_across_0 = true := by decide +kernel
def lX5_ends_0 : List (Nat × Instr × Nat) := [(0, .aload_n 0, 1), (1, .getfield 39, 3), (4, .iload_n 1, 1), (5, .iaload, 1), (6, .iload_n 2, 1), (7, .if_icmp .eq 13, 3), (10, .aload_n 0, 1), (11, .getfield 42, 3), (14, .iload_n 1, 1), (15, .iaload, 1), (16, .iload_n 2, 1), (17, .if_icmp .ne 7, 3), (20, .iconst 1, 1), (21, .goto 4, 3), (24, .iconst 0, 1), (25, .ireturn, 1)]
set_option maxRecDepth 100000 in
theorem tX5_ends_0 : xdec cX5_ends lX5_ends_0 = true := by decide +kernel
def lX5_measures_0 : List (Nat × Instr × Nat) := [(0, .iconst 0, 1), (1, .istore_n 2, 1), (2, .iload_n 2, 1), (3, .bipush 8, 2), (5, .if_icmp .ge 26, 3), (8, .aload_n 0, 1), (9, .getfield 51, 3), (12, .iload_n 2, 1), (13, .iload_n 2, 1), (14, .iload_n 1, 1), (15, .if_icmp .ne 7, 3), (18, .iconst 0, 1), (19, .goto 5, 3), (22, .ldc 141, 2), (24, .iastore, 1), (25, .iinc 2 1, 3), (28, .goto (-26), 3), (31, .iconst 0, 1), (32, .istore_n 2, 1), (33, .iload_n 2, 1), (34, .bipush 8, 2), (36, .if_icmp .ge 169, 3), (39, .iconst 0, 1), (40, .istore_n 3, 1), (41, .iload_n 3, 1), (42, .aload_n 0, 1), (43, .getfield 138, 3), (46, .if_icmp .ge 153, 3), (49, .aload_n 0, 1), (50, .getfield 51, 3), (53, .aload_n 0, 1), (54, .getfield 39, 3), (57, .iload_n 3, 1), (58, .iaload, 1), (59, .iaload, 1), (60, .aload_n 0, 1), (61, .getfield 45, 3), (64, .iload_n 3, 1), (65, .iaload, 1), (66, .iadd, 1)]
set_option maxRecDepth 100000 in
theorem tX5_measures_0 : xdec cX5_measures lX5_measures_0 = true := by decide +kernel
def lX5_measures_1 : List (Nat × Instr × Nat) := [(67, .istore 4, 2), (69, .aload_n 0, 1), (70, .getfield 51, 3), (73, .aload_n 0, 1), (74, .getfield 42, 3), (77, .iload_n 3, 1), (78, .iaload, 1), (79, .iaload, 1), (80, .aload_n 0, 1), (81, .getfield 45, 3), (84, .iload_n 3, 1), (85, .iaload, 1), (86, .iadd, 1), (87, .istore 5, 2), (89, .aload_n 0, 1), (90, .getfield 51, 3), (93, .aload_n 0, 1), (94, .getfield 42, 3), (97, .iload_n 3, 1), (98, .iaload, 1), (99, .aload_n 0, 1), (100, .getfield 48, 3), (103, .iload_n 3, 1), (104, .baload, 1), (105, .ifCond .ne 24, 3), (108, .iload 4, 2), (110, .aload_n 0, 1), (111, .getfield 51, 3), (114, .aload_n 0, 1), (115, .getfield 42, 3), (118, .iload_n 3, 1), (119, .iaload, 1), (120, .iaload, 1), (121, .if_icmp .ge 8, 3), (124, .iload 4, 2), (126, .goto 14, 3), (129, .aload_n 0, 1), (130, .getfield 51, 3), (133, .aload_n 0, 1), (134, .getfield 42, 3)]
set_option maxRecDepth 100000 in
theorem tX5_measures_1 : xdec cX5_measures lX5_measures_1 = true := by decide +kernel
def lX5_measures_2 : List (Nat × Instr × Nat) := [(137, .iload_n 3, 1), (138, .iaload, 1), (139, .iaload, 1), (140, .iastore, 1), (141, .aload_n 0, 1), (142, .getfield 51, 3), (145, .aload_n 0, 1), (146, .getfield 39, 3), (149, .iload_n 3, 1), (150, .iaload, 1), (151, .aload_n 0, 1), (152, .getfield 48, 3), (155, .iload_n 3, 1), (156, .baload, 1), (157, .ifCond .ne 24, 3), (160, .iload 5, 2), (162, .aload_n 0, 1), (163, .getfield 51, 3), (166, .aload_n 0, 1), (167, .getfield 39, 3), (170, .iload_n 3, 1), (171, .iaload, 1), (172, .iaload, 1), (173, .if_icmp .ge 8, 3), (176, .iload 5, 2), (178, .goto 14, 3), (181, .aload_n 0, 1), (182, .getfield 51, 3), (185, .aload_n 0, 1), (186, .getfield 39, 3), (189, .iload_n 3, 1), (190, .iaload, 1), (191, .iaload, 1), (192, .iastore, 1), (193, .iinc 3 1, 3), (196, .goto (-155), 3), (199, .iinc 2 1, 3), (202, .goto (-169), 3), (205, .return_, 1)]
set_option maxRecDepth 100000 in
theorem tX5_measures_2 : xdec cX5_measures lX5_measures_2 = true := by decide +kernel
def lX5_daysTold_0 : List (Nat × Instr × Nat) := [(0, .aload_n 0, 1), (1, .aload_n 0, 1), (2, .iload_n 1, 1), (3, .invokevirtual 127, 3), (6, .ifCond .eq 15, 3), (9, .aload_n 0, 1), (10, .iload_n 2, 1), (11, .invokevirtual 127, 3), (14, .ifCond .eq 7, 3), (17, .iconst 1, 1), (18, .goto 4, 3), (21, .iconst 0, 1), (22, .invokevirtual 123, 3), (25, .ifCond .ne 5, 3), (28, .iconst 0, 1), (29, .ireturn, 1), (30, .aload_n 0, 1), (31, .iload_n 2, 1), (32, .invokevirtual 142, 3), (35, .aload_n 0, 1), (36, .getfield 51, 3), (39, .iload_n 1, 1), (40, .iaload, 1), (41, .ldc 141, 2), (43, .if_icmp .lt 7, 3), (46, .iconst (-1), 1), (47, .goto 9, 3), (50, .aload_n 0, 1), (51, .getfield 51, 3), (54, .iload_n 1, 1), (55, .iaload, 1), (56, .ireturn, 1)]
set_option maxRecDepth 100000 in
theorem tX5_daysTold_0 : xdec cX5_daysTold lX5_daysTold_0 = true := by decide +kernel
def lX5_days_0 : List (Nat × Instr × Nat) := [(0, .aload_n 0, 1), (1, .iload_n 1, 1), (2, .iload_n 2, 1), (3, .invokevirtual 146, 3), (6, .ireturn, 1)]
set_option maxRecDepth 100000 in
theorem tX5_days_0 : xdec cX5_days lX5_days_0 = true := by decide +kernel
def lX5_daysAnew_0 : List (Nat × Instr × Nat) := [(0, .aload_n 0, 1), (1, .iload_n 1, 1), (2, .iload_n 2, 1), (3, .invokevirtual 146, 3), (6, .ireturn, 1)]
set_option maxRecDepth 100000 in
theorem tX5_daysAnew_0 : xdec cX5_daysAnew lX5_daysAnew_0 = true := by decide +kernel
def lX5_nextOf_0 : List (Nat × Instr × Nat) := [(0, .aload_n 0, 1), (1, .iload_n 2, 1), (2, .invokevirtual 142, 3), (5, .iconst (-1), 1), (6, .istore_n 3, 1), (7, .aload_n 0, 1), (8, .getfield 138, 3), (11, .iconst 1, 1), (12, .isub, 1), (13, .istore 4, 2), (15, .iload 4, 2), (17, .ifCond .lt 113, 3), (20, .iload_n 1, 1), (21, .iload_n 2, 1), (22, .if_icmp .eq 108, 3), (25, .aload_n 0, 1), (26, .getfield 51, 3), (29, .iload_n 1, 1), (30, .iaload, 1), (31, .ldc 141, 2), (33, .if_icmp .ge 97, 3), (36, .aload_n 0, 1), (37, .getfield 48, 3), (40, .iload 4, 2), (42, .baload, 1), (43, .ifCond .ne 81, 3), (46, .aload_n 0, 1), (47, .iload 4, 2), (49, .iload_n 1, 1), (50, .invokevirtual 150, 3), (53, .ifCond .eq 71, 3), (56, .aload_n 0, 1), (57, .iload 4, 2), (59, .iload_n 1, 1), (60, .invokevirtual 154, 3), (63, .istore 5, 2), (65, .aload_n 0, 1), (66, .getfield 45, 3), (69, .iload 4, 2), (71, .iaload, 1)]
set_option maxRecDepth 100000 in
theorem tX5_nextOf_0 : xdec cX5_nextOf lX5_nextOf_0 = true := by decide +kernel
def lX5_nextOf_1 : List (Nat × Instr × Nat) := [(72, .aload_n 0, 1), (73, .getfield 51, 3), (76, .iload 5, 2), (78, .iaload, 1), (79, .iadd, 1), (80, .aload_n 0, 1), (81, .getfield 51, 3), (84, .iload_n 1, 1), (85, .iaload, 1), (86, .if_icmp .ne 7, 3), (89, .iconst 1, 1), (90, .goto 4, 3), (93, .iconst 0, 1), (94, .istore 6, 2), (96, .iload 6, 2), (98, .ifCond .eq 24, 3), (101, .iload_n 3, 1), (102, .iconst (-1), 1), (103, .if_icmp .eq 14, 3), (106, .iload 5, 2), (108, .aload_n 0, 1), (109, .iload_n 3, 1), (110, .iload_n 1, 1), (111, .invokevirtual 154, 3), (114, .if_icmp .gt 8, 3), (117, .iload 4, 2), (119, .goto 4, 3), (122, .iload_n 3, 1), (123, .istore_n 3, 1), (124, .iinc 4 (-1), 3), (127, .goto (-112), 3), (130, .iload_n 3, 1), (131, .ireturn, 1)]
set_option maxRecDepth 100000 in
theorem tX5_nextOf_1 : xdec cX5_nextOf lX5_nextOf_1 = true := by decide +kernel
def lX5_next_0 : List (Nat × Instr × Nat) := [(0, .aload_n 0, 1), (1, .aload_n 0, 1), (2, .iload_n 1, 1), (3, .invokevirtual 127, 3), (6, .ifCond .eq 15, 3), (9, .aload_n 0, 1), (10, .iload_n 2, 1), (11, .invokevirtual 127, 3), (14, .ifCond .eq 7, 3), (17, .iconst 1, 1), (18, .goto 4, 3), (21, .iconst 0, 1), (22, .invokevirtual 123, 3), (25, .ifCond .eq 12, 3), (28, .aload_n 0, 1), (29, .iload_n 1, 1), (30, .iload_n 2, 1), (31, .invokevirtual 157, 3), (34, .goto 4, 3), (37, .iconst 0, 1), (38, .ireturn, 1)]
set_option maxRecDepth 100000 in
theorem tX5_next_0 : xdec cX5_next lX5_next_0 = true := by decide +kernel
def lX5_rateOf_0 : List (Nat × Instr × Nat) := [(0, .iload_n 3, 1), (1, .iconst 1, 1), (2, .isub, 1), (3, .bipush 20, 2), (5, .idiv, 1), (6, .istore 5, 2), (8, .aload_n 0, 1), (9, .getfield 7, 3), (12, .iconst 3, 1), (13, .iload_n 2, 1), (14, .imul, 1), (15, .iload_n 1, 1), (16, .iadd, 1), (17, .iaload, 1), (18, .aload_n 0, 1), (19, .getfield 13, 3), (22, .iconst 3, 1), (23, .iload_n 2, 1), (24, .imul, 1), (25, .iload_n 1, 1), (26, .iadd, 1), (27, .iaload, 1), (28, .iload 5, 2), (30, .imul, 1), (31, .iadd, 1), (32, .iload 4, 2), (34, .ifCond .eq 8, 3), (37, .bipush 50, 2), (39, .goto 4, 3), (42, .iconst 0, 1), (43, .iadd, 1), (44, .ireturn, 1)]
set_option maxRecDepth 100000 in
theorem tX5_rateOf_0 : xdec cX5_rateOf lX5_rateOf_0 = true := by decide +kernel
def lX5_signs_0 : List (Nat × Instr × Nat) := [(0, .aload_n 0, 1), (1, .getfield 66, 3), (4, .iload_n 1, 1), (5, .baload, 1), (6, .ifCond .eq 99, 3), (9, .aload_n 0, 1), (10, .getfield 160, 3), (13, .ldc 93, 2), (15, .if_icmp .ge 90, 3), (18, .aload_n 0, 1), (19, .getfield 94, 3), (22, .aload_n 0, 1), (23, .getfield 160, 3), (26, .iload_n 2, 1), (27, .iastore, 1), (28, .aload_n 0, 1), (29, .getfield 97, 3), (32, .aload_n 0, 1), (33, .getfield 160, 3), (36, .iconst (-1), 1), (37, .iastore, 1), (38, .aload_n 0, 1), (39, .getfield 106, 3), (42, .iload_n 1, 1), (43, .iaload, 1), (44, .ifCond .ne 16, 3), (47, .aload_n 0, 1), (48, .getfield 100, 3), (51, .iload_n 1, 1), (52, .aload_n 0, 1), (53, .getfield 160, 3), (56, .iastore, 1), (57, .goto 18, 3), (60, .aload_n 0, 1), (61, .getfield 97, 3), (64, .aload_n 0, 1), (65, .getfield 103, 3), (68, .iload_n 1, 1), (69, .iaload, 1), (70, .aload_n 0, 1)]
set_option maxRecDepth 100000 in
theorem tX5_signs_0 : xdec cX5_signs lX5_signs_0 = true := by decide +kernel
def lX5_signs_1 : List (Nat × Instr × Nat) := [(71, .getfield 160, 3), (74, .iastore, 1), (75, .aload_n 0, 1), (76, .getfield 103, 3), (79, .iload_n 1, 1), (80, .aload_n 0, 1), (81, .getfield 160, 3), (84, .iastore, 1), (85, .aload_n 0, 1), (86, .getfield 106, 3), (89, .iload_n 1, 1), (90, .dup2, 1), (91, .iaload, 1), (92, .iconst 1, 1), (93, .iadd, 1), (94, .iastore, 1), (95, .aload_n 0, 1), (96, .dup, 1), (97, .getfield 160, 3), (100, .iconst 1, 1), (101, .iadd, 1), (102, .putfield 160, 3), (105, .return_, 1)]
set_option maxRecDepth 100000 in
theorem tX5_signs_1 : xdec cX5_signs lX5_signs_1 = true := by decide +kernel
def lX5_mail_0 : List (Nat × Instr × Nat) := [(0, .aload_n 0, 1), (1, .aload_n 0, 1), (2, .iload_n 2, 1), (3, .invokevirtual 127, 3), (6, .ifCond .eq 15, 3), (9, .aload_n 0, 1), (10, .iload_n 3, 1), (11, .invokevirtual 127, 3), (14, .ifCond .eq 7, 3), (17, .iconst 1, 1), (18, .goto 4, 3), (21, .iconst 0, 1), (22, .invokevirtual 123, 3), (25, .ifCond .ne 5, 3), (28, .iconst 0, 1), (29, .ireturn, 1), (30, .iload_n 1, 1), (31, .invokestatic 131, 3), (34, .ifCond .eq 28, 3), (37, .iload_n 1, 1), (38, .iload 4, 2), (40, .invokestatic 163, 3), (43, .ifCond .eq 19, 3), (46, .iload 5, 2), (48, .iconst 0, 1), (49, .ldc 166, 2), (51, .invokestatic 119, 3), (54, .ifCond .eq 8, 3), (57, .iload_n 2, 1), (58, .iload_n 3, 1), (59, .if_icmp .ne 9, 3), (62, .aload_n 0, 1), (63, .iconst 2, 1), (64, .invokevirtual 134, 3), (67, .ireturn, 1), (68, .aload_n 0, 1), (69, .getfield 167, 3), (72, .bipush 40, 2), (74, .if_icmp .ne 9, 3), (77, .aload_n 0, 1)]
set_option maxRecDepth 100000 in
theorem tX5_mail_0 : xdec cX5_mail lX5_mail_0 = true := by decide +kernel
def lX5_mail_1 : List (Nat × Instr × Nat) := [(78, .iconst 3, 1), (79, .invokevirtual 134, 3), (82, .ireturn, 1), (83, .aload_n 0, 1), (84, .getfield 167, 3), (87, .istore 7, 2), (89, .aload_n 0, 1), (90, .iload_n 1, 1), (91, .iload_n 2, 1), (92, .iload 4, 2), (94, .iload 6, 2), (96, .invokevirtual 170, 3), (99, .istore 8, 2), (101, .aload_n 0, 1), (102, .getfield 54, 3), (105, .iload 7, 2), (107, .iload_n 1, 1), (108, .iastore, 1), (109, .aload_n 0, 1), (110, .getfield 57, 3), (113, .iload 7, 2), (115, .iload_n 2, 1), (116, .iastore, 1), (117, .aload_n 0, 1), (118, .getfield 60, 3), (121, .iload 7, 2), (123, .iload_n 3, 1), (124, .iastore, 1), (125, .aload_n 0, 1), (126, .getfield 63, 3), (129, .iload 7, 2), (131, .iload 4, 2), (133, .iastore, 1), (134, .aload_n 0, 1), (135, .getfield 66, 3), (138, .iload 7, 2), (140, .iload 6, 2), (142, .bastore, 1), (143, .aload_n 0, 1), (144, .getfield 69, 3)]
set_option maxRecDepth 100000 in
theorem tX5_mail_1 : xdec cX5_mail lX5_mail_1 = true := by decide +kernel
def lX5_mail_2 : List (Nat × Instr × Nat) := [(147, .iload 7, 2), (149, .iload 8, 2), (151, .iload 5, 2), (153, .if_icmp .le 11, 3), (156, .iload 8, 2), (158, .iload 5, 2), (160, .isub, 1), (161, .goto 4, 3), (164, .iconst 0, 1), (165, .iastore, 1), (166, .aload_n 0, 1), (167, .getfield 72, 3), (170, .iload 7, 2), (172, .iconst 0, 1), (173, .iastore, 1), (174, .aload_n 0, 1), (175, .getfield 75, 3), (178, .iload 7, 2), (180, .iload_n 2, 1), (181, .iastore, 1), (182, .aload_n 0, 1), (183, .getfield 78, 3), (186, .iload 7, 2), (188, .iconst (-1), 1), (189, .iastore, 1), (190, .aload_n 0, 1), (191, .getfield 33, 3), (194, .iload_n 2, 1), (195, .dup2, 1), (196, .laload, 1), (197, .iload 5, 2), (199, .i2l, 1), (200, .ladd, 1), (201, .lastore, 1), (202, .aload_n 0, 1), (203, .iload 7, 2), (205, .iload_n 2, 1), (206, .invokevirtual 174, 3), (209, .aload_n 0, 1), (210, .dup, 1)]
set_option maxRecDepth 100000 in
theorem tX5_mail_2 : xdec cX5_mail lX5_mail_2 = true := by decide +kernel
def lX5_mail_3 : List (Nat × Instr × Nat) := [(211, .getfield 167, 3), (214, .iconst 1, 1), (215, .iadd, 1), (216, .putfield 167, 3), (219, .iload 7, 2), (221, .ireturn, 1)]
set_option maxRecDepth 100000 in
theorem tX5_mail_3 : xdec cX5_mail lX5_mail_3 = true := by decide +kernel
def lX5_isThing_0 : List (Nat × Instr × Nat) := [(0, .iload_n 1, 1), (1, .iconst 0, 1), (2, .aload_n 0, 1), (3, .getfield 167, 3), (6, .iconst 1, 1), (7, .isub, 1), (8, .invokestatic 119, 3), (11, .ireturn, 1)]
set_option maxRecDepth 100000 in
theorem tX5_isThing_0 : xdec cX5_isThing lX5_isThing_0 = true := by decide +kernel
def lX5_isUnderWay_0 : List (Nat × Instr × Nat) := [(0, .aload_n 0, 1), (1, .getfield 72, 3), (4, .iload_n 1, 1), (5, .iaload, 1), (6, .ifCond .eq 13, 3), (9, .aload_n 0, 1), (10, .getfield 72, 3), (13, .iload_n 1, 1), (14, .iaload, 1), (15, .iconst 1, 1), (16, .if_icmp .ne 7, 3), (19, .iconst 1, 1), (20, .goto 4, 3), (23, .iconst 0, 1), (24, .ireturn, 1)]
set_option maxRecDepth 100000 in
theorem tX5_isUnderWay_0 : xdec cX5_isUnderWay lX5_isUnderWay_0 = true := by decide +kernel
def lX5_redirect_0 : List (Nat × Instr × Nat) := [(0, .aload_n 0, 1), (1, .aload_n 0, 1), (2, .iload_n 1, 1), (3, .invokevirtual 178, 3), (6, .ifCond .eq 15, 3), (9, .aload_n 0, 1), (10, .iload_n 2, 1), (11, .invokevirtual 127, 3), (14, .ifCond .eq 7, 3), (17, .iconst 1, 1), (18, .goto 4, 3), (21, .iconst 0, 1), (22, .invokevirtual 123, 3), (25, .ifCond .ne 5, 3), (28, .iconst 0, 1), (29, .ireturn, 1), (30, .aload_n 0, 1), (31, .getfield 72, 3), (34, .iload_n 1, 1), (35, .iaload, 1), (36, .ifCond .ne 19, 3), (39, .aload_n 0, 1), (40, .getfield 75, 3), (43, .iload_n 1, 1), (44, .iaload, 1), (45, .iload_n 2, 1), (46, .if_icmp .ne 9, 3), (49, .aload_n 0, 1), (50, .iconst 2, 1), (51, .invokevirtual 134, 3), (54, .ireturn, 1), (55, .aload_n 0, 1), (56, .iload_n 1, 1), (57, .invokevirtual 181, 3), (60, .ifCond .eq 12, 3), (63, .aload_n 0, 1), (64, .getfield 84, 3), (67, .iload_n 1, 1), (68, .baload, 1), (69, .ifCond .eq 9, 3)]
set_option maxRecDepth 100000 in
theorem tX5_redirect_0 : xdec cX5_redirect lX5_redirect_0 = true := by decide +kernel
def lX5_redirect_1 : List (Nat × Instr × Nat) := [(72, .aload_n 0, 1), (73, .iconst 3, 1), (74, .invokevirtual 134, 3), (77, .ireturn, 1), (78, .aload_n 0, 1), (79, .getfield 60, 3), (82, .iload_n 1, 1), (83, .iaload, 1), (84, .istore_n 3, 1), (85, .aload_n 0, 1), (86, .getfield 60, 3), (89, .iload_n 1, 1), (90, .iload_n 2, 1), (91, .iastore, 1), (92, .iload_n 3, 1), (93, .ireturn, 1)]
set_option maxRecDepth 100000 in
theorem tX5_redirect_1 : xdec cX5_redirect lX5_redirect_1 = true := by decide +kernel
def lX5_refuse_0 : List (Nat × Instr × Nat) := [(0, .aload_n 0, 1), (1, .aload_n 0, 1), (2, .iload_n 1, 1), (3, .invokevirtual 178, 3), (6, .invokevirtual 123, 3), (9, .ifCond .ne 5, 3), (12, .iconst 0, 1), (13, .ireturn, 1), (14, .aload_n 0, 1), (15, .iload_n 1, 1), (16, .invokevirtual 181, 3), (19, .ifCond .eq 12, 3), (22, .aload_n 0, 1), (23, .getfield 84, 3), (26, .iload_n 1, 1), (27, .baload, 1), (28, .ifCond .eq 10, 3), (31, .aload_n 0, 1), (32, .iconst 2, 1), (33, .putfield 112, 3), (36, .iconst 0, 1), (37, .ireturn, 1), (38, .aload_n 0, 1), (39, .getfield 87, 3), (42, .iload_n 1, 1), (43, .baload, 1), (44, .istore_n 3, 1), (45, .aload_n 0, 1), (46, .getfield 87, 3), (49, .iload_n 1, 1), (50, .iload_n 2, 1), (51, .bastore, 1), (52, .iload_n 3, 1), (53, .ireturn, 1)]
set_option maxRecDepth 100000 in
theorem tX5_refuse_0 : xdec cX5_refuse lX5_refuse_0 = true := by decide +kernel
def lX5_taxOf_0 : List (Nat × Instr × Nat) := [(0, .ldc2_w 184, 3), (3, .aload_n 0, 1), (4, .getfield 69, 3), (7, .iload_n 1, 1), (8, .iaload, 1), (9, .i2l, 1), (10, .lmul, 1), (11, .lstore_n 2, 1), (12, .aload_n 0, 1), (13, .getfield 7, 3), (16, .iconst 3, 1), (17, .aload_n 0, 1), (18, .getfield 57, 3), (21, .iload_n 1, 1), (22, .iaload, 1), (23, .imul, 1), (24, .iaload, 1), (25, .istore 4, 2), (27, .iload 4, 2), (29, .ifCond .ne 7, 3), (32, .lload_n 2, 1), (33, .goto 23, 3), (36, .lload_n 2, 1), (37, .aload_n 0, 1), (38, .getfield 7, 3), (41, .iconst 3, 1), (42, .aload_n 0, 1), (43, .getfield 60, 3), (46, .iload_n 1, 1), (47, .iaload, 1), (48, .imul, 1), (49, .iaload, 1), (50, .i2l, 1), (51, .lmul, 1), (52, .iload 4, 2), (54, .i2l, 1), (55, .ldiv, 1), (56, .lreturn, 1)]
set_option maxRecDepth 100000 in
theorem tX5_taxOf_0 : xdec cX5_taxOf lX5_taxOf_0 = true := by decide +kernel
def lX5_pays_0 : List (Nat × Instr × Nat) := [(0, .aload_n 0, 1), (1, .getfield 29, 3), (4, .iload_n 1, 1), (5, .dup2, 1), (6, .laload, 1), (7, .lload_n 3, 1), (8, .lsub, 1), (9, .lastore, 1), (10, .aload_n 0, 1), (11, .getfield 29, 3), (14, .iload_n 2, 1), (15, .dup2, 1), (16, .laload, 1), (17, .lload_n 3, 1), (18, .ladd, 1), (19, .lastore, 1), (20, .return_, 1)]
set_option maxRecDepth 100000 in
theorem tX5_pays_0 : xdec cX5_pays lX5_pays_0 = true := by decide +kernel
def lX5_comes_0 : List (Nat × Instr × Nat) := [(0, .aload_n 0, 1), (1, .iload_n 1, 1), (2, .invokevirtual 186, 3), (5, .lstore_n 2, 1), (6, .aload_n 0, 1), (7, .getfield 84, 3), (10, .iload_n 1, 1), (11, .baload, 1), (12, .ifCond .ne 54, 3), (15, .aload_n 0, 1), (16, .getfield 87, 3), (19, .iload_n 1, 1), (20, .baload, 1), (21, .ifCond .eq 45, 3), (24, .lload_n 2, 1), (25, .lconst 0, 1), (26, .lcmp, 1), (27, .ifCond .le 39, 3), (30, .aload_n 0, 1), (31, .getfield 60, 3), (34, .iload_n 1, 1), (35, .iaload, 1), (36, .aload_n 0, 1), (37, .getfield 57, 3), (40, .iload_n 1, 1), (41, .iaload, 1), (42, .if_icmp .eq 24, 3), (45, .aload_n 0, 1), (46, .getfield 84, 3), (49, .iload_n 1, 1), (50, .iconst 1, 1), (51, .bastore, 1), (52, .aload_n 0, 1), (53, .getfield 60, 3), (56, .iload_n 1, 1), (57, .aload_n 0, 1), (58, .getfield 57, 3), (61, .iload_n 1, 1), (62, .iaload, 1), (63, .iastore, 1)]
set_option maxRecDepth 100000 in
theorem tX5_comes_0 : xdec cX5_comes lX5_comes_0 = true := by decide +kernel
def lX5_comes_1 : List (Nat × Instr × Nat) := [(64, .iconst 0, 1), (65, .ireturn, 1), (66, .aload_n 0, 1), (67, .getfield 72, 3), (70, .iload_n 1, 1), (71, .iconst 2, 1), (72, .iastore, 1), (73, .aload_n 0, 1), (74, .getfield 84, 3), (77, .iload_n 1, 1), (78, .baload, 1), (79, .ifCond .ne 124, 3), (82, .aload_n 0, 1), (83, .getfield 33, 3), (86, .aload_n 0, 1), (87, .getfield 60, 3), (90, .iload_n 1, 1), (91, .iaload, 1), (92, .dup2, 1), (93, .laload, 1), (94, .lload_n 2, 1), (95, .ladd, 1), (96, .lastore, 1), (97, .aload_n 0, 1), (98, .getfield 60, 3), (101, .iload_n 1, 1), (102, .iaload, 1), (103, .aload_n 0, 1), (104, .getfield 57, 3), (107, .iload_n 1, 1), (108, .iaload, 1), (109, .if_icmp .ne 7, 3), (112, .iconst 0, 1), (113, .goto 23, 3), (116, .aload_n 0, 1), (117, .getfield 16, 3), (120, .iconst 3, 1), (121, .aload_n 0, 1), (122, .getfield 60, 3), (125, .iload_n 1, 1)]
set_option maxRecDepth 100000 in
theorem tX5_comes_1 : xdec cX5_comes lX5_comes_1 = true := by decide +kernel
def lX5_comes_2 : List (Nat × Instr × Nat) := [(126, .iaload, 1), (127, .imul, 1), (128, .aload_n 0, 1), (129, .getfield 54, 3), (132, .iload_n 1, 1), (133, .iaload, 1), (134, .iadd, 1), (135, .iaload, 1), (136, .istore 4, 2), (138, .aload_n 0, 1), (139, .getfield 66, 3), (142, .iload_n 1, 1), (143, .baload, 1), (144, .ifCond .eq 25, 3), (147, .aload_n 0, 1), (148, .aload_n 0, 1), (149, .getfield 57, 3), (152, .iload_n 1, 1), (153, .iaload, 1), (154, .aload_n 0, 1), (155, .getfield 60, 3), (158, .iload_n 1, 1), (159, .iaload, 1), (160, .iload 4, 2), (162, .i2l, 1), (163, .invokevirtual 190, 3), (166, .goto 37, 3), (169, .aload_n 0, 1), (170, .getfield 194, 3), (173, .ifCond .eq 30, 3), (176, .aload_n 0, 1), (177, .getfield 36, 3), (180, .bipush 8, 2), (182, .aload_n 0, 1), (183, .getfield 57, 3), (186, .iload_n 1, 1), (187, .iaload, 1), (188, .imul, 1), (189, .aload_n 0, 1), (190, .getfield 60, 3)]
set_option maxRecDepth 100000 in
theorem tX5_comes_2 : xdec cX5_comes lX5_comes_2 = true := by decide +kernel
def lX5_comes_3 : List (Nat × Instr × Nat) := [(193, .iload_n 1, 1), (194, .iaload, 1), (195, .iadd, 1), (196, .dup2, 1), (197, .laload, 1), (198, .iload 4, 2), (200, .i2l, 1), (201, .ladd, 1), (202, .lastore, 1), (203, .iconst 1, 1), (204, .ireturn, 1)]
set_option maxRecDepth 100000 in
theorem tX5_comes_3 : xdec cX5_comes lX5_comes_3 = true := by decide +kernel
def lX5_travels_0 : List (Nat × Instr × Nat) := [(0, .aload_n 0, 1), (1, .getfield 81, 3), (4, .iload_n 1, 1), (5, .dup2, 1), (6, .iaload, 1), (7, .iconst 1, 1), (8, .isub, 1), (9, .iastore, 1), (10, .aload_n 0, 1), (11, .getfield 81, 3), (14, .iload_n 1, 1), (15, .iaload, 1), (16, .ifCond .le 5, 3), (19, .iconst 0, 1), (20, .ireturn, 1), (21, .aload_n 0, 1), (22, .getfield 72, 3), (25, .iload_n 1, 1), (26, .iconst 0, 1), (27, .iastore, 1), (28, .aload_n 0, 1), (29, .getfield 78, 3), (32, .iload_n 1, 1), (33, .iconst (-1), 1), (34, .iastore, 1), (35, .aload_n 0, 1), (36, .iload_n 1, 1), (37, .aload_n 0, 1), (38, .getfield 75, 3), (41, .iload_n 1, 1), (42, .iaload, 1), (43, .invokevirtual 174, 3), (46, .aload_n 0, 1), (47, .getfield 75, 3), (50, .iload_n 1, 1), (51, .iaload, 1), (52, .aload_n 0, 1), (53, .getfield 60, 3), (56, .iload_n 1, 1), (57, .iaload, 1)]
set_option maxRecDepth 100000 in
theorem tX5_travels_0 : xdec cX5_travels lX5_travels_0 = true := by decide +kernel
def lX5_travels_1 : List (Nat × Instr × Nat) := [(58, .if_icmp .ne 11, 3), (61, .aload_n 0, 1), (62, .iload_n 1, 1), (63, .invokevirtual 198, 3), (66, .goto 4, 3), (69, .iconst 0, 1), (70, .ireturn, 1)]
set_option maxRecDepth 100000 in
theorem tX5_travels_1 : xdec cX5_travels lX5_travels_1 = true := by decide +kernel
def lX5_leaves_0 : List (Nat × Instr × Nat) := [(0, .aload_n 0, 1), (1, .getfield 75, 3), (4, .iload_n 1, 1), (5, .iaload, 1), (6, .istore_n 2, 1), (7, .aload_n 0, 1), (8, .getfield 25, 3), (11, .iload_n 2, 1), (12, .baload, 1), (13, .ifCond .eq 7, 3), (16, .iconst (-1), 1), (17, .goto 14, 3), (20, .aload_n 0, 1), (21, .iload_n 2, 1), (22, .aload_n 0, 1), (23, .getfield 60, 3), (26, .iload_n 1, 1), (27, .iaload, 1), (28, .invokevirtual 157, 3), (31, .istore_n 3, 1), (32, .iload_n 3, 1), (33, .iconst (-1), 1), (34, .if_icmp .ne 4, 3), (37, .return_, 1), (38, .aload_n 0, 1), (39, .getfield 72, 3), (42, .iload_n 1, 1), (43, .iconst 1, 1), (44, .iastore, 1), (45, .aload_n 0, 1), (46, .getfield 78, 3), (49, .iload_n 1, 1), (50, .iload_n 3, 1), (51, .iastore, 1), (52, .aload_n 0, 1), (53, .getfield 81, 3), (56, .iload_n 1, 1), (57, .aload_n 0, 1), (58, .getfield 45, 3), (61, .iload_n 3, 1)]
set_option maxRecDepth 100000 in
theorem tX5_leaves_0 : xdec cX5_leaves lX5_leaves_0 = true := by decide +kernel
end
section
def lX5_leaves_1 : List (Nat × Instr × Nat) := [(62, .iaload, 1), (63, .iastore, 1), (64, .aload_n 0, 1), (65, .getfield 75, 3), (68, .iload_n 1, 1), (69, .aload_n 0, 1), (70, .iload_n 3, 1), (71, .iload_n 2, 1), (72, .invokevirtual 154, 3), (75, .iastore, 1), (76, .iload_n 2, 1), (77, .aload_n 0, 1), (78, .getfield 57, 3), (81, .iload_n 1, 1), (82, .iaload, 1), (83, .if_icmp .eq 35, 3), (86, .aload_n 0, 1), (87, .aload_n 0, 1), (88, .getfield 57, 3), (91, .iload_n 1, 1), (92, .iaload, 1), (93, .iload_n 2, 1), (94, .aload_n 0, 1), (95, .getfield 19, 3), (98, .iload_n 2, 1), (99, .iaload, 1), (100, .i2l, 1), (101, .aload_n 0, 1), (102, .getfield 63, 3), (105, .iload_n 1, 1), (106, .iaload, 1), (107, .bipush 9, 2), (109, .iadd, 1), (110, .bipush 10, 2), (112, .idiv, 1), (113, .i2l, 1), (114, .lmul, 1), (115, .invokevirtual 190, 3), (118, .return_, 1)]
set_option maxRecDepth 100000 in
theorem tX5_leaves_1 : xdec cX5_leaves lX5_leaves_1 = true := by decide +kernel
def lX5_go_0 : List (Nat × Instr × Nat) := [(0, .aload_n 0, 1), (1, .iload_n 1, 1), (2, .iconst 1, 1), (3, .sipush 200, 3), (6, .invokestatic 119, 3), (9, .invokevirtual 123, 3), (12, .ifCond .ne 5, 3), (15, .iconst 0, 1), (16, .ireturn, 1), (17, .iconst 0, 1), (18, .istore_n 2, 1), (19, .iconst 0, 1), (20, .istore_n 3, 1), (21, .iload_n 3, 1), (22, .iload_n 1, 1), (23, .if_icmp .ge 85, 3), (26, .iconst 0, 1), (27, .istore 4, 2), (29, .iload 4, 2), (31, .aload_n 0, 1), (32, .getfield 167, 3), (35, .if_icmp .ge 33, 3), (38, .iload_n 2, 1), (39, .aload_n 0, 1), (40, .getfield 72, 3), (43, .iload 4, 2), (45, .iaload, 1), (46, .iconst 1, 1), (47, .if_icmp .ne 12, 3), (50, .aload_n 0, 1), (51, .iload 4, 2), (53, .invokevirtual 201, 3), (56, .goto 4, 3), (59, .iconst 0, 1), (60, .iadd, 1), (61, .istore_n 2, 1), (62, .iinc 4 1, 3), (65, .goto (-36), 3), (68, .iconst 0, 1), (69, .istore 4, 2)]
set_option maxRecDepth 100000 in
theorem tX5_go_0 : xdec cX5_go lX5_go_0 = true := by decide +kernel
def lX5_go_1 : List (Nat × Instr × Nat) := [(71, .iload 4, 2), (73, .aload_n 0, 1), (74, .getfield 167, 3), (77, .if_icmp .ge 25, 3), (80, .aload_n 0, 1), (81, .getfield 72, 3), (84, .iload 4, 2), (86, .iaload, 1), (87, .ifCond .ne 9, 3), (90, .aload_n 0, 1), (91, .iload 4, 2), (93, .invokevirtual 204, 3), (96, .iinc 4 1, 3), (99, .goto (-28), 3), (102, .iinc 3 1, 3), (105, .goto (-84), 3), (108, .iload_n 2, 1), (109, .ireturn, 1)]
set_option maxRecDepth 100000 in
theorem tX5_go_1 : xdec cX5_go lX5_go_1 = true := by decide +kernel
def lX5_lose_0 : List (Nat × Instr × Nat) := [(0, .aload_n 0, 1), (1, .aload_n 0, 1), (2, .iload_n 1, 1), (3, .invokevirtual 178, 3), (6, .invokevirtual 123, 3), (9, .ifCond .ne 5, 3), (12, .iconst 0, 1), (13, .ireturn, 1), (14, .aload_n 0, 1), (15, .iload_n 1, 1), (16, .invokevirtual 181, 3), (19, .ifCond .ne 9, 3), (22, .aload_n 0, 1), (23, .iconst 2, 1), (24, .invokevirtual 134, 3), (27, .ireturn, 1), (28, .aload_n 0, 1), (29, .getfield 72, 3), (32, .iload_n 1, 1), (33, .iconst 3, 1), (34, .iastore, 1), (35, .aload_n 0, 1), (36, .getfield 81, 3), (39, .iload_n 1, 1), (40, .iconst 0, 1), (41, .iastore, 1), (42, .aload_n 0, 1), (43, .getfield 106, 3), (46, .iload_n 1, 1), (47, .iaload, 1), (48, .ifCond .ne 7, 3), (51, .iconst (-1), 1), (52, .goto 14, 3), (55, .aload_n 0, 1), (56, .getfield 94, 3), (59, .aload_n 0, 1), (60, .getfield 103, 3), (63, .iload_n 1, 1), (64, .iaload, 1), (65, .iaload, 1)]
set_option maxRecDepth 100000 in
theorem tX5_lose_0 : xdec cX5_lose lX5_lose_0 = true := by decide +kernel
def lX5_lose_1 : List (Nat × Instr × Nat) := [(66, .ireturn, 1)]
set_option maxRecDepth 100000 in
theorem tX5_lose_1 : xdec cX5_lose lX5_lose_1 = true := by decide +kernel
def lX5_paysFor_0 : List (Nat × Instr × Nat) := [(0, .iload_n 2, 1), (1, .aload_n 0, 1), (2, .getfield 57, 3), (5, .iload_n 1, 1), (6, .iaload, 1), (7, .if_icmp .ne 5, 3), (10, .iconst 0, 1), (11, .ireturn, 1), (12, .aload_n 0, 1), (13, .iload_n 2, 1), (14, .aload_n 0, 1), (15, .getfield 57, 3), (18, .iload_n 1, 1), (19, .iaload, 1), (20, .iload_n 3, 1), (21, .i2l, 1), (22, .invokevirtual 190, 3), (25, .iload_n 3, 1), (26, .ireturn, 1)]
set_option maxRecDepth 100000 in
theorem tX5_paysFor_0 : xdec cX5_paysFor lX5_paysFor_0 = true := by decide +kernel
def lX5_claim_0 : List (Nat × Instr × Nat) := [(0, .aload_n 0, 1), (1, .aload_n 0, 1), (2, .iload_n 1, 1), (3, .invokevirtual 178, 3), (6, .invokevirtual 123, 3), (9, .ifCond .ne 5, 3), (12, .iconst 0, 1), (13, .ireturn, 1), (14, .aload_n 0, 1), (15, .getfield 72, 3), (18, .iload_n 1, 1), (19, .iaload, 1), (20, .iconst 3, 1), (21, .if_icmp .ne 21, 3), (24, .aload_n 0, 1), (25, .getfield 66, 3), (28, .iload_n 1, 1), (29, .baload, 1), (30, .ifCond .eq 12, 3), (33, .aload_n 0, 1), (34, .getfield 90, 3), (37, .iload_n 1, 1), (38, .baload, 1), (39, .ifCond .eq 9, 3), (42, .aload_n 0, 1), (43, .iconst 2, 1), (44, .invokevirtual 134, 3), (47, .ireturn, 1), (48, .aload_n 0, 1), (49, .getfield 90, 3), (52, .iload_n 1, 1), (53, .iconst 1, 1), (54, .bastore, 1), (55, .aload_n 0, 1), (56, .getfield 33, 3), (59, .aload_n 0, 1), (60, .getfield 57, 3), (63, .iload_n 1, 1), (64, .iaload, 1), (65, .dup2, 1)]
set_option maxRecDepth 100000 in
theorem tX5_claim_0 : xdec cX5_claim lX5_claim_0 = true := by decide +kernel
def lX5_claim_1 : List (Nat × Instr × Nat) := [(66, .laload, 1), (67, .ldc2_w 207, 3), (70, .lsub, 1), (71, .lastore, 1), (72, .aload_n 0, 1), (73, .getfield 78, 3), (76, .iload_n 1, 1), (77, .iaload, 1), (78, .iconst (-1), 1), (79, .if_icmp .ne 18, 3), (82, .aload_n 0, 1), (83, .iload_n 1, 1), (84, .aload_n 0, 1), (85, .getfield 75, 3), (88, .iload_n 1, 1), (89, .iaload, 1), (90, .sipush 4000, 3), (93, .invokevirtual 209, 3), (96, .ireturn, 1), (97, .aload_n 0, 1), (98, .iload_n 1, 1), (99, .aload_n 0, 1), (100, .getfield 39, 3), (103, .aload_n 0, 1), (104, .getfield 78, 3), (107, .iload_n 1, 1), (108, .iaload, 1), (109, .iaload, 1), (110, .sipush 2000, 3), (113, .invokevirtual 209, 3), (116, .aload_n 0, 1), (117, .iload_n 1, 1), (118, .aload_n 0, 1), (119, .getfield 42, 3), (122, .aload_n 0, 1), (123, .getfield 78, 3), (126, .iload_n 1, 1), (127, .iaload, 1), (128, .iaload, 1), (129, .sipush 2000, 3)]
set_option maxRecDepth 100000 in
theorem tX5_claim_1 : xdec cX5_claim lX5_claim_1 = true := by decide +kernel
def lX5_claim_2 : List (Nat × Instr × Nat) := [(132, .invokevirtual 209, 3), (135, .iadd, 1), (136, .ireturn, 1)]
set_option maxRecDepth 100000 in
theorem tX5_claim_2 : xdec cX5_claim lX5_claim_2 = true := by decide +kernel
def lX5_sample_0 : List (Nat × Instr × Nat) := [(0, .aload_n 0, 1), (1, .iconst 0, 1), (2, .putfield 112, 3), (5, .aload_n 0, 1), (6, .getfield 194, 3), (9, .istore_n 2, 1), (10, .aload_n 0, 1), (11, .iload_n 1, 1), (12, .putfield 194, 3), (15, .iload_n 2, 1), (16, .ireturn, 1)]
set_option maxRecDepth 100000 in
theorem tX5_sample_0 : xdec cX5_sample lX5_sample_0 = true := by decide +kernel
def lX5_settle_0 : List (Nat × Instr × Nat) := [(0, .aload_n 0, 1), (1, .iload_n 1, 1), (2, .iconst 1, 1), (3, .sipush 1000, 3), (6, .invokestatic 119, 3), (9, .invokevirtual 123, 3), (12, .ifCond .ne 5, 3), (15, .lconst 0, 1), (16, .lreturn, 1), (17, .lconst 0, 1), (18, .lstore_n 2, 1), (19, .iconst 0, 1), (20, .istore 4, 2), (22, .iload 4, 2), (24, .bipush 64, 2), (26, .if_icmp .ge 50, 3), (29, .aload_n 0, 1), (30, .getfield 36, 3), (33, .iload 4, 2), (35, .laload, 1), (36, .iload_n 1, 1), (37, .i2l, 1), (38, .lmul, 1), (39, .lstore 5, 2), (41, .aload_n 0, 1), (42, .iload 4, 2), (44, .bipush 8, 2), (46, .idiv, 1), (47, .iload 4, 2), (49, .bipush 8, 2), (51, .irem, 1), (52, .lload 5, 2), (54, .invokevirtual 190, 3), (57, .lload_n 2, 1), (58, .lload 5, 2), (60, .ladd, 1), (61, .lstore_n 2, 1), (62, .aload_n 0, 1), (63, .getfield 36, 3), (66, .iload 4, 2)]
set_option maxRecDepth 100000 in
theorem tX5_settle_0 : xdec cX5_settle lX5_settle_0 = true := by decide +kernel
def lX5_settle_1 : List (Nat × Instr × Nat) := [(68, .lconst 0, 1), (69, .lastore, 1), (70, .iinc 4 1, 3), (73, .goto (-51), 3), (76, .lload_n 2, 1), (77, .lreturn, 1)]
set_option maxRecDepth 100000 in
theorem tX5_settle_1 : xdec cX5_settle lX5_settle_1 = true := by decide +kernel
def lX5_rate_0 : List (Nat × Instr × Nat) := [(0, .aload_n 0, 1), (1, .aload_n 0, 1), (2, .iload_n 2, 1), (3, .invokevirtual 127, 3), (6, .invokevirtual 123, 3), (9, .ifCond .ne 5, 3), (12, .iconst 0, 1), (13, .ireturn, 1), (14, .iload_n 1, 1), (15, .invokestatic 131, 3), (18, .ifCond .eq 23, 3), (21, .iload_n 1, 1), (22, .iload_n 3, 1), (23, .invokestatic 163, 3), (26, .ifCond .eq 15, 3), (29, .aload_n 0, 1), (30, .iload_n 1, 1), (31, .iload_n 2, 1), (32, .iload_n 3, 1), (33, .iload 4, 2), (35, .invokevirtual 170, 3), (38, .goto 8, 3), (41, .aload_n 0, 1), (42, .iconst 2, 1), (43, .invokevirtual 134, 3), (46, .ireturn, 1)]
set_option maxRecDepth 100000 in
theorem tX5_rate_0 : xdec cX5_rate lX5_rate_0 = true := by decide +kernel
def lX5_ofThing_0 : List (Nat × Instr × Nat) := [(0, .aload_n 0, 1), (1, .aload_n 0, 1), (2, .iload_n 1, 1), (3, .invokevirtual 178, 3), (6, .invokevirtual 123, 3), (9, .ifCond .ne 5, 3), (12, .lconst 0, 1), (13, .lreturn, 1), (14, .iload_n 2, 1), (15, .tableswitch 102 0 6 #[41, 49, 57, 65, 73, 79, 94], 41), (56, .aload_n 0, 1), (57, .getfield 72, 3), (60, .iload_n 1, 1), (61, .iaload, 1), (62, .i2l, 1), (63, .lreturn, 1), (64, .aload_n 0, 1), (65, .getfield 75, 3), (68, .iload_n 1, 1), (69, .iaload, 1), (70, .i2l, 1), (71, .lreturn, 1), (72, .aload_n 0, 1), (73, .getfield 81, 3), (76, .iload_n 1, 1), (77, .iaload, 1), (78, .i2l, 1), (79, .lreturn, 1), (80, .aload_n 0, 1), (81, .getfield 60, 3), (84, .iload_n 1, 1), (85, .iaload, 1), (86, .i2l, 1), (87, .lreturn, 1), (88, .aload_n 0, 1), (89, .iload_n 1, 1), (90, .invokevirtual 186, 3), (93, .lreturn, 1), (94, .aload_n 0, 1), (95, .getfield 84, 3)]
set_option maxRecDepth 100000 in
theorem tX5_ofThing_0 : xdec cX5_ofThing lX5_ofThing_0 = true := by decide +kernel
def lX5_ofThing_1 : List (Nat × Instr × Nat) := [(98, .iload_n 1, 1), (99, .baload, 1), (100, .ifCond .eq 7, 3), (103, .lconst 1, 1), (104, .goto 4, 3), (107, .lconst 0, 1), (108, .lreturn, 1), (109, .aload_n 0, 1), (110, .getfield 106, 3), (113, .iload_n 1, 1), (114, .iaload, 1), (115, .i2l, 1), (116, .lreturn, 1), (117, .aload_n 0, 1), (118, .iconst 2, 1), (119, .invokevirtual 134, 3), (122, .i2l, 1), (123, .lreturn, 1)]
set_option maxRecDepth 100000 in
theorem tX5_ofThing_1 : xdec cX5_ofThing lX5_ofThing_1 = true := by decide +kernel
def lX5_hand_0 : List (Nat × Instr × Nat) := [(0, .aload_n 0, 1), (1, .aload_n 0, 1), (2, .iload_n 1, 1), (3, .invokevirtual 178, 3), (6, .ifCond .eq 21, 3), (9, .iload_n 2, 1), (10, .ifCond .lt 17, 3), (13, .iload_n 2, 1), (14, .aload_n 0, 1), (15, .getfield 106, 3), (18, .iload_n 1, 1), (19, .iaload, 1), (20, .if_icmp .ge 7, 3), (23, .iconst 1, 1), (24, .goto 4, 3), (27, .iconst 0, 1), (28, .invokevirtual 123, 3), (31, .ifCond .ne 5, 3), (34, .iconst 0, 1), (35, .ireturn, 1), (36, .aload_n 0, 1), (37, .getfield 100, 3), (40, .iload_n 1, 1), (41, .iaload, 1), (42, .istore_n 3, 1), (43, .iconst 0, 1), (44, .istore 4, 2), (46, .iload 4, 2), (48, .iload_n 2, 1), (49, .if_icmp .ge 16, 3), (52, .aload_n 0, 1), (53, .getfield 97, 3), (56, .iload_n 3, 1), (57, .iaload, 1), (58, .istore_n 3, 1), (59, .iinc 4 1, 3), (62, .goto (-16), 3), (65, .aload_n 0, 1), (66, .getfield 94, 3), (69, .iload_n 3, 1)]
set_option maxRecDepth 100000 in
theorem tX5_hand_0 : xdec cX5_hand lX5_hand_0 = true := by decide +kernel
def lX5_hand_1 : List (Nat × Instr × Nat) := [(70, .iaload, 1), (71, .ireturn, 1)]
set_option maxRecDepth 100000 in
theorem tX5_hand_1 : xdec cX5_hand lX5_hand_1 = true := by decide +kernel
def lX5_account_0 : List (Nat × Instr × Nat) := [(0, .aload_n 0, 1), (1, .aload_n 0, 1), (2, .iload_n 1, 1), (3, .invokevirtual 127, 3), (6, .invokevirtual 123, 3), (9, .ifCond .eq 12, 3), (12, .aload_n 0, 1), (13, .getfield 29, 3), (16, .iload_n 1, 1), (17, .laload, 1), (18, .goto 4, 3), (21, .lconst 0, 1), (22, .lreturn, 1)]
set_option maxRecDepth 100000 in
theorem tX5_account_0 : xdec cX5_account lX5_account_0 = true := by decide +kernel
def lX5_till_0 : List (Nat × Instr × Nat) := [(0, .aload_n 0, 1), (1, .aload_n 0, 1), (2, .iload_n 1, 1), (3, .invokevirtual 127, 3), (6, .invokevirtual 123, 3), (9, .ifCond .eq 12, 3), (12, .aload_n 0, 1), (13, .getfield 33, 3), (16, .iload_n 1, 1), (17, .laload, 1), (18, .goto 4, 3), (21, .lconst 0, 1), (22, .lreturn, 1)]
set_option maxRecDepth 100000 in
theorem tX5_till_0 : xdec cX5_till lX5_till_0 = true := by decide +kernel
def lX5_counted_0 : List (Nat × Instr × Nat) := [(0, .aload_n 0, 1), (1, .aload_n 0, 1), (2, .iload_n 1, 1), (3, .invokevirtual 127, 3), (6, .ifCond .eq 15, 3), (9, .aload_n 0, 1), (10, .iload_n 2, 1), (11, .invokevirtual 127, 3), (14, .ifCond .eq 7, 3), (17, .iconst 1, 1), (18, .goto 4, 3), (21, .iconst 0, 1), (22, .invokevirtual 123, 3), (25, .ifCond .eq 17, 3), (28, .aload_n 0, 1), (29, .getfield 36, 3), (32, .bipush 8, 2), (34, .iload_n 1, 1), (35, .imul, 1), (36, .iload_n 2, 1), (37, .iadd, 1), (38, .laload, 1), (39, .goto 4, 3), (42, .lconst 0, 1), (43, .lreturn, 1)]
set_option maxRecDepth 100000 in
theorem tX5_counted_0 : xdec cX5_counted lX5_counted_0 = true := by decide +kernel
def lX5_gain_0 : List (Nat × Instr × Nat) := [(0, .aload_n 0, 1), (1, .iload_n 1, 1), (2, .iconst 0, 1), (3, .iconst 2, 1), (4, .invokestatic 119, 3), (7, .invokevirtual 123, 3), (10, .ifCond .ne 5, 3), (13, .iconst 0, 1), (14, .ireturn, 1), (15, .aload_n 0, 1), (16, .getfield 109, 3), (19, .iconst 0, 1), (20, .iconst 0, 1), (21, .iastore, 1), (22, .iconst 0, 1), (23, .istore_n 2, 1), (24, .iload_n 2, 1), (25, .aload_n 0, 1), (26, .getfield 116, 3), (29, .if_icmp .ge 89, 3), (32, .iconst 0, 1), (33, .istore_n 3, 1), (34, .iload_n 3, 1), (35, .aload_n 0, 1), (36, .getfield 116, 3), (39, .if_icmp .ge 73, 3), (42, .aload_n 0, 1), (43, .getfield 7, 3), (46, .iconst 3, 1), (47, .iload_n 3, 1), (48, .imul, 1), (49, .iaload, 1), (50, .aload_n 0, 1), (51, .getfield 22, 3), (54, .iload_n 2, 1), (55, .iaload, 1), (56, .isub, 1), (57, .istore 4, 2), (59, .iload_n 2, 1), (60, .iload_n 3, 1)]
set_option maxRecDepth 100000 in
theorem tX5_gain_0 : xdec cX5_gain lX5_gain_0 = true := by decide +kernel
def lX5_gain_1 : List (Nat × Instr × Nat) := [(61, .if_icmp .eq 45, 3), (64, .aload_n 0, 1), (65, .getfield 22, 3), (68, .iload_n 2, 1), (69, .iaload, 1), (70, .ifCond .le 36, 3), (73, .iload 4, 2), (75, .aload_n 0, 1), (76, .getfield 109, 3), (79, .iconst 0, 1), (80, .iaload, 1), (81, .if_icmp .le 25, 3), (84, .aload_n 0, 1), (85, .getfield 109, 3), (88, .iconst 0, 1), (89, .iload 4, 2), (91, .iastore, 1), (92, .aload_n 0, 1), (93, .getfield 109, 3), (96, .iconst 1, 1), (97, .iload_n 2, 1), (98, .iastore, 1), (99, .aload_n 0, 1), (100, .getfield 109, 3), (103, .iconst 2, 1), (104, .iload_n 3, 1), (105, .iastore, 1), (106, .iinc 3 1, 3), (109, .goto (-75), 3), (112, .iinc 2 1, 3), (115, .goto (-91), 3), (118, .aload_n 0, 1), (119, .getfield 109, 3), (122, .iconst 0, 1), (123, .iaload, 1), (124, .ifCond .ne 7, 3), (127, .iconst (-1), 1), (128, .goto 9, 3), (131, .aload_n 0, 1), (132, .getfield 109, 3)]
set_option maxRecDepth 100000 in
theorem tX5_gain_1 : xdec cX5_gain lX5_gain_1 = true := by decide +kernel
def lX5_gain_2 : List (Nat × Instr × Nat) := [(135, .iload_n 1, 1), (136, .iaload, 1), (137, .ireturn, 1)]
set_option maxRecDepth 100000 in
theorem tX5_gain_2 : xdec cX5_gain lX5_gain_2 = true := by decide +kernel
def lJ9_max_7cf53_0 : List (Nat × Instr × Nat) := [(0, .iload_n 0, 1), (1, .iload_n 1, 1), (2, .if_icmp .lt 7, 3), (5, .iload_n 0, 1), (6, .goto 4, 3), (9, .iload_n 1, 1), (10, .ireturn, 1)]
set_option maxRecDepth 100000 in
theorem tJ9_max_7cf53_0 : xdec cJ9_max_7cf53 lJ9_max_7cf53_0 = true := by decide +kernel
def lJ9_min_7cf53_0 : List (Nat × Instr × Nat) := [(0, .iload_n 0, 1), (1, .iload_n 1, 1), (2, .if_icmp .gt 7, 3), (5, .iload_n 0, 1), (6, .goto 4, 3), (9, .iload_n 1, 1), (10, .ireturn, 1)]
set_option maxRecDepth 100000 in
theorem tJ9_min_7cf53_0 : xdec cJ9_min_7cf53 lJ9_min_7cf53_0 = true := by decide +kernel
def lJ7_fill_53178_0 : List (Nat × Instr × Nat) := [(0, .iconst 0, 1), (1, .istore_n 2, 1), (2, .aload_n 0, 1), (3, .arraylength, 1), (4, .istore_n 3, 1), (5, .iload_n 2, 1), (6, .iload_n 3, 1), (7, .if_icmp .ge 13, 3), (10, .aload_n 0, 1), (11, .iload_n 2, 1), (12, .iload_n 1, 1), (13, .iastore, 1), (14, .iinc 2 1, 3), (17, .goto (-12), 3), (20, .return_, 1)]
set_option maxRecDepth 100000 in
theorem tJ7_fill_53178_0 : xdec cJ7_fill_53178 lJ7_fill_53178_0 = true := by decide +kernel
def lJ7_copyOf_59c91_0 : List (Nat × Instr × Nat) := [(0, .iload_n 1, 1), (1, .aload_n 0, 1), (2, .arraylength, 1), (3, .if_icmp .ne 11, 3), (6, .aload_n 0, 1), (7, .invokevirtual 316, 3), (10, .checkcast 317, 3), (13, .areturn, 1), (14, .iload_n 1, 1), (15, .newarray .int, 2), (17, .astore_n 2, 1), (18, .aload_n 0, 1), (19, .iconst 0, 1), (20, .aload_n 2, 1), (21, .iconst 0, 1), (22, .aload_n 0, 1), (23, .arraylength, 1), (24, .iload_n 1, 1), (25, .invokestatic 304, 3), (28, .invokestatic 150, 3), (31, .aload_n 2, 1), (32, .areturn, 1)]
set_option maxRecDepth 100000 in
theorem tJ7_copyOf_59c91_0 : xdec cJ7_copyOf_59c91 lJ7_copyOf_59c91_0 = true := by decide +kernel
def lL_post_0 : List (Nat × Instr × Nat) := [(0, .aload_n 1, 1), (1, .iconst 0, 1), (2, .aload_n 0, 1), (3, .invokevirtual 7, 3), (6, .i2l, 1), (7, .lastore, 1), (8, .goto 6, 3), (11, .astore_n 2, 1), (12, .iconst 1, 1), (13, .ireturn, 1), (14, .iconst 0, 1), (15, .ireturn, 1)]
set_option maxRecDepth 100000 in
theorem tL_post_0 : xdec cL_post lL_post_0 = true := by decide +kernel
def lL_rates_0 : List (Nat × Instr × Nat) := [(0, .aload_n 0, 1), (1, .iload_n 1, 1), (2, .iload_n 2, 1), (3, .iload_n 3, 1), (4, .iload 4, 2), (6, .invokevirtual 15, 3), (9, .goto 11, 3), (12, .astore 5, 2), (14, .iconst 1, 1), (15, .ireturn, 1), (16, .astore 5, 2), (18, .iconst 2, 1), (19, .ireturn, 1), (20, .iconst 0, 1), (21, .ireturn, 1)]
set_option maxRecDepth 100000 in
theorem tL_rates_0 : xdec cL_rates lL_rates_0 = true := by decide +kernel
def lL_due_0 : List (Nat × Instr × Nat) := [(0, .aload 4, 2), (2, .iconst 0, 1), (3, .aload_n 0, 1), (4, .iload_n 1, 1), (5, .iload_n 2, 1), (6, .iload_n 3, 1), (7, .invokevirtual 23, 3), (10, .i2l, 1), (11, .lastore, 1), (12, .goto 11, 3), (15, .astore 5, 2), (17, .iconst 1, 1), (18, .ireturn, 1), (19, .astore 5, 2), (21, .iconst 2, 1), (22, .ireturn, 1), (23, .iconst 0, 1), (24, .ireturn, 1)]
set_option maxRecDepth 100000 in
theorem tL_due_0 : xdec cL_due lL_due_0 = true := by decide +kernel
def lL_charge_0 : List (Nat × Instr × Nat) := [(0, .aload_n 3, 1), (1, .iconst 0, 1), (2, .aload_n 0, 1), (3, .iload_n 1, 1), (4, .iload_n 2, 1), (5, .invokevirtual 27, 3), (8, .i2l, 1), (9, .lastore, 1), (10, .goto 11, 3), (13, .astore 4, 2), (15, .iconst 1, 1), (16, .ireturn, 1), (17, .astore 4, 2), (19, .iconst 2, 1), (20, .ireturn, 1), (21, .iconst 0, 1), (22, .ireturn, 1)]
set_option maxRecDepth 100000 in
theorem tL_charge_0 : xdec cL_charge lL_charge_0 = true := by decide +kernel
def lL_coupon_0 : List (Nat × Instr × Nat) := [(0, .aload_n 3, 1), (1, .iconst 0, 1), (2, .aload_n 0, 1), (3, .iload_n 1, 1), (4, .iload_n 2, 1), (5, .invokevirtual 31, 3), (8, .i2l, 1), (9, .lastore, 1), (10, .goto 11, 3), (13, .astore 4, 2), (15, .iconst 1, 1), (16, .ireturn, 1), (17, .astore 4, 2), (19, .iconst 2, 1), (20, .ireturn, 1), (21, .iconst 0, 1), (22, .ireturn, 1)]
set_option maxRecDepth 100000 in
theorem tL_coupon_0 : xdec cL_coupon lL_coupon_0 = true := by decide +kernel
def lL_strike_0 : List (Nat × Instr × Nat) := [(0, .aload_n 3, 1), (1, .iconst 0, 1), (2, .aload_n 0, 1), (3, .iload_n 1, 1), (4, .iload_n 2, 1), (5, .invokevirtual 34, 3), (8, .ifCond .eq 7, 3), (11, .lconst 1, 1), (12, .goto 4, 3), (15, .lconst 0, 1), (16, .lastore, 1), (17, .goto 7, 3), (20, .astore 4, 2), (22, .iconst 1, 1), (23, .ireturn, 1), (24, .iconst 0, 1), (25, .ireturn, 1)]
set_option maxRecDepth 100000 in
theorem tL_strike_0 : xdec cL_strike lL_strike_0 = true := by decide +kernel
def lL_leg_0 : List (Nat × Instr × Nat) := [(0, .aload 4, 2), (2, .iconst 0, 1), (3, .aload_n 0, 1), (4, .iload_n 1, 1), (5, .iload_n 2, 1), (6, .iload_n 3, 1), (7, .invokevirtual 38, 3), (10, .i2l, 1), (11, .lastore, 1), (12, .goto 15, 3), (15, .astore 5, 2), (17, .iconst 1, 1), (18, .ireturn, 1), (19, .astore 5, 2), (21, .iconst 2, 1), (22, .ireturn, 1), (23, .astore 5, 2), (25, .iconst 3, 1), (26, .ireturn, 1), (27, .iconst 0, 1), (28, .ireturn, 1)]
set_option maxRecDepth 100000 in
theorem tL_leg_0 : xdec cL_leg lL_leg_0 = true := by decide +kernel
def lL_close_0 : List (Nat × Instr × Nat) := [(0, .aload_n 3, 1), (1, .iconst 0, 1), (2, .aload_n 0, 1), (3, .iload_n 1, 1), (4, .iload_n 2, 1), (5, .invokevirtual 41, 3), (8, .ifCond .eq 7, 3), (11, .lconst 1, 1), (12, .goto 4, 3), (15, .lconst 0, 1), (16, .lastore, 1), (17, .goto 7, 3), (20, .astore 4, 2), (22, .iconst 1, 1), (23, .ireturn, 1), (24, .iconst 0, 1), (25, .ireturn, 1)]
set_option maxRecDepth 100000 in
theorem tL_close_0 : xdec cL_close lL_close_0 = true := by decide +kernel
def lL_days_0 : List (Nat × Instr × Nat) := [(0, .aload_n 3, 1), (1, .iconst 0, 1), (2, .aload_n 0, 1), (3, .iload_n 1, 1), (4, .iload_n 2, 1), (5, .invokevirtual 44, 3), (8, .i2l, 1), (9, .lastore, 1), (10, .goto 7, 3), (13, .astore 4, 2), (15, .iconst 1, 1), (16, .ireturn, 1), (17, .iconst 0, 1), (18, .ireturn, 1)]
set_option maxRecDepth 100000 in
theorem tL_days_0 : xdec cL_days lL_days_0 = true := by decide +kernel
def lL_daysAnew_0 : List (Nat × Instr × Nat) := [(0, .aload_n 3, 1), (1, .iconst 0, 1), (2, .aload_n 0, 1), (3, .iload_n 1, 1), (4, .iload_n 2, 1), (5, .invokevirtual 47, 3), (8, .i2l, 1), (9, .lastore, 1), (10, .goto 7, 3), (13, .astore 4, 2), (15, .iconst 1, 1), (16, .ireturn, 1), (17, .iconst 0, 1), (18, .ireturn, 1)]
set_option maxRecDepth 100000 in
theorem tL_daysAnew_0 : xdec cL_daysAnew lL_daysAnew_0 = true := by decide +kernel
def lL_next_0 : List (Nat × Instr × Nat) := [(0, .aload_n 3, 1), (1, .iconst 0, 1), (2, .aload_n 0, 1), (3, .iload_n 1, 1), (4, .iload_n 2, 1), (5, .invokevirtual 50, 3), (8, .i2l, 1), (9, .lastore, 1), (10, .goto 7, 3), (13, .astore 4, 2), (15, .iconst 1, 1), (16, .ireturn, 1), (17, .iconst 0, 1), (18, .ireturn, 1)]
set_option maxRecDepth 100000 in
theorem tL_next_0 : xdec cL_next lL_next_0 = true := by decide +kernel
def lL_mail_0 : List (Nat × Instr × Nat) := [(0, .aload 7, 2), (2, .iconst 0, 1), (3, .aload_n 0, 1), (4, .iload_n 1, 1), (5, .iload_n 2, 1), (6, .iload_n 3, 1), (7, .iload 4, 2), (9, .iload 5, 2), (11, .iload 6, 2), (13, .invokevirtual 53, 3), (16, .i2l, 1), (17, .lastore, 1), (18, .goto 15, 3), (21, .astore 8, 2), (23, .iconst 1, 1), (24, .ireturn, 1), (25, .astore 8, 2), (27, .iconst 2, 1), (28, .ireturn, 1), (29, .astore 8, 2), (31, .iconst 3, 1), (32, .ireturn, 1), (33, .iconst 0, 1), (34, .ireturn, 1)]
set_option maxRecDepth 100000 in
theorem tL_mail_0 : xdec cL_mail lL_mail_0 = true := by decide +kernel
def lL_redirect_0 : List (Nat × Instr × Nat) := [(0, .aload_n 3, 1), (1, .iconst 0, 1), (2, .aload_n 0, 1), (3, .iload_n 1, 1), (4, .iload_n 2, 1), (5, .invokevirtual 57, 3), (8, .i2l, 1), (9, .lastore, 1), (10, .goto 15, 3), (13, .astore 4, 2), (15, .iconst 1, 1), (16, .ireturn, 1), (17, .astore 4, 2), (19, .iconst 2, 1), (20, .ireturn, 1), (21, .astore 4, 2), (23, .iconst 3, 1), (24, .ireturn, 1), (25, .iconst 0, 1), (26, .ireturn, 1)]
set_option maxRecDepth 100000 in
theorem tL_redirect_0 : xdec cL_redirect lL_redirect_0 = true := by decide +kernel
def lL_refuse_0 : List (Nat × Instr × Nat) := [(0, .aload_n 3, 1), (1, .iconst 0, 1), (2, .aload_n 0, 1), (3, .iload_n 1, 1), (4, .iload_n 2, 1), (5, .invokevirtual 60, 3), (8, .ifCond .eq 7, 3), (11, .lconst 1, 1), (12, .goto 4, 3), (15, .lconst 0, 1), (16, .lastore, 1), (17, .goto 11, 3), (20, .astore 4, 2), (22, .iconst 1, 1), (23, .ireturn, 1), (24, .astore 4, 2), (26, .iconst 2, 1), (27, .ireturn, 1), (28, .iconst 0, 1), (29, .ireturn, 1)]
set_option maxRecDepth 100000 in
theorem tL_refuse_0 : xdec cL_refuse lL_refuse_0 = true := by decide +kernel
def lL_go_0 : List (Nat × Instr × Nat) := [(0, .aload_n 2, 1), (1, .iconst 0, 1), (2, .aload_n 0, 1), (3, .iload_n 1, 1), (4, .invokevirtual 63, 3), (7, .i2l, 1), (8, .lastore, 1), (9, .goto 6, 3), (12, .astore_n 3, 1), (13, .iconst 1, 1), (14, .ireturn, 1), (15, .iconst 0, 1), (16, .ireturn, 1)]
set_option maxRecDepth 100000 in
theorem tL_go_0 : xdec cL_go lL_go_0 = true := by decide +kernel
def lL_lose_0 : List (Nat × Instr × Nat) := [(0, .aload_n 2, 1), (1, .iconst 0, 1), (2, .aload_n 0, 1), (3, .iload_n 1, 1), (4, .invokevirtual 67, 3), (7, .i2l, 1), (8, .lastore, 1), (9, .goto 9, 3), (12, .astore_n 3, 1), (13, .iconst 1, 1), (14, .ireturn, 1), (15, .astore_n 3, 1), (16, .iconst 2, 1), (17, .ireturn, 1), (18, .iconst 0, 1), (19, .ireturn, 1)]
set_option maxRecDepth 100000 in
theorem tL_lose_0 : xdec cL_lose lL_lose_0 = true := by decide +kernel
def lL_claim_0 : List (Nat × Instr × Nat) := [(0, .aload_n 2, 1), (1, .iconst 0, 1), (2, .aload_n 0, 1), (3, .iload_n 1, 1), (4, .invokevirtual 70, 3), (7, .i2l, 1), (8, .lastore, 1), (9, .goto 9, 3), (12, .astore_n 3, 1), (13, .iconst 1, 1), (14, .ireturn, 1), (15, .astore_n 3, 1), (16, .iconst 2, 1), (17, .ireturn, 1), (18, .iconst 0, 1), (19, .ireturn, 1)]
set_option maxRecDepth 100000 in
theorem tL_claim_0 : xdec cL_claim lL_claim_0 = true := by decide +kernel
def lL_settle_0 : List (Nat × Instr × Nat) := [(0, .aload_n 2, 1), (1, .iconst 0, 1), (2, .aload_n 0, 1), (3, .iload_n 1, 1), (4, .invokevirtual 73, 3), (7, .lastore, 1), (8, .goto 6, 3), (11, .astore_n 3, 1), (12, .iconst 1, 1), (13, .ireturn, 1), (14, .iconst 0, 1), (15, .ireturn, 1)]
set_option maxRecDepth 100000 in
theorem tL_settle_0 : xdec cL_settle lL_settle_0 = true := by decide +kernel
def lL_rate_0 : List (Nat × Instr × Nat) := [(0, .aload 5, 2), (2, .iconst 0, 1), (3, .aload_n 0, 1), (4, .iload_n 1, 1), (5, .iload_n 2, 1), (6, .iload_n 3, 1), (7, .iload 4, 2), (9, .invokevirtual 77, 3), (12, .i2l, 1), (13, .lastore, 1), (14, .goto 11, 3), (17, .astore 6, 2), (19, .iconst 1, 1), (20, .ireturn, 1), (21, .astore 6, 2), (23, .iconst 2, 1), (24, .ireturn, 1), (25, .iconst 0, 1), (26, .ireturn, 1)]
set_option maxRecDepth 100000 in
theorem tL_rate_0 : xdec cL_rate lL_rate_0 = true := by decide +kernel
def lL_ofThing_0 : List (Nat × Instr × Nat) := [(0, .aload_n 3, 1), (1, .iconst 0, 1), (2, .aload_n 0, 1), (3, .iload_n 1, 1), (4, .iload_n 2, 1), (5, .invokevirtual 81, 3), (8, .lastore, 1), (9, .goto 11, 3), (12, .astore 4, 2), (14, .iconst 1, 1), (15, .ireturn, 1), (16, .astore 4, 2), (18, .iconst 2, 1), (19, .ireturn, 1), (20, .iconst 0, 1), (21, .ireturn, 1)]
set_option maxRecDepth 100000 in
theorem tL_ofThing_0 : xdec cL_ofThing lL_ofThing_0 = true := by decide +kernel
def lL_hand_0 : List (Nat × Instr × Nat) := [(0, .aload_n 3, 1), (1, .iconst 0, 1), (2, .aload_n 0, 1), (3, .iload_n 1, 1), (4, .iload_n 2, 1), (5, .invokevirtual 85, 3), (8, .i2l, 1), (9, .lastore, 1), (10, .goto 7, 3), (13, .astore 4, 2), (15, .iconst 1, 1), (16, .ireturn, 1), (17, .iconst 0, 1), (18, .ireturn, 1)]
set_option maxRecDepth 100000 in
theorem tL_hand_0 : xdec cL_hand lL_hand_0 = true := by decide +kernel
def lL_account_0 : List (Nat × Instr × Nat) := [(0, .aload_n 2, 1), (1, .iconst 0, 1), (2, .aload_n 0, 1), (3, .iload_n 1, 1), (4, .invokevirtual 88, 3), (7, .lastore, 1), (8, .goto 6, 3), (11, .astore_n 3, 1), (12, .iconst 1, 1), (13, .ireturn, 1), (14, .iconst 0, 1), (15, .ireturn, 1)]
set_option maxRecDepth 100000 in
theorem tL_account_0 : xdec cL_account lL_account_0 = true := by decide +kernel
def lL_till_0 : List (Nat × Instr × Nat) := [(0, .aload_n 2, 1), (1, .iconst 0, 1), (2, .aload_n 0, 1), (3, .iload_n 1, 1), (4, .invokevirtual 91, 3), (7, .lastore, 1), (8, .goto 6, 3), (11, .astore_n 3, 1), (12, .iconst 1, 1), (13, .ireturn, 1), (14, .iconst 0, 1), (15, .ireturn, 1)]
set_option maxRecDepth 100000 in
theorem tL_till_0 : xdec cL_till lL_till_0 = true := by decide +kernel
def lL_counted_0 : List (Nat × Instr × Nat) := [(0, .aload_n 3, 1), (1, .iconst 0, 1), (2, .aload_n 0, 1), (3, .iload_n 1, 1), (4, .iload_n 2, 1), (5, .invokevirtual 94, 3), (8, .lastore, 1), (9, .goto 7, 3), (12, .astore 4, 2), (14, .iconst 1, 1), (15, .ireturn, 1), (16, .iconst 0, 1), (17, .ireturn, 1)]
set_option maxRecDepth 100000 in
theorem tL_counted_0 : xdec cL_counted lL_counted_0 = true := by decide +kernel
def lL_gain_0 : List (Nat × Instr × Nat) := [(0, .aload_n 2, 1), (1, .iconst 0, 1), (2, .aload_n 0, 1), (3, .iload_n 1, 1), (4, .invokevirtual 97, 3), (7, .i2l, 1), (8, .lastore, 1), (9, .goto 6, 3), (12, .astore_n 3, 1), (13, .iconst 1, 1), (14, .ireturn, 1), (15, .iconst 0, 1), (16, .ireturn, 1)]
set_option maxRecDepth 100000 in
theorem tL_gain_0 : xdec cL_gain lL_gain_0 = true := by decide +kernel
end
section
/-! the world by keys: a heap that is told by logical keys (a kind, an index), not by addresses; the judgement V over it; rows of V out of the kit's rows of W -/
abbrev xK : Type := Nat × Nat
abbrev xZ : Type := va_G × (Nat → ClassId)
abbrev xE : Type := (ClassId × vp_A) ⊕ (Nat × (Nat → Value))
def xTy (Z : xZ) : List (ClassId × FieldType) := [(Z.2 0, .int), (Z.2 1, .long), (Z.2 2, .boolean), (Z.2 3, .object "Postunion$Post"), (Z.2 4, .object "Postunion$Thing"), (Z.2 5, .object "Postunion$Leg")]
def x_at (Z : xZ) (a : Nat) (e : xE) (H : Heap) : Prop := match e with
  | .inl y => H[a]? = some (vp_cell y.1 y.2)
  | .inr o => ∃ r : vw_C, vwCl[o.1]? = some r ∧ t_OB a (Z.1.1 o.1) r.2.2 (Z.1.2 o.1) H o.2
def xP (Z : xZ) (B0 : Nat) (lay : xK → Nat) (C : xK → Option xE) (H : Heap) : Prop :=
  (∀ k e, C k = some e → x_at Z (lay k) e H) ∧ (∀ k k', C k ≠ none → C k' ≠ none → lay k = lay k' → k = k') ∧ (∀ k, C k ≠ none → B0 ≤ lay k)
theorem x_at.kept {Z : xZ} {a : Nat} {e : xE} {H H1 : Heap} (h : x_at Z a e H) (hq : H1[a]? = H[a]?) : x_at Z a e H1 := by
  cases e with
  | inl x => exact hq.trans h
  | inr o =>
    obtain ⟨r, h1, h2⟩ := h
    exact ⟨r, h1, h2.kept hq⟩
theorem x_at.lt {Z : xZ} {a : Nat} {e : xE} {H : Heap} (h : x_at Z a e H) : a < H.size := by
  cases e with
  | inl x => exact (Array.getElem?_eq_some_iff.mp h).1
  | inr o =>
    obtain ⟨r, h1, cell, h2, -⟩ := h
    exact (Array.getElem?_eq_some_iff.mp h2).1
/-- one key more, or changed -/
def xup (C : xK → Option xE) (k : xK) (e : xE) : xK → Option xE := fun j => if j = k then some e else C j
def xlay (lay : xK → Nat) (k : xK) (a : Nat) : xK → Nat := fun j => if j = k then a else lay j
theorem xP.put {Z : xZ} {B0 : Nat} {lay : xK → Nat} {C C' : xK → Option xE} {H H1 : Heap} {k : xK} {e0 e : xE} (h : xP Z B0 lay C H) (hk : C k = some e0) (he : x_at Z (lay k) e H1) (oq : ∀ q : Nat, q ≠ lay k → H1[q]? = H[q]?) (hC : ∀ j, C' j = xup C k e j) : xP Z B0 lay C' H1 := by
  have hn : ∀ j, C' j ≠ none → C j ≠ none := by
    intro j hj
    rw [hC j, xup] at hj
    split at hj
    · next q => rw [q, hk]; exact fun z => by cases z
    · exact hj
  refine ⟨fun j e1 hj => ?_, fun j j' h1 h2 => h.2.1 j j' (hn j h1) (hn j' h2), fun j h1 => h.2.2 j (hn j h1)⟩
  rw [hC j, xup] at hj
  split at hj
  · next q => cases hj; rw [q]; exact he
  · next q =>
    refine (h.1 j e1 hj).kept (oq _ fun z => q ?_)
    exact h.2.1 j k (by rw [hj]; exact fun z => by cases z) (by rw [hk]; exact fun z => by cases z) z
theorem xP.new {Z : xZ} {B0 : Nat} {lay lay' : xK → Nat} {C C' : xK → Option xE} {H H1 : Heap} {k : xK} {e : xE} (h : xP Z B0 lay C H) (hk : C k = none) (hB : B0 ≤ H.size) (he : x_at Z H.size e H1) (oq : ∀ q : Nat, q < H.size → H1[q]? = H[q]?) (hC : ∀ j, C' j = xup C k e j) (hl : ∀ j, C' j ≠ none → lay' j = xlay lay k H.size j) : xP Z B0 lay' C' H1 := by
  have key : ∀ j, C' j ≠ none → (j = k ∧ lay' j = H.size) ∨ (C j ≠ none ∧ j ≠ k ∧ lay' j = lay j ∧ lay j < H.size) := by
    intro j hj
    have hl' := hl j hj
    rw [hC j, xup] at hj
    rw [xlay] at hl'
    split at hj
    · next q => rw [if_pos q] at hl'; exact Or.inl ⟨q, hl'⟩
    · next q =>
      rw [if_neg q] at hl'
      cases hc : C j with
      | none => exact absurd hc hj
      | some e1 => exact Or.inr ⟨by simp, q, hl', (h.1 j e1 hc).lt⟩
  refine ⟨fun j e1 hj => ?_, fun j j' h1 h2 h3 => ?_, fun j h1 => ?_⟩
  · rcases key j (by rw [hj]; exact fun z => by cases z) with ⟨q1, q2⟩ | ⟨q1, q2, q3, q4⟩
    · rw [q2]
      rw [hC j, xup, if_pos q1] at hj
      cases hj
      exact he
    · rw [q3]
      rw [hC j, xup, if_neg q2] at hj
      exact (h.1 j e1 hj).kept (oq _ q4)
  · rcases key j h1 with ⟨q1, q2⟩ | ⟨q1, q2, q3, q4⟩ <;> rcases key j' h2 with ⟨r1, r2⟩ | ⟨r1, r2, r3, r4⟩
    · rw [q1, r1]
    · omega
    · omega
    · exact h.2.1 j j' q1 r1 (by omega)
  · rcases key j h1 with ⟨q1, q2⟩ | ⟨q1, q2, q3, q4⟩
    · omega
    · rw [q3]; exact h.2.2 j q1
theorem xP.congr {Z : xZ} {B0 : Nat} {lay lay' : xK → Nat} {C C' : xK → Option xE} {H : Heap} (h : xP Z B0 lay C H) (hC : ∀ j, C' j = none ∨ C' j = C j) (hl : ∀ j, C' j ≠ none → lay' j = lay j) : xP Z B0 lay' C' H := by
  have hn : ∀ j, C' j ≠ none → C j ≠ none := by
    intro j hj
    rcases hC j with q | q
    · exact absurd q hj
    · rw [← q]; exact hj
  refine ⟨fun j e hj => ?_, fun j j' h1 h2 h3 => h.2.1 j j' (hn j h1) (hn j' h2) (by rw [← hl j h1, ← hl j' h2]; exact h3), fun j h1 => by rw [hl j h1]; exact h.2.2 j (hn j h1)⟩
  have hj' : C' j ≠ none := by rw [hj]; exact fun z => by cases z
  rw [hl j hj']
  rcases hC j with q | q
  · exact absurd q hj'
  · exact h.1 j e (by rw [← q]; exact hj)
/-- the words that all methods need -/
def BG : List Cond := lw_tbl.filter goodWord
theorem BG_in {w : Cond} (n : Nat) (h : lw_tbl[n]? = some w) (g : goodWord w = true) : w ∈ BG := List.mem_filter.mpr ⟨List.mem_of_getElem? h, g⟩
theorem BG_good {y : MethodName} {cc : ByteArray} {nL : Nat} {ret : Option FieldType} (h : Cond.code y cc nL ret ∈ BG) : GoodIn BG (.code y cc nL ret :: BG) := by
  intro w hw
  rcases List.mem_cons.mp hw with rfl | hw
  · exact ⟨h, good_of_word (List.mem_filter.mp h).2⟩
  · exact ⟨hw, good_of_word (List.mem_filter.mp hw).2⟩
def xNest : Cond := .methodLinkNest "Postunion$Post" 46 yX4_begunParts "Postunion"
def xKn (Z : xZ) (U : State) : Prop := va_K Z.1 vwCl (xTy Z) U ∧ va_Nw xNest U
theorem xKn.warm {Z : xZ} {s U : State} (hW : s.WarmedH U.vm) (h : xKn Z s) : xKn Z U := ⟨va_K.moved hW.alike h.1, va_Nw.warmM hW h.2⟩
theorem xKn.calling {Z : xZ} {U : State} {g : JFrame} {mk : MethodId} {a : Array Value} (h : xKn Z U) : xKn Z (U.calling g mk a) := ⟨va_K.moved (u := U) (U := U.calling g mk a) (Vm.Alike.refl U.vm) h.1, va_Nw.same (u := U) (U := U.calling g mk a) rfl rfl h.2⟩
def yP (Z : xZ) (B0 : Nat) (av : List Value) (lay : xK → Nat) (C : xK → Option xE) : Array Value → State → Prop := fun v U => v = av.toArray ∧ xP Z B0 lay C U.heap ∧ xKn Z U ∧ B0 ≤ U.heap.size
def yQ (Z : xZ) (B0 : Nat) (post : Option Value → (xK → Nat) → (xK → Option xE) → Prop) : Array Value → State → Outcome → State → Prop := fun _ st oc t => (∃ (v : Option Value) (lay : xK → Nat) (C : xK → Option xE), oc = .returned v ∧ post v lay C ∧ xP Z B0 lay C t.heap) ∧ va_F (fun q => B0 ≤ q) st t
theorem yP.blind {Z : xZ} {B0 : Nat} {av : List Value} {lay : xK → Nat} {C : xK → Option xE} : FrameBlind (yP Z B0 av lay C) := fun _ _ _ _ h => ⟨h.1, h.2.1, h.2.2.1.calling, h.2.2.2⟩
/-- a method's contract that returns -/
def YM (l : Launch) (y : MethodName) (cc : ByteArray) (nL : Nat) (ret : Option FieldType) (fr lo ce sl : Nat) (Z : xZ) (B0 : Nat) (av : List Value) (lay : xK → Nat) (C : xK → Option xE) (post : Option Value → (xK → Nat) → (xK → Option xE) → Prop) : Prop :=
  Met l y (.code y cc nL ret :: BG) { frames := fr, cells := ce, slots := sl, locals := lo } (yP Z B0 av lay C) (yQ Z B0 post) ce sl (fun q => B0 ≤ q)
/-- the machine at a method: what does not change in it -/
def Cx (p : Program) (m : MethodId) (meth : Method) (c : Code) (cc : ByteArray) (nL : Nat) (s : State) (args : Array Value) (own : String) (Z : xZ) (B0 : Nat) : Prop :=
  (p.tables.exec = Jvm.exec ∧ c.code = cc ∧ c.maxLocals = nL ∧ s.vm.findClass own = some m.cls ∧ ∀ w ∈ BG, w.before args s = true) ∧ xKn Z s ∧ B0 ≤ s.heap.size ∧ meth.locks = false
/-- the locals by their places -/
def xl : List (Option Value) → Nat → List (Nat × Value)
  | [], _ => []
  | none :: r, i => xl r (i + 1)
  | some v :: r, i => (i, v) :: xl r (i + 1)
theorem xl_mem : ∀ (l : List (Option Value)) (n j : Nat) (v : Value), (j, v) ∈ xl l n ↔ ∃ i, j = n + i ∧ l[i]? = some (some v)
  | [], n, j, v => by simp [xl]
  | none :: r, n, j, v => by
    rw [xl, xl_mem r (n + 1) j v]
    constructor
    · rintro ⟨i, h1, h2⟩
      exact ⟨i + 1, by omega, by simpa using h2⟩
    · rintro ⟨i, h1, h2⟩
      cases i with
      | zero => simp at h2
      | succ i => exact ⟨i, by omega, by simpa using h2⟩
  | some w :: r, n, j, v => by
    rw [xl, List.mem_cons, xl_mem r (n + 1) j v]
    constructor
    · rintro (h | ⟨i, h1, h2⟩)
      · cases h; exact ⟨0, by omega, by simp⟩
      · exact ⟨i + 1, by omega, by simpa using h2⟩
    · rintro ⟨i, h1, h2⟩
      cases i with
      | zero => simp at h2; left; rw [h2, h1]; simp
      | succ i => right; exact ⟨i, by omega, by simpa using h2⟩
def xcl (a : Option Value) : Option Value := match a with
  | some w => if w.category = 2 then none else a
  | none => none
theorem xcl_some {a : Option Value} {w : Value} (h : xcl a = some w) : a = some w ∧ ¬ w.category = 2 := by
  cases a with
  | none => simp [xcl] at h
  | some z =>
    rw [xcl] at h
    split at h
    · cases h
    · next q => cases h; exact ⟨rfl, q⟩
def xs1 : List (Option Value) → Nat → Value → List (Option Value)
  | [], _, _ => []
  | _ :: r, 0, v => some v :: r
  | a :: r, 1, v => xcl a :: xs1 r 0 v
  | a :: r, i + 2, v => a :: xs1 r (i + 1) v
theorem xs1_at : ∀ (l : List (Option Value)) (i : Nat) (v : Value) (j : Nat) (z : Value), (xs1 l i v)[j]? = some (some z) → (j = i ∧ z = v) ∨ (j ≠ i ∧ ¬ (j + 1 = i ∧ z.category = 2) ∧ l[j]? = some (some z))
  | [], i, v, j, z, h => by simp [xs1] at h
  | a :: r, 0, v, j, z, h => by
    rw [xs1] at h
    cases j with
    | zero => simp at h; exact Or.inl ⟨rfl, h.symm⟩
    | succ j => exact Or.inr ⟨by omega, by omega, by simpa using h⟩
  | a :: r, 1, v, j, z, h => by
    rw [xs1] at h
    cases j with
    | zero =>
      simp at h
      obtain ⟨h1, h2⟩ := xcl_some h
      exact Or.inr ⟨by omega, fun q => h2 q.2, by simp [h1]⟩
    | succ j =>
      have h' : (xs1 r 0 v)[j]? = some (some z) := by simpa using h
      rcases xs1_at r 0 v j z h' with ⟨q1, q2⟩ | ⟨q1, q2, q3⟩
      · exact Or.inl ⟨by omega, q2⟩
      · exact Or.inr ⟨by omega, by omega, by simpa using q3⟩
  | a :: r, i + 2, v, j, z, h => by
    rw [xs1] at h
    cases j with
    | zero => exact Or.inr ⟨by omega, by omega, by simpa using h⟩
    | succ j =>
      have h' : (xs1 r (i + 1) v)[j]? = some (some z) := by simpa using h
      rcases xs1_at r (i + 1) v j z h' with ⟨q1, q2⟩ | ⟨q1, q2, q3⟩
      · exact Or.inl ⟨by omega, q2⟩
      · exact Or.inr ⟨by omega, fun q => q2 ⟨by omega, q.2⟩, by simpa using q3⟩
def xs2 : List (Option Value) → Nat → Value → List (Option Value)
  | [], _, _ => []
  | [_], 0, v => [some v]
  | _ :: _ :: r, 0, v => some v :: none :: r
  | a :: r, 1, v => xcl a :: xs2 r 0 v
  | a :: r, i + 2, v => a :: xs2 r (i + 1) v
theorem xs2_at : ∀ (l : List (Option Value)) (i : Nat) (v : Value) (j : Nat) (z : Value), (xs2 l i v)[j]? = some (some z) → (j = i ∧ z = v) ∨ (j ≠ i ∧ j ≠ i + 1 ∧ ¬ (j + 1 = i ∧ z.category = 2) ∧ l[j]? = some (some z))
  | [], i, v, j, z, h => by simp [xs2] at h
  | [a], 0, v, j, z, h => by
    rw [xs2] at h
    cases j with
    | zero => simp at h; exact Or.inl ⟨rfl, h.symm⟩
    | succ j => simp at h
  | a :: b :: r, 0, v, j, z, h => by
    rw [xs2] at h
    match j, h with
    | 0, h => simp at h; exact Or.inl ⟨rfl, h.symm⟩
    | 1, h => simp at h
    | j + 2, h => exact Or.inr ⟨by omega, by omega, by omega, by simpa using h⟩
  | a :: r, 1, v, j, z, h => by
    rw [xs2] at h
    cases j with
    | zero =>
      simp at h
      obtain ⟨h1, h2⟩ := xcl_some h
      exact Or.inr ⟨by omega, by omega, fun q => h2 q.2, by simp [h1]⟩
    | succ j =>
      have h' : (xs2 r 0 v)[j]? = some (some z) := by simpa using h
      rcases xs2_at r 0 v j z h' with ⟨q1, q2⟩ | ⟨q1, q2, q3, q4⟩
      · exact Or.inl ⟨by omega, q2⟩
      · exact Or.inr ⟨by omega, by omega, by omega, by simpa using q4⟩
  | a :: r, i + 2, v, j, z, h => by
    rw [xs2] at h
    cases j with
    | zero => exact Or.inr ⟨by omega, by omega, by omega, by simpa using h⟩
    | succ j =>
      have h' : (xs2 r (i + 1) v)[j]? = some (some z) := by simpa using h
      rcases xs2_at r (i + 1) v j z h' with ⟨q1, q2⟩ | ⟨q1, q2, q3, q4⟩
      · exact Or.inl ⟨by omega, q2⟩
      · exact Or.inr ⟨by omega, by omega, fun q => q3 ⟨by omega, q.2⟩, by simpa using q4⟩
theorem xl_at {ls : Array Slot} {nL : Nat} {lv : List (Option Value)} (h : lv_has ls nL (xl lv 0)) {i : Nat} {v : Value} (hi : lv[i]? = some (some v)) : ls[i]? = some (.val v) := h.2.2 (i, v) ((xl_mem lv 0 i v).mpr ⟨i, by omega, hi⟩)
theorem xl_s1 {ls : Array Slot} {nL i : Nat} {v : Value} {lv lv' : List (Option Value)} (h : lv_has ls nL ((i, v) :: (xl lv 0).filter (fun q => !(q.1 == i) && !(q.1 + 1 == i && q.2.category == 2)))) (e : xs1 lv i v = lv') : lv_has ls nL (xl lv' 0) := by
  refine ⟨h.1, h.2.1, fun q hq => h.2.2 q ?_⟩
  obtain ⟨j, z⟩ := q
  rw [xl_mem] at hq
  obtain ⟨j', q1, q2⟩ := hq
  have q1 : j = j' := by omega
  subst q1
  rw [← e] at q2
  rcases xs1_at lv i v j z q2 with ⟨r1, r2⟩ | ⟨r1, r2, r3⟩
  · rw [r1, r2]; exact List.mem_cons_self
  · refine List.mem_cons_of_mem _ (List.mem_filter.mpr ⟨(xl_mem lv 0 j z).mpr ⟨j, by omega, r3⟩, ?_⟩)
    simp only [Bool.and_eq_true, Bool.not_eq_true', beq_eq_false_iff_ne, Bool.and_eq_false_imp, beq_iff_eq]
    exact ⟨r1, fun z1 z2 => r2 ⟨z1, z2⟩⟩
theorem xl_s2 {ls : Array Slot} {nL i : Nat} {v : Value} {lv lv' : List (Option Value)} (h : lv_has ls nL ((i, v) :: (xl lv 0).filter (fun q => !(q.1 == i) && (!(q.1 == i + 1) && !(q.1 + 1 == i && q.2.category == 2))))) (e : xs2 lv i v = lv') : lv_has ls nL (xl lv' 0) := by
  refine ⟨h.1, h.2.1, fun q hq => h.2.2 q ?_⟩
  obtain ⟨j, z⟩ := q
  rw [xl_mem] at hq
  obtain ⟨j', q1, q2⟩ := hq
  have q1 : j = j' := by omega
  subst q1
  rw [← e] at q2
  rcases xs2_at lv i v j z q2 with ⟨r1, r2⟩ | ⟨r1, r0, r2, r3⟩
  · rw [r1, r2]; exact List.mem_cons_self
  · refine List.mem_cons_of_mem _ (List.mem_filter.mpr ⟨(xl_mem lv 0 j z).mpr ⟨j, by omega, r3⟩, ?_⟩)
    simp only [Bool.and_eq_true, Bool.not_eq_true', beq_eq_false_iff_ne, Bool.and_eq_false_imp, beq_iff_eq]
    exact ⟨r1, r0, fun z1 z2 => r2 ⟨z1, z2⟩⟩
/-- fewer known locals -/
def xle : List (Option Value) → List (Option Value) → Prop
  | [], _ => True
  | none :: r, _ :: r' => xle r r'
  | some v :: r, some w :: r' => v = w ∧ xle r r'
  | _, _ => False
theorem xle_at : ∀ (a b : List (Option Value)), xle a b → ∀ (j : Nat) (z : Value), a[j]? = some (some z) → b[j]? = some (some z)
  | [], b, _, j, z, h => by simp at h
  | none :: r, _ :: r', hx, j, z, h => by
    cases j with
    | zero => simp at h
    | succ j => simpa using xle_at r r' hx j z (by simpa using h)
  | some v :: r, some w :: r', hx, j, z, h => by
    obtain ⟨h1, h2⟩ := hx
    cases j with
    | zero => subst h1; simpa using h
    | succ j => simpa using xle_at r r' h2 j z (by simpa using h)
  | none :: r, [], hx, j, z, h => by simp [xle] at hx
  | some v :: r, [], hx, j, z, h => by simp [xle] at hx
  | some v :: r, none :: r', hx, j, z, h => by simp [xle] at hx
theorem xl_le {ls : Array Slot} {nL : Nat} {lv lv' : List (Option Value)} (h : lv_has ls nL (xl lv 0)) (e : xle lv' lv) : lv_has ls nL (xl lv' 0) := by
  refine ⟨h.1, h.2.1, fun q hq => h.2.2 q ?_⟩
  obtain ⟨j, z⟩ := q
  rw [xl_mem] at hq ⊢
  obtain ⟨j', q1, q2⟩ := hq
  exact ⟨j', q1, xle_at lv' lv e j' z q2⟩
/-- the judgement: the machine at pc, with locals lv, stack st, the world C laid by lay, comes to Q -/
def V (p : Program) (l : Launch) (e : Env) (R : Room) (s : State) (m : MethodId) (args : Array Value) (below : List Frame) (meth : Method) (c : Code) (Q : State → Prop) (Z : xZ) (B0 nL : Nat) (lay : xK → Nat) (C : xK → Option xE) (cells slots pc : Nat) (lv : List (Option Value)) (st : List Value) : Prop :=
  ∀ (ls : Array Slot) (H : Heap) (locs : List Loc), lv_has ls nL (xl lv 0) → xP Z B0 lay C H → va_S (fun q => B0 ≤ q) s.heap H locs → W p l e R s m args below meth c H locs cells slots Q (F0 m pc ls st)
section XV
variable {p : Program} {l : Launch} {e : Env} {R : Room} {s : State} {m : MethodId} {args : Array Value} {below : List Frame} {meth : Method} {c : Code} {Q : State → Prop} {Z : xZ} {B0 nL : Nat} {lay : xK → Nat} {C : xK → Option xE} {cells slots pc : Nat} {lv : List (Option Value)} {rest : List Value} {cc : ByteArray} {own : String}
theorem v_iconst (X : Cx p m meth c cc nL s args own Z B0) {n : Int} {v : Int32} (hdg : decode cc pc = .ok (.iconst n, 1)) (hv : Int32.ofInt n = v) (k : V p l e R s m args below meth c Q Z B0 nL lay C cells slots (pc + 1) lv (.int v :: rest)) : V p l e R s m args below meth c Q Z B0 nL lay C cells slots pc lv (rest) := fun ls H locs hl hP hS => lv_iconst X.1.1 X.1.2.1 hdg hv (k ls H locs hl hP hS)
theorem v_bipush (X : Cx p m meth c cc nL s args own Z B0) {n : Int} {v : Int32} (hdg : decode cc pc = .ok (.bipush n, 2)) (hv : (Int8.ofInt n).toInt32 = v) (k : V p l e R s m args below meth c Q Z B0 nL lay C cells slots (pc + 2) lv (.int v :: rest)) : V p l e R s m args below meth c Q Z B0 nL lay C cells slots pc lv (rest) := fun ls H locs hl hP hS => lv_bipush X.1.1 X.1.2.1 hdg hv (k ls H locs hl hP hS)
theorem v_sipush (X : Cx p m meth c cc nL s args own Z B0) {n : Int} {v : Int32} (hdg : decode cc pc = .ok (.sipush n, 3)) (hv : (Int16.ofInt n).toInt32 = v) (k : V p l e R s m args below meth c Q Z B0 nL lay C cells slots (pc + 3) lv (.int v :: rest)) : V p l e R s m args below meth c Q Z B0 nL lay C cells slots pc lv (rest) := fun ls H locs hl hP hS => lv_sipush X.1.1 X.1.2.1 hdg hv (k ls H locs hl hP hS)
theorem v_lconst (X : Cx p m meth c cc nL s args own Z B0) {n : Fin 2} {v : Int64} (hdg : decode cc pc = .ok (.lconst n, 1)) (hv : Int64.ofNat (n : Nat) = v) (k : V p l e R s m args below meth c Q Z B0 nL lay C cells slots (pc + 1) lv (.long v :: rest)) : V p l e R s m args below meth c Q Z B0 nL lay C cells slots pc lv (rest) := fun ls H locs hl hP hS => lv_lconst X.1.1 X.1.2.1 hdg hv (k ls H locs hl hP hS)
theorem v_null (X : Cx p m meth c cc nL s args own Z B0) (hdg : decode cc pc = .ok (.aconst_null, 1)) (k : V p l e R s m args below meth c Q Z B0 nL lay C cells slots (pc + 1) lv (.null :: rest)) : V p l e R s m args below meth c Q Z B0 nL lay C cells slots pc lv (rest) := fun ls H locs hl hP hS => lv_null X.1.1 X.1.2.1 hdg (k ls H locs hl hP hS)
theorem v_iload_n (X : Cx p m meth c cc nL s args own Z B0) {k : Fin 4} {i : Nat} {x : Int32} (hdg : decode cc pc = .ok (.iload_n k, 1)) (hi : (k : Nat) = i) (hl0 : lv[i]? = some (some (.int x))) (k : V p l e R s m args below meth c Q Z B0 nL lay C cells slots (pc + 1) lv (.int x :: rest)) : V p l e R s m args below meth c Q Z B0 nL lay C cells slots pc lv (rest) := fun ls H locs hl hP hS => lv_iload_n X.1.1 X.1.2.1 hdg hi (xl_at hl hl0) (k ls H locs hl hP hS)
theorem v_iload (X : Cx p m meth c cc nL s args own Z B0) {i : Nat} {x : Int32} (hdg : decode cc pc = .ok (.iload i, 2)) (hl0 : lv[i]? = some (some (.int x))) (k : V p l e R s m args below meth c Q Z B0 nL lay C cells slots (pc + 2) lv (.int x :: rest)) : V p l e R s m args below meth c Q Z B0 nL lay C cells slots pc lv (rest) := fun ls H locs hl hP hS => lv_iload X.1.1 X.1.2.1 hdg (xl_at hl hl0) (k ls H locs hl hP hS)
theorem v_istore_n (X : Cx p m meth c cc nL s args own Z B0) {k : Fin 4} {i : Nat} {x : Int32} {lv' : List (Option Value)} (hdg : decode cc pc = .ok (.istore_n k, 1)) (hi : (k : Nat) = i) (hn : i < nL) (hv : xs1 lv i (.int x) = lv') (kk : V p l e R s m args below meth c Q Z B0 nL lay C cells slots (pc + 1) lv' rest) : V p l e R s m args below meth c Q Z B0 nL lay C cells slots pc lv (.int x :: rest) := fun ls H locs hl hP hS => lv_istore_n X.1.1 X.1.2.1 hdg hi hl hn rfl (fun ls' hl' => kk ls' H locs (xl_s1 hl' hv) hP hS)
theorem v_istore (X : Cx p m meth c cc nL s args own Z B0) {i : Nat} {x : Int32} {lv' : List (Option Value)} (hdg : decode cc pc = .ok (.istore i, 2)) (hn : i < nL) (hv : xs1 lv i (.int x) = lv') (kk : V p l e R s m args below meth c Q Z B0 nL lay C cells slots (pc + 2) lv' rest) : V p l e R s m args below meth c Q Z B0 nL lay C cells slots pc lv (.int x :: rest) := fun ls H locs hl hP hS => lv_istore X.1.1 X.1.2.1 hdg hl hn rfl (fun ls' hl' => kk ls' H locs (xl_s1 hl' hv) hP hS)
theorem v_lload_n (X : Cx p m meth c cc nL s args own Z B0) {k : Fin 4} {i : Nat} {x : Int64} (hdg : decode cc pc = .ok (.lload_n k, 1)) (hi : (k : Nat) = i) (hl0 : lv[i]? = some (some (.long x))) (k : V p l e R s m args below meth c Q Z B0 nL lay C cells slots (pc + 1) lv (.long x :: rest)) : V p l e R s m args below meth c Q Z B0 nL lay C cells slots pc lv (rest) := fun ls H locs hl hP hS => lv_lload_n X.1.1 X.1.2.1 hdg hi (xl_at hl hl0) (k ls H locs hl hP hS)
theorem v_lload (X : Cx p m meth c cc nL s args own Z B0) {i : Nat} {x : Int64} (hdg : decode cc pc = .ok (.lload i, 2)) (hl0 : lv[i]? = some (some (.long x))) (k : V p l e R s m args below meth c Q Z B0 nL lay C cells slots (pc + 2) lv (.long x :: rest)) : V p l e R s m args below meth c Q Z B0 nL lay C cells slots pc lv (rest) := fun ls H locs hl hP hS => lv_lload X.1.1 X.1.2.1 hdg (xl_at hl hl0) (k ls H locs hl hP hS)
theorem v_lstore_n (X : Cx p m meth c cc nL s args own Z B0) {k : Fin 4} {i : Nat} {x : Int64} {lv' : List (Option Value)} (hdg : decode cc pc = .ok (.lstore_n k, 1)) (hi : (k : Nat) = i) (hn : i + 1 < nL) (hv : xs2 lv i (.long x) = lv') (kk : V p l e R s m args below meth c Q Z B0 nL lay C cells slots (pc + 1) lv' rest) : V p l e R s m args below meth c Q Z B0 nL lay C cells slots pc lv (.long x :: rest) := fun ls H locs hl hP hS => lv_lstore_n X.1.1 X.1.2.1 hdg hi hl hn rfl (fun ls' hl' => kk ls' H locs (xl_s2 hl' hv) hP hS)
theorem v_lstore (X : Cx p m meth c cc nL s args own Z B0) {i : Nat} {x : Int64} {lv' : List (Option Value)} (hdg : decode cc pc = .ok (.lstore i, 2)) (hn : i + 1 < nL) (hv : xs2 lv i (.long x) = lv') (kk : V p l e R s m args below meth c Q Z B0 nL lay C cells slots (pc + 2) lv' rest) : V p l e R s m args below meth c Q Z B0 nL lay C cells slots pc lv (.long x :: rest) := fun ls H locs hl hP hS => lv_lstore X.1.1 X.1.2.1 hdg hl hn rfl (fun ls' hl' => kk ls' H locs (xl_s2 hl' hv) hP hS)
theorem v_aload_n (X : Cx p m meth c cc nL s args own Z B0) {k : Fin 4} {i : Nat} {x : Nat} (hdg : decode cc pc = .ok (.aload_n k, 1)) (hi : (k : Nat) = i) (hl0 : lv[i]? = some (some (.ref x))) (k : V p l e R s m args below meth c Q Z B0 nL lay C cells slots (pc + 1) lv (.ref x :: rest)) : V p l e R s m args below meth c Q Z B0 nL lay C cells slots pc lv (rest) := fun ls H locs hl hP hS => lv_aload_n X.1.1 X.1.2.1 hdg hi (xl_at hl hl0) (k ls H locs hl hP hS)
theorem v_aload (X : Cx p m meth c cc nL s args own Z B0) {i : Nat} {x : Nat} (hdg : decode cc pc = .ok (.aload i, 2)) (hl0 : lv[i]? = some (some (.ref x))) (k : V p l e R s m args below meth c Q Z B0 nL lay C cells slots (pc + 2) lv (.ref x :: rest)) : V p l e R s m args below meth c Q Z B0 nL lay C cells slots pc lv (rest) := fun ls H locs hl hP hS => lv_aload X.1.1 X.1.2.1 hdg (xl_at hl hl0) (k ls H locs hl hP hS)
theorem v_astore_n (X : Cx p m meth c cc nL s args own Z B0) {k : Fin 4} {i : Nat} {x : Nat} {lv' : List (Option Value)} (hdg : decode cc pc = .ok (.astore_n k, 1)) (hi : (k : Nat) = i) (hn : i < nL) (hv : xs1 lv i (.ref x) = lv') (kk : V p l e R s m args below meth c Q Z B0 nL lay C cells slots (pc + 1) lv' rest) : V p l e R s m args below meth c Q Z B0 nL lay C cells slots pc lv (.ref x :: rest) := fun ls H locs hl hP hS => lv_astore_n X.1.1 X.1.2.1 hdg hi hl hn rfl (fun ls' hl' => kk ls' H locs (xl_s1 hl' hv) hP hS)
theorem v_astore (X : Cx p m meth c cc nL s args own Z B0) {i : Nat} {x : Nat} {lv' : List (Option Value)} (hdg : decode cc pc = .ok (.astore i, 2)) (hn : i < nL) (hv : xs1 lv i (.ref x) = lv') (kk : V p l e R s m args below meth c Q Z B0 nL lay C cells slots (pc + 2) lv' rest) : V p l e R s m args below meth c Q Z B0 nL lay C cells slots pc lv (.ref x :: rest) := fun ls H locs hl hP hS => lv_astore X.1.1 X.1.2.1 hdg hl hn rfl (fun ls' hl' => kk ls' H locs (xl_s1 hl' hv) hP hS)
theorem v_iinc (X : Cx p m meth c cc nL s args own Z B0) {i : Nat} {n : Int} {x v : Int32} {lv' : List (Option Value)} (hdg : decode cc pc = .ok (.iinc i n, 3)) (hl0 : lv[i]? = some (some (.int x))) (hv : x + Int32.ofInt n = v) (hn : i < nL) (hs : xs1 lv i (.int v) = lv') (kk : V p l e R s m args below meth c Q Z B0 nL lay C cells slots (pc + 3) lv' rest) : V p l e R s m args below meth c Q Z B0 nL lay C cells slots pc lv rest := fun ls H locs hl hP hS => by
  obtain ⟨k9, hk9⟩ := List.getElem?_of_mem ((xl_mem lv 0 i (.int x)).mpr ⟨i, by omega, hl0⟩)
  exact lv_iinc X.1.1 X.1.2.1 hdg hl hk9 hv hn rfl (fun ls' hl' => kk ls' H locs (xl_s1 hl' hs) hP hS)
theorem v_iadd (X : Cx p m meth c cc nL s args own Z B0) {x y : Int32} (hdg : decode cc pc = .ok (.iadd, 1)) (k : V p l e R s m args below meth c Q Z B0 nL lay C cells slots (pc + 1) lv (.int (x + y) :: rest)) : V p l e R s m args below meth c Q Z B0 nL lay C cells slots pc lv (.int y :: .int x :: rest) := fun ls H locs hl hP hS => lv_iadd X.1.1 X.1.2.1 hdg (k ls H locs hl hP hS)
theorem v_isub (X : Cx p m meth c cc nL s args own Z B0) {x y : Int32} (hdg : decode cc pc = .ok (.isub, 1)) (k : V p l e R s m args below meth c Q Z B0 nL lay C cells slots (pc + 1) lv (.int (x - y) :: rest)) : V p l e R s m args below meth c Q Z B0 nL lay C cells slots pc lv (.int y :: .int x :: rest) := fun ls H locs hl hP hS => lv_isub X.1.1 X.1.2.1 hdg (k ls H locs hl hP hS)
theorem v_imul (X : Cx p m meth c cc nL s args own Z B0) {x y : Int32} (hdg : decode cc pc = .ok (.imul, 1)) (k : V p l e R s m args below meth c Q Z B0 nL lay C cells slots (pc + 1) lv (.int (x * y) :: rest)) : V p l e R s m args below meth c Q Z B0 nL lay C cells slots pc lv (.int y :: .int x :: rest) := fun ls H locs hl hP hS => lv_imul X.1.1 X.1.2.1 hdg (k ls H locs hl hP hS)
theorem v_iand (X : Cx p m meth c cc nL s args own Z B0) {x y : Int32} (hdg : decode cc pc = .ok (.iand, 1)) (k : V p l e R s m args below meth c Q Z B0 nL lay C cells slots (pc + 1) lv (.int (x &&& y) :: rest)) : V p l e R s m args below meth c Q Z B0 nL lay C cells slots pc lv (.int y :: .int x :: rest) := fun ls H locs hl hP hS => lv_iand X.1.1 X.1.2.1 hdg (k ls H locs hl hP hS)
theorem v_ior (X : Cx p m meth c cc nL s args own Z B0) {x y : Int32} (hdg : decode cc pc = .ok (.ior, 1)) (k : V p l e R s m args below meth c Q Z B0 nL lay C cells slots (pc + 1) lv (.int (x ||| y) :: rest)) : V p l e R s m args below meth c Q Z B0 nL lay C cells slots pc lv (.int y :: .int x :: rest) := fun ls H locs hl hP hS => lv_ior X.1.1 X.1.2.1 hdg (k ls H locs hl hP hS)
theorem v_idiv (X : Cx p m meth c cc nL s args own Z B0) {x y : Int32} (hdg : decode cc pc = .ok (.idiv, 1)) (hne : ¬ y = 0) (k : V p l e R s m args below meth c Q Z B0 nL lay C cells slots (pc + 1) lv (.int (x / y) :: rest)) : V p l e R s m args below meth c Q Z B0 nL lay C cells slots pc lv (.int y :: .int x :: rest) := fun ls H locs hl hP hS => lv_idiv X.1.1 X.1.2.1 hdg hne (k ls H locs hl hP hS)
theorem v_irem (X : Cx p m meth c cc nL s args own Z B0) {x y : Int32} (hdg : decode cc pc = .ok (.irem, 1)) (hne : ¬ y = 0) (k : V p l e R s m args below meth c Q Z B0 nL lay C cells slots (pc + 1) lv (.int (x - x / y * y) :: rest)) : V p l e R s m args below meth c Q Z B0 nL lay C cells slots pc lv (.int y :: .int x :: rest) := fun ls H locs hl hP hS => lv_irem X.1.1 X.1.2.1 hdg hne (k ls H locs hl hP hS)
theorem v_ladd (X : Cx p m meth c cc nL s args own Z B0) {x y : Int64} (hdg : decode cc pc = .ok (.ladd, 1)) (k : V p l e R s m args below meth c Q Z B0 nL lay C cells slots (pc + 1) lv (.long (x + y) :: rest)) : V p l e R s m args below meth c Q Z B0 nL lay C cells slots pc lv (.long y :: .long x :: rest) := fun ls H locs hl hP hS => lv_ladd X.1.1 X.1.2.1 hdg (k ls H locs hl hP hS)
theorem v_lsub (X : Cx p m meth c cc nL s args own Z B0) {x y : Int64} (hdg : decode cc pc = .ok (.lsub, 1)) (k : V p l e R s m args below meth c Q Z B0 nL lay C cells slots (pc + 1) lv (.long (x - y) :: rest)) : V p l e R s m args below meth c Q Z B0 nL lay C cells slots pc lv (.long y :: .long x :: rest) := fun ls H locs hl hP hS => lv_lsub X.1.1 X.1.2.1 hdg (k ls H locs hl hP hS)
theorem v_lmul (X : Cx p m meth c cc nL s args own Z B0) {x y : Int64} (hdg : decode cc pc = .ok (.lmul, 1)) (k : V p l e R s m args below meth c Q Z B0 nL lay C cells slots (pc + 1) lv (.long (x * y) :: rest)) : V p l e R s m args below meth c Q Z B0 nL lay C cells slots pc lv (.long y :: .long x :: rest) := fun ls H locs hl hP hS => lv_lmul X.1.1 X.1.2.1 hdg (k ls H locs hl hP hS)
theorem v_ldiv (X : Cx p m meth c cc nL s args own Z B0) {x y : Int64} (hdg : decode cc pc = .ok (.ldiv, 1)) (hne : ¬ y = 0) (k : V p l e R s m args below meth c Q Z B0 nL lay C cells slots (pc + 1) lv (.long (x / y) :: rest)) : V p l e R s m args below meth c Q Z B0 nL lay C cells slots pc lv (.long y :: .long x :: rest) := fun ls H locs hl hP hS => lv_ldiv X.1.1 X.1.2.1 hdg hne (k ls H locs hl hP hS)
theorem v_ishl (X : Cx p m meth c cc nL s args own Z B0) {x y : Int32} (hdg : decode cc pc = .ok (.ishl, 1)) (k : V p l e R s m args below meth c Q Z B0 nL lay C cells slots (pc + 1) lv (.int (x <<< (y &&& 31)) :: rest)) : V p l e R s m args below meth c Q Z B0 nL lay C cells slots pc lv (.int y :: .int x :: rest) := fun ls H locs hl hP hS => lv_ishl X.1.1 X.1.2.1 hdg (k ls H locs hl hP hS)
theorem v_i2l (X : Cx p m meth c cc nL s args own Z B0) {x : Int32} {v : Int64} (hdg : decode cc pc = .ok (.i2l, 1)) (hv : x.toInt64 = v) (k : V p l e R s m args below meth c Q Z B0 nL lay C cells slots (pc + 1) lv (.long v :: rest)) : V p l e R s m args below meth c Q Z B0 nL lay C cells slots pc lv (.int x :: rest) := fun ls H locs hl hP hS => lv_i2l X.1.1 X.1.2.1 hdg hv (k ls H locs hl hP hS)
theorem v_lcmp (X : Cx p m meth c cc nL s args own Z B0) {x y : Int64} (hdg : decode cc pc = .ok (.lcmp, 1)) (k : V p l e R s m args below meth c Q Z B0 nL lay C cells slots (pc + 1) lv (.int (lg_cmp x y) :: rest)) : V p l e R s m args below meth c Q Z B0 nL lay C cells slots pc lv (.long y :: .long x :: rest) := fun ls H locs hl hP hS => W.lcmp X.1.1 X.1.2.1 hdg (k ls H locs hl hP hS)
theorem v_dup (X : Cx p m meth c cc nL s args own Z B0) {va : Value} (hdg : decode cc pc = .ok (.dup, 1)) (hva : va.category = 1) (k : V p l e R s m args below meth c Q Z B0 nL lay C cells slots (pc + 1) lv (va :: va :: rest)) : V p l e R s m args below meth c Q Z B0 nL lay C cells slots pc lv (va :: rest) := fun ls H locs hl hP hS => lv_dup X.1.1 X.1.2.1 hdg hva (k ls H locs hl hP hS)
theorem v_dup2_11 (X : Cx p m meth c cc nL s args own Z B0) {va vb : Value} (hdg : decode cc pc = .ok (.dup2, 1)) (hva : va.category = 1) (hvb : vb.category = 1) (k : V p l e R s m args below meth c Q Z B0 nL lay C cells slots (pc + 1) lv (va :: vb :: va :: vb :: rest)) : V p l e R s m args below meth c Q Z B0 nL lay C cells slots pc lv (va :: vb :: rest) := fun ls H locs hl hP hS => lv_dup2_11 X.1.1 X.1.2.1 hdg hva hvb (k ls H locs hl hP hS)
theorem v_goto (X : Cx p m meth c cc nL s args own Z B0) {off : Int} {tgt : Nat} (hdg : decode cc pc = .ok (.goto off, 3)) (ht : (pc : Int) + off = (tgt : Int)) (k : V p l e R s m args below meth c Q Z B0 nL lay C cells slots tgt lv rest) : V p l e R s m args below meth c Q Z B0 nL lay C cells slots pc lv rest := fun ls H locs hl hP hS => lv_goto X.1.1 X.1.2.1 hdg ht (k ls H locs hl hP hS)
theorem v_icmp_eq (X : Cx p m meth c cc nL s args own Z B0) {x y : Int32} {off : Int} {tgt : Nat} (hdg : decode cc pc = .ok (.if_icmp .eq off, 3)) (ht : (pc : Int) + off = (tgt : Int)) (kt : x = y → V p l e R s m args below meth c Q Z B0 nL lay C cells slots tgt lv rest) (kf : ¬ x = y → V p l e R s m args below meth c Q Z B0 nL lay C cells slots (pc + 3) lv rest) : V p l e R s m args below meth c Q Z B0 nL lay C cells slots pc lv (.int y :: .int x :: rest) := fun ls H locs hl hP hS => lv_icmp_eq X.1.1 X.1.2.1 hdg ht (fun q => kt q ls H locs hl hP hS) (fun q => kf q ls H locs hl hP hS)
theorem v_if_eq (X : Cx p m meth c cc nL s args own Z B0) {x : Int32} {off : Int} {tgt : Nat} (hdg : decode cc pc = .ok (.ifCond .eq off, 3)) (ht : (pc : Int) + off = (tgt : Int)) (kt : x = 0 → V p l e R s m args below meth c Q Z B0 nL lay C cells slots tgt lv rest) (kf : ¬ x = 0 → V p l e R s m args below meth c Q Z B0 nL lay C cells slots (pc + 3) lv rest) : V p l e R s m args below meth c Q Z B0 nL lay C cells slots pc lv (.int x :: rest) := fun ls H locs hl hP hS => lv_if_eq X.1.1 X.1.2.1 hdg ht (fun q => kt q ls H locs hl hP hS) (fun q => kf q ls H locs hl hP hS)
theorem v_icmp_ne (X : Cx p m meth c cc nL s args own Z B0) {x y : Int32} {off : Int} {tgt : Nat} (hdg : decode cc pc = .ok (.if_icmp .ne off, 3)) (ht : (pc : Int) + off = (tgt : Int)) (kt : ¬ x = y → V p l e R s m args below meth c Q Z B0 nL lay C cells slots tgt lv rest) (kf : x = y → V p l e R s m args below meth c Q Z B0 nL lay C cells slots (pc + 3) lv rest) : V p l e R s m args below meth c Q Z B0 nL lay C cells slots pc lv (.int y :: .int x :: rest) := fun ls H locs hl hP hS => lv_icmp_ne X.1.1 X.1.2.1 hdg ht (fun q => kt q ls H locs hl hP hS) (fun q => kf q ls H locs hl hP hS)
theorem v_if_ne (X : Cx p m meth c cc nL s args own Z B0) {x : Int32} {off : Int} {tgt : Nat} (hdg : decode cc pc = .ok (.ifCond .ne off, 3)) (ht : (pc : Int) + off = (tgt : Int)) (kt : ¬ x = 0 → V p l e R s m args below meth c Q Z B0 nL lay C cells slots tgt lv rest) (kf : x = 0 → V p l e R s m args below meth c Q Z B0 nL lay C cells slots (pc + 3) lv rest) : V p l e R s m args below meth c Q Z B0 nL lay C cells slots pc lv (.int x :: rest) := fun ls H locs hl hP hS => lv_if_ne X.1.1 X.1.2.1 hdg ht (fun q => kt q ls H locs hl hP hS) (fun q => kf q ls H locs hl hP hS)
theorem v_icmp_lt (X : Cx p m meth c cc nL s args own Z B0) {x y : Int32} {off : Int} {tgt : Nat} (hdg : decode cc pc = .ok (.if_icmp .lt off, 3)) (ht : (pc : Int) + off = (tgt : Int)) (kt : x < y → V p l e R s m args below meth c Q Z B0 nL lay C cells slots tgt lv rest) (kf : ¬ x < y → V p l e R s m args below meth c Q Z B0 nL lay C cells slots (pc + 3) lv rest) : V p l e R s m args below meth c Q Z B0 nL lay C cells slots pc lv (.int y :: .int x :: rest) := fun ls H locs hl hP hS => lv_icmp_lt X.1.1 X.1.2.1 hdg ht (fun q => kt q ls H locs hl hP hS) (fun q => kf q ls H locs hl hP hS)
theorem v_if_lt (X : Cx p m meth c cc nL s args own Z B0) {x : Int32} {off : Int} {tgt : Nat} (hdg : decode cc pc = .ok (.ifCond .lt off, 3)) (ht : (pc : Int) + off = (tgt : Int)) (kt : x < 0 → V p l e R s m args below meth c Q Z B0 nL lay C cells slots tgt lv rest) (kf : ¬ x < 0 → V p l e R s m args below meth c Q Z B0 nL lay C cells slots (pc + 3) lv rest) : V p l e R s m args below meth c Q Z B0 nL lay C cells slots pc lv (.int x :: rest) := fun ls H locs hl hP hS => lv_if_lt X.1.1 X.1.2.1 hdg ht (fun q => kt q ls H locs hl hP hS) (fun q => kf q ls H locs hl hP hS)
theorem v_icmp_ge (X : Cx p m meth c cc nL s args own Z B0) {x y : Int32} {off : Int} {tgt : Nat} (hdg : decode cc pc = .ok (.if_icmp .ge off, 3)) (ht : (pc : Int) + off = (tgt : Int)) (kt : y ≤ x → V p l e R s m args below meth c Q Z B0 nL lay C cells slots tgt lv rest) (kf : ¬ y ≤ x → V p l e R s m args below meth c Q Z B0 nL lay C cells slots (pc + 3) lv rest) : V p l e R s m args below meth c Q Z B0 nL lay C cells slots pc lv (.int y :: .int x :: rest) := fun ls H locs hl hP hS => lv_icmp_ge X.1.1 X.1.2.1 hdg ht (fun q => kt q ls H locs hl hP hS) (fun q => kf q ls H locs hl hP hS)
theorem v_if_ge (X : Cx p m meth c cc nL s args own Z B0) {x : Int32} {off : Int} {tgt : Nat} (hdg : decode cc pc = .ok (.ifCond .ge off, 3)) (ht : (pc : Int) + off = (tgt : Int)) (kt : 0 ≤ x → V p l e R s m args below meth c Q Z B0 nL lay C cells slots tgt lv rest) (kf : ¬ 0 ≤ x → V p l e R s m args below meth c Q Z B0 nL lay C cells slots (pc + 3) lv rest) : V p l e R s m args below meth c Q Z B0 nL lay C cells slots pc lv (.int x :: rest) := fun ls H locs hl hP hS => lv_if_ge X.1.1 X.1.2.1 hdg ht (fun q => kt q ls H locs hl hP hS) (fun q => kf q ls H locs hl hP hS)
theorem v_icmp_gt (X : Cx p m meth c cc nL s args own Z B0) {x y : Int32} {off : Int} {tgt : Nat} (hdg : decode cc pc = .ok (.if_icmp .gt off, 3)) (ht : (pc : Int) + off = (tgt : Int)) (kt : y < x → V p l e R s m args below meth c Q Z B0 nL lay C cells slots tgt lv rest) (kf : ¬ y < x → V p l e R s m args below meth c Q Z B0 nL lay C cells slots (pc + 3) lv rest) : V p l e R s m args below meth c Q Z B0 nL lay C cells slots pc lv (.int y :: .int x :: rest) := fun ls H locs hl hP hS => lv_icmp_gt X.1.1 X.1.2.1 hdg ht (fun q => kt q ls H locs hl hP hS) (fun q => kf q ls H locs hl hP hS)
theorem v_if_gt (X : Cx p m meth c cc nL s args own Z B0) {x : Int32} {off : Int} {tgt : Nat} (hdg : decode cc pc = .ok (.ifCond .gt off, 3)) (ht : (pc : Int) + off = (tgt : Int)) (kt : 0 < x → V p l e R s m args below meth c Q Z B0 nL lay C cells slots tgt lv rest) (kf : ¬ 0 < x → V p l e R s m args below meth c Q Z B0 nL lay C cells slots (pc + 3) lv rest) : V p l e R s m args below meth c Q Z B0 nL lay C cells slots pc lv (.int x :: rest) := fun ls H locs hl hP hS => lv_if_gt X.1.1 X.1.2.1 hdg ht (fun q => kt q ls H locs hl hP hS) (fun q => kf q ls H locs hl hP hS)
theorem v_icmp_le (X : Cx p m meth c cc nL s args own Z B0) {x y : Int32} {off : Int} {tgt : Nat} (hdg : decode cc pc = .ok (.if_icmp .le off, 3)) (ht : (pc : Int) + off = (tgt : Int)) (kt : x ≤ y → V p l e R s m args below meth c Q Z B0 nL lay C cells slots tgt lv rest) (kf : ¬ x ≤ y → V p l e R s m args below meth c Q Z B0 nL lay C cells slots (pc + 3) lv rest) : V p l e R s m args below meth c Q Z B0 nL lay C cells slots pc lv (.int y :: .int x :: rest) := fun ls H locs hl hP hS => lv_icmp_le X.1.1 X.1.2.1 hdg ht (fun q => kt q ls H locs hl hP hS) (fun q => kf q ls H locs hl hP hS)
theorem v_if_le (X : Cx p m meth c cc nL s args own Z B0) {x : Int32} {off : Int} {tgt : Nat} (hdg : decode cc pc = .ok (.ifCond .le off, 3)) (ht : (pc : Int) + off = (tgt : Int)) (kt : x ≤ 0 → V p l e R s m args below meth c Q Z B0 nL lay C cells slots tgt lv rest) (kf : ¬ x ≤ 0 → V p l e R s m args below meth c Q Z B0 nL lay C cells slots (pc + 3) lv rest) : V p l e R s m args below meth c Q Z B0 nL lay C cells slots pc lv (.int x :: rest) := fun ls H locs hl hP hS => lv_if_le X.1.1 X.1.2.1 hdg ht (fun q => kt q ls H locs hl hP hS) (fun q => kf q ls H locs hl hP hS)
theorem v_acmp_eq (X : Cx p m meth c cc nL s args own Z B0) {rx ry : Option Nat} {off : Int} {tgt : Nat} (hdg : decode cc pc = .ok (.if_acmp .eq off, 3)) (ht : (pc : Int) + off = (tgt : Int)) (kt : rx = ry → V p l e R s m args below meth c Q Z B0 nL lay C cells slots tgt lv rest) (kf : ¬ rx = ry → V p l e R s m args below meth c Q Z B0 nL lay C cells slots (pc + 3) lv rest) : V p l e R s m args below meth c Q Z B0 nL lay C cells slots pc lv (va_rf ry :: va_rf rx :: rest) := fun ls H locs hl hP hS => lv_acmp_eq X.1.1 X.1.2.1 hdg ht (fun q => kt q ls H locs hl hP hS) (fun q => kf q ls H locs hl hP hS)
theorem v_acmpR_eq (X : Cx p m meth c cc nL s args own Z B0) {rx ry : Nat} {off : Int} {tgt : Nat} (hdg : decode cc pc = .ok (.if_acmp .eq off, 3)) (ht : (pc : Int) + off = (tgt : Int)) (kt : rx = ry → V p l e R s m args below meth c Q Z B0 nL lay C cells slots tgt lv rest) (kf : ¬ rx = ry → V p l e R s m args below meth c Q Z B0 nL lay C cells slots (pc + 3) lv rest) : V p l e R s m args below meth c Q Z B0 nL lay C cells slots pc lv (.ref ry :: .ref rx :: rest) := fun ls H locs hl hP hS => lv_acmp_eq (rx := some rx) (ry := some ry) X.1.1 X.1.2.1 hdg ht (fun q => kt (Option.some.inj q) ls H locs hl hP hS) (fun q => kf (fun z => q (congrArg some z)) ls H locs hl hP hS)
theorem v_acmp_ne (X : Cx p m meth c cc nL s args own Z B0) {rx ry : Option Nat} {off : Int} {tgt : Nat} (hdg : decode cc pc = .ok (.if_acmp .ne off, 3)) (ht : (pc : Int) + off = (tgt : Int)) (kt : ¬ rx = ry → V p l e R s m args below meth c Q Z B0 nL lay C cells slots tgt lv rest) (kf : rx = ry → V p l e R s m args below meth c Q Z B0 nL lay C cells slots (pc + 3) lv rest) : V p l e R s m args below meth c Q Z B0 nL lay C cells slots pc lv (va_rf ry :: va_rf rx :: rest) := fun ls H locs hl hP hS => lv_acmp_ne X.1.1 X.1.2.1 hdg ht (fun q => kt q ls H locs hl hP hS) (fun q => kf q ls H locs hl hP hS)
theorem v_acmpR_ne (X : Cx p m meth c cc nL s args own Z B0) {rx ry : Nat} {off : Int} {tgt : Nat} (hdg : decode cc pc = .ok (.if_acmp .ne off, 3)) (ht : (pc : Int) + off = (tgt : Int)) (kt : ¬ rx = ry → V p l e R s m args below meth c Q Z B0 nL lay C cells slots tgt lv rest) (kf : rx = ry → V p l e R s m args below meth c Q Z B0 nL lay C cells slots (pc + 3) lv rest) : V p l e R s m args below meth c Q Z B0 nL lay C cells slots pc lv (.ref ry :: .ref rx :: rest) := fun ls H locs hl hP hS => lv_acmp_ne (rx := some rx) (ry := some ry) X.1.1 X.1.2.1 hdg ht (fun q => kt (fun z => q (congrArg some z)) ls H locs hl hP hS) (fun q => kf (Option.some.inj q) ls H locs hl hP hS)
theorem v_ifnullR (X : Cx p m meth c cc nL s args own Z B0) {x : Nat} {off : Int} (hdg : decode cc pc = .ok (.ifnull off, 3)) (k : V p l e R s m args below meth c Q Z B0 nL lay C cells slots (pc + 3) lv (rest)) : V p l e R s m args below meth c Q Z B0 nL lay C cells slots pc lv (.ref x :: rest) := fun ls H locs hl hP hS => lv_ifnull X.1.1 X.1.2.1 hdg (k ls H locs hl hP hS)
theorem v_ifnonnullR (X : Cx p m meth c cc nL s args own Z B0) {x : Nat} {off : Int} {tgt : Nat} (hdg : decode cc pc = .ok (.ifnonnull off, 3)) (ht : (pc : Int) + off = (tgt : Int)) (k : V p l e R s m args below meth c Q Z B0 nL lay C cells slots tgt lv rest) : V p l e R s m args below meth c Q Z B0 nL lay C cells slots pc lv (.ref x :: rest) := fun ls H locs hl hP hS => lv_ifnonnull X.1.1 X.1.2.1 hdg ht (k ls H locs hl hP hS)
theorem v_ifnullN (X : Cx p m meth c cc nL s args own Z B0) {off : Int} {tgt : Nat} (hdg : decode cc pc = .ok (.ifnull off, 3)) (ht : (pc : Int) + off = (tgt : Int)) (k : V p l e R s m args below meth c Q Z B0 nL lay C cells slots tgt lv rest) : V p l e R s m args below meth c Q Z B0 nL lay C cells slots pc lv (.null :: rest) := fun ls H locs hl hP hS => lv_ifnullN X.1.1 X.1.2.1 hdg ht (k ls H locs hl hP hS)
theorem v_ifnonnullN (X : Cx p m meth c cc nL s args own Z B0) {off : Int} (hdg : decode cc pc = .ok (.ifnonnull off, 3)) (k : V p l e R s m args below meth c Q Z B0 nL lay C cells slots (pc + 3) lv (rest)) : V p l e R s m args below meth c Q Z B0 nL lay C cells slots pc lv (.null :: rest) := fun ls H locs hl hP hS => lv_ifnonnullN X.1.1 X.1.2.1 hdg (k ls H locs hl hP hS)
theorem v_tableOut (X : Cx p m meth c cc nL s args own Z B0) {dflt lo hi : Int} {offs : Array Int} {len : Nat} {x : Int32} {tgt : Nat} (hdg : decode cc pc = .ok (.tableswitch dflt lo hi offs, len)) (h : x.toInt < lo ∨ hi < x.toInt) (ht : (pc : Int) + dflt = (tgt : Int)) (k : V p l e R s m args below meth c Q Z B0 nL lay C cells slots tgt lv rest) : V p l e R s m args below meth c Q Z B0 nL lay C cells slots pc lv (.int x :: rest) := fun ls H locs hl hP hS => lv_tableOut X.1.1 X.1.2.1 hdg h ht (k ls H locs hl hP hS)
theorem v_tableIn (X : Cx p m meth c cc nL s args own Z B0) {dflt lo hi : Int} {offs : Array Int} {len : Nat} {x : Int32} {off : Int} {tgt : Nat} (hdg : decode cc pc = .ok (.tableswitch dflt lo hi offs, len)) (h1 : ¬ x.toInt < lo) (h2 : ¬ hi < x.toInt) (ho : offs[(x.toInt - lo).toNat]? = some off) (ht : (pc : Int) + off = (tgt : Int)) (k : V p l e R s m args below meth c Q Z B0 nL lay C cells slots tgt lv rest) : V p l e R s m args below meth c Q Z B0 nL lay C cells slots pc lv (.int x :: rest) := fun ls H locs hl hP hS => lv_tableIn X.1.1 X.1.2.1 hdg h1 h2 ho ht (k ls H locs hl hP hS)
theorem v_ldc (X : Cx p m meth c cc nL s args own Z B0) {index : Nat} {v : Int32} (hc : Jvm.Cond.constant own index v ∈ BG) (hdg : decode cc pc = .ok (.ldc index, 2)) (k : V p l e R s m args below meth c Q Z B0 nL lay C cells slots (pc + 2) lv (.int v :: rest)) : V p l e R s m args below meth c Q Z B0 nL lay C cells slots pc lv rest := fun ls H locs hl hP hS => lv_ldc X.1.1 X.1.2.1 X.1.2.2.2.1 (X.1.2.2.2.2 _ hc) hdg (k ls H locs hl hP hS)
theorem v_ldc2 (X : Cx p m meth c cc nL s args own Z B0) {index : Nat} {v : Int64} (hc : Jvm.Cond.constantLong own index v ∈ BG) (hdg : decode cc pc = .ok (.ldc2_w index, 3)) (k : V p l e R s m args below meth c Q Z B0 nL lay C cells slots (pc + 3) lv (.long v :: rest)) : V p l e R s m args below meth c Q Z B0 nL lay C cells slots pc lv rest := fun ls H locs hl hP hS => lv_ldc2 X.1.1 X.1.2.1 X.1.2.2.2.1 (X.1.2.2.2.2 _ hc) hdg (k ls H locs hl hP hS)
theorem v_le {lv' : List (Option Value)} (h : xle lv' lv) (k : V p l e R s m args below meth c Q Z B0 nL lay C cells slots pc lv' rest) : V p l e R s m args below meth c Q Z B0 nL lay C cells slots pc lv rest := fun ls H locs hl hP hS => k ls H locs (xl_le hl h) hP hS
theorem v_widen {cells' slots' : Nat} (h1 : cells ≤ cells') (h2 : slots ≤ slots') (k : V p l e R s m args below meth c Q Z B0 nL lay C cells' slots' pc lv rest) : V p l e R s m args below meth c Q Z B0 nL lay C cells slots pc lv rest := fun ls H locs hl hP hS => W.widen h1 h2 (k ls H locs hl hP hS)
theorem v_congr {lay' : xK → Nat} {C' : xK → Option xE} (hC : ∀ j, C' j = none ∨ C' j = C j) (hl0 : ∀ j, C' j ≠ none → lay' j = lay j) (k : V p l e R s m args below meth c Q Z B0 nL lay' C' cells slots pc lv rest) : V p l e R s m args below meth c Q Z B0 nL lay C cells slots pc lv rest := fun ls H locs hl hP hS => k ls H locs hl (hP.congr hC hl0) hS
theorem x_get (X : Cx p m meth c cc nL s args own Z B0) {ref Cn : String} {T : u_T} {N ci index : Nat} (hin : ∀ w ∈ u_ws Cn T N, w ∈ BG) (k : xK) {f : Nat → Value} (he : C k = some (.inr (ci, f))) (hc : vwCl[ci]? = some (Cn, T, N)) (j : Nat) (hj : j < N) (hlink : Cond.fieldLink own index ref (T j).2.1 (T j).2.2.1 ∈ BG) (hrf : ref = (T j).1) {a : Nat} (ha : lay k = a) {v : Value} (hv : f j = v) (hdg : decode cc pc = .ok (.getfield index, 3))
    (kk : V p l e R s m args below meth c Q Z B0 nL lay C cells slots (pc + 3) lv (v :: rest)) : V p l e R s m args below meth c Q Z B0 nL lay C cells slots pc lv (.ref a :: rest) := by
  intro ls H locs hl hP hS
  subst ha
  obtain ⟨r, h1, cell, q1, q2, q3, q4⟩ := hP.1 k _ he
  have hr : r = (Cn, T, N) := Option.some.inj (h1.symm.trans hc)
  subst hr
  obtain ⟨hS', hfc, kC, hkC, hkind⟩ := X.2.1.1.1 ci _ hc
  obtain ⟨cf, kf, fi, fd, hi, hsl⟩ := hS' j hj
  have hts := X.1.2.2.2.2
  refine W.getf X.1.1 X.1.2.1 X.1.2.2.2.1 (hts _ hlink) (by rw [hrf]; exact hi) (u_facts hfc hkC (u_lays hts hin hj) hi).1 q1 (by rw [q3]; exact fun h => by cases h) (v := v) ?_ rfl rfl hdg (kk ls H locs hl hP hS)
  rw [hsl, q4 j hj]
  exact congrArg some hv
theorem x_put (X : Cx p m meth c cc nL s args own Z B0) {ref Cn : String} {T : u_T} {N ci index : Nat} (hin : ∀ w ∈ u_ws Cn T N, w ∈ BG) (ty0 : Nat → FieldType) (hty : ∀ k, k < N → parseFieldDescriptor (T k).2.2.1 = some (ty0 k)) (hnm : ∀ a, a < N → ∀ b, b < N → a ≠ b → (T a).2.1 ≠ (T b).2.1) (k : xK) {f : Nat → Value} (he : C k = some (.inr (ci, f))) (hc : vwCl[ci]? = some (Cn, T, N)) (j : Nat) (hj : j < N) (hlink : Cond.fieldLink own index ref (T j).2.1 (T j).2.2.1 ∈ BG) (hrf : ref = (T j).1) (hfin : (T j).2.2.2 = false) {v : Value} (hn : narrow (ty0 j) v = v) (hfit : fits (ty0 j) v = true) {a : Nat} (ha : lay k = a) {C' : xK → Option xE} (hC : ∀ i, C' i = xup C k (.inr (ci, updV f j v)) i) (hdg : decode cc pc = .ok (.putfield index, 3))
    (kk : V p l e R s m args below meth c Q Z B0 nL lay C' cells slots (pc + 3) lv rest) : V p l e R s m args below meth c Q Z B0 nL lay C cells slots pc lv (v :: .ref a :: rest) := by
  intro ls H locs hl hP hS0
  subst ha
  have hts := X.1.2.2.2.2
  have hap := va_apart (own := own) hts hin ty0 hty hnm X.2.1.1 hc
  obtain ⟨r, h1, cell, q1, q2, q3, q4⟩ := hP.1 k _ he
  have hr : r = (Cn, T, N) := Option.some.inj (h1.symm.trans hc)
  subst hr
  obtain ⟨hS, hfc, kC, hkC, hkind⟩ := X.2.1.1.1 ci _ hc
  obtain ⟨cf, kf, fi, fd, hi, hsl⟩ := hS j hj
  have hlay := hts _ (hin _ (u_in_lay hj))
  unfold u_lay at hlay
  rw [if_neg (by rw [hfin]; decide)] at hlay
  have hst := (u_facts hfc hkC (u_lays hts hin hj) hi).1
  have h6 := u_store hfc hkC hkind hlay hi (hty j hj) hn hfit
  refine W.putK X.1.1 X.1.2.1 (f := fd) ⟨X.1.2.2.2.1, hts _ hlink, ⟨_, _, _, by rw [hrf]; exact hi⟩, hst⟩ (by rw [q2]; exact h6) q1 q3 (by rw [hsl]; exact k2_hasslot (q4 j hj)) rfl rfl hdg fun H' e1 e2 e3 => ?_
  rw [hsl] at e1 ⊢
  exact kk ls H' _ hl (hP.put he (show x_at Z (lay k) (.inr (ci, updV f j v)) H' from ⟨_, hc, ⟨_, e1, q2, q3, t_set q4 hap hj v⟩⟩) e3 hC) (hS0.put e2 e3 (hP.2.2 k (by rw [he]; exact fun z => by cases z)))
theorem x_putF (X : Cx p m meth c cc nL s args own Z B0) {ref Cn : String} {T : u_T} {N ci index : Nat} (hin : ∀ w ∈ u_ws Cn T N, w ∈ BG) (ty0 : Nat → FieldType) (hty : ∀ k, k < N → parseFieldDescriptor (T k).2.2.1 = some (ty0 k)) (hnm : ∀ a, a < N → ∀ b, b < N → a ≠ b → (T a).2.1 ≠ (T b).2.1) (k : xK) {f : Nat → Value} (he : C k = some (.inr (ci, f))) (hc : vwCl[ci]? = some (Cn, T, N)) (j : Nat) (hj : j < N) (hlink : Cond.fieldLink own index ref (T j).2.1 (T j).2.2.1 ∈ BG) (hrf : ref = (T j).1) (hfin : (T j).2.2.2 = true) (hin2 : meth.name = "<init>") (hdecl : (T j).1 = own) {v : Value} (hn : narrow (ty0 j) v = v) (hfit : fits (ty0 j) v = true) {a : Nat} (ha : lay k = a) {C' : xK → Option xE} (hC : ∀ i, C' i = xup C k (.inr (ci, updV f j v)) i) (hdg : decode cc pc = .ok (.putfield index, 3))
    (kk : V p l e R s m args below meth c Q Z B0 nL lay C' cells slots (pc + 3) lv rest) : V p l e R s m args below meth c Q Z B0 nL lay C cells slots pc lv (v :: .ref a :: rest) := by
  intro ls H locs hl hP hS0
  subst ha
  have hts := X.1.2.2.2.2
  have hown := X.1.2.2.2.1
  have hap := va_apart (own := own) hts hin ty0 hty hnm X.2.1.1 hc
  obtain ⟨r, h1, cell, q1, q2, q3, q4⟩ := hP.1 k _ he
  have hr : r = (Cn, T, N) := Option.some.inj (h1.symm.trans hc)
  subst hr
  obtain ⟨hS, hfc, kC, hkC, hkind⟩ := X.2.1.1.1 ci _ hc
  obtain ⟨cf, kf, fi, fd, hi, hsl⟩ := hS j hj
  have hlay := hts _ (hin _ (u_in_lay hj))
  unfold u_lay at hlay
  rw [if_pos hfin] at hlay
  have hst := (u_facts hfc hkC (u_lays hts hin hj) hi).1
  have hcf : m.cls = cf := by
    obtain ⟨_, _, c', _, _, _, -, -, hf', -, -, -, hown2, -⟩ := Cond.laysFinal_spec hlay
    have e1 : c' = cf := by have := hi.symm.trans hf'; simp at this; exact this.1.symm
    rw [hdecl] at hown2
    rw [← e1]; exact Option.some.inj (hown.symm.trans hown2)
  have h6 := u_fits hfc hkC hkind (Or.inr hlay) hi (hty j hj) hn hfit
  refine W.putFinK X.1.1 X.1.2.1 hown (hts _ hlink) (by rw [hrf]; exact hi) hst hcf hin2 (by rw [q2]; exact h6) q1 q3 (by rw [hsl]; exact k2_hasslot (q4 j hj)) rfl rfl hdg fun H' e1 e2 e3 => ?_
  rw [hsl] at e1 ⊢
  exact kk ls H' _ hl (hP.put he (show x_at Z (lay k) (.inr (ci, updV f j v)) H' from ⟨_, hc, ⟨_, e1, q2, q3, t_set q4 hap hj v⟩⟩) e3 hC) (hS0.put e2 e3 (hP.2.2 k (by rw [he]; exact fun z => by cases z)))
theorem x_iald (X : Cx p m meth c cc nL s args own Z B0) (k : xK) {n : Nat} {f : Nat → Int32} (he : C k = some (.inl (Z.2 0, n, .inl f))) {i : Int32} (hin : vp_in i n) {a : Nat} (ha : lay k = a) {v : Int32} (hv : f i.toNatClampNeg = v) (hdg : decode cc pc = .ok (.iaload, 1))
    (kk : V p l e R s m args below meth c Q Z B0 nL lay C cells slots (pc + 1) lv (.int v :: rest)) : V p l e R s m args below meth c Q Z B0 nL lay C cells slots pc lv (.int i :: .ref a :: rest) := by
  intro ls H locs hl hP hS
  subst ha
  subst hv
  have hlt : i.toNatClampNeg < n := Nat.not_le.mp fun q => hin (Or.inr q)
  exact W.iald (v := .int (f i.toNatClampNeg)) X.1.1 X.1.2.1 (hP.1 k _ he) ((X.2.1.1.2 0 (Z.2 0, _) rfl).1 n (fun j => .int (f j))) (fun q => by cases q) (by show ¬ (i < 0 ∨ (arrV _ _ _).slots.size ≤ _); rw [arrV_size]; exact hin) (by show (arrV _ _ _).slots[_]? = _; rw [arrV_read _ _ hlt]) rfl rfl hdg (kk ls H locs hl hP hS)
theorem x_zald (X : Cx p m meth c cc nL s args own Z B0) (k : xK) {n : Nat} {f : Nat → Int32} (he : C k = some (.inl (Z.2 2, n, .inl f))) {i : Int32} (hin : vp_in i n) {a : Nat} (ha : lay k = a) {v : Int32} (hv : f i.toNatClampNeg = v) (hdg : decode cc pc = .ok (.baload, 1))
    (kk : V p l e R s m args below meth c Q Z B0 nL lay C cells slots (pc + 1) lv (.int v :: rest)) : V p l e R s m args below meth c Q Z B0 nL lay C cells slots pc lv (.int i :: .ref a :: rest) := by
  intro ls H locs hl hP hS
  subst ha
  subst hv
  have hlt : i.toNatClampNeg < n := Nat.not_le.mp fun q => hin (Or.inr q)
  exact W.zald (v := .int (f i.toNatClampNeg)) X.1.1 X.1.2.1 (hP.1 k _ he) ((X.2.1.1.2 2 (Z.2 2, _) rfl).1 n (fun j => .int (f j))) (fun q => by cases q) (by show ¬ (i < 0 ∨ (arrV _ _ _).slots.size ≤ _); rw [arrV_size]; exact hin) (by show (arrV _ _ _).slots[_]? = _; rw [arrV_read _ _ hlt]) rfl rfl hdg (kk ls H locs hl hP hS)
theorem x_lald (X : Cx p m meth c cc nL s args own Z B0) (k : xK) {n : Nat} {f : Nat → Int64} (he : C k = some (.inl (Z.2 1, n, .inr (.inl f)))) {i : Int32} (hin : vp_in i n) {a : Nat} (ha : lay k = a) {v : Int64} (hv : f i.toNatClampNeg = v) (hdg : decode cc pc = .ok (.laload, 1))
    (kk : V p l e R s m args below meth c Q Z B0 nL lay C cells slots (pc + 1) lv (.long v :: rest)) : V p l e R s m args below meth c Q Z B0 nL lay C cells slots pc lv (.int i :: .ref a :: rest) := by
  intro ls H locs hl hP hS
  subst ha
  subst hv
  have hlt : i.toNatClampNeg < n := Nat.not_le.mp fun q => hin (Or.inr q)
  exact W.lald (v := .long (f i.toNatClampNeg)) X.1.1 X.1.2.1 (hP.1 k _ he) ((X.2.1.1.2 1 (Z.2 1, _) rfl).1 n (fun j => .long (f j))) (fun q => by cases q) (by show ¬ (i < 0 ∨ (arrV _ _ _).slots.size ≤ _); rw [arrV_size]; exact hin) (by show (arrV _ _ _).slots[_]? = _; rw [arrV_read _ _ hlt]) rfl rfl hdg (kk ls H locs hl hP hS)
theorem x_aald3 (X : Cx p m meth c cc nL s args own Z B0) (k : xK) {n : Nat} {f : Nat → Option Nat} (he : C k = some (.inl (Z.2 3, n, .inr (.inr (.inr (.inr f)))))) {i : Int32} (hin : vp_in i n) {a : Nat} (ha : lay k = a) {v : Value} (hv : va_rf (f i.toNatClampNeg) = v) (hdg : decode cc pc = .ok (.aaload, 1))
    (kk : V p l e R s m args below meth c Q Z B0 nL lay C cells slots (pc + 1) lv (v :: rest)) : V p l e R s m args below meth c Q Z B0 nL lay C cells slots pc lv (.int i :: .ref a :: rest) := by
  intro ls H locs hl hP hS
  subst ha
  subst hv
  have hlt : i.toNatClampNeg < n := Nat.not_le.mp fun q => hin (Or.inr q)
  exact W.aald (v := va_rf (f i.toNatClampNeg)) (ty := .object "Postunion$Post") X.1.1 X.1.2.1 (hP.1 k _ he) ((X.2.1.1.2 3 (Z.2 3, _) rfl).1 n (fun j => va_rf (f j))) rfl (fun q => by cases q) (by show ¬ (i < 0 ∨ (arrV _ _ _).slots.size ≤ _); rw [arrV_size]; exact hin) (by show (arrV _ _ _).slots[_]? = _; rw [arrV_read _ _ hlt]) rfl rfl hdg (kk ls H locs hl hP hS)
theorem x_aald4 (X : Cx p m meth c cc nL s args own Z B0) (k : xK) {n : Nat} {f : Nat → Option Nat} (he : C k = some (.inl (Z.2 4, n, .inr (.inr (.inr (.inr f)))))) {i : Int32} (hin : vp_in i n) {a : Nat} (ha : lay k = a) {v : Value} (hv : va_rf (f i.toNatClampNeg) = v) (hdg : decode cc pc = .ok (.aaload, 1))
    (kk : V p l e R s m args below meth c Q Z B0 nL lay C cells slots (pc + 1) lv (v :: rest)) : V p l e R s m args below meth c Q Z B0 nL lay C cells slots pc lv (.int i :: .ref a :: rest) := by
  intro ls H locs hl hP hS
  subst ha
  subst hv
  have hlt : i.toNatClampNeg < n := Nat.not_le.mp fun q => hin (Or.inr q)
  exact W.aald (v := va_rf (f i.toNatClampNeg)) (ty := .object "Postunion$Thing") X.1.1 X.1.2.1 (hP.1 k _ he) ((X.2.1.1.2 4 (Z.2 4, _) rfl).1 n (fun j => va_rf (f j))) rfl (fun q => by cases q) (by show ¬ (i < 0 ∨ (arrV _ _ _).slots.size ≤ _); rw [arrV_size]; exact hin) (by show (arrV _ _ _).slots[_]? = _; rw [arrV_read _ _ hlt]) rfl rfl hdg (kk ls H locs hl hP hS)
theorem x_aald5 (X : Cx p m meth c cc nL s args own Z B0) (k : xK) {n : Nat} {f : Nat → Option Nat} (he : C k = some (.inl (Z.2 5, n, .inr (.inr (.inr (.inr f)))))) {i : Int32} (hin : vp_in i n) {a : Nat} (ha : lay k = a) {v : Value} (hv : va_rf (f i.toNatClampNeg) = v) (hdg : decode cc pc = .ok (.aaload, 1))
    (kk : V p l e R s m args below meth c Q Z B0 nL lay C cells slots (pc + 1) lv (v :: rest)) : V p l e R s m args below meth c Q Z B0 nL lay C cells slots pc lv (.int i :: .ref a :: rest) := by
  intro ls H locs hl hP hS
  subst ha
  subst hv
  have hlt : i.toNatClampNeg < n := Nat.not_le.mp fun q => hin (Or.inr q)
  exact W.aald (v := va_rf (f i.toNatClampNeg)) (ty := .object "Postunion$Leg") X.1.1 X.1.2.1 (hP.1 k _ he) ((X.2.1.1.2 5 (Z.2 5, _) rfl).1 n (fun j => va_rf (f j))) rfl (fun q => by cases q) (by show ¬ (i < 0 ∨ (arrV _ _ _).slots.size ≤ _); rw [arrV_size]; exact hin) (by show (arrV _ _ _).slots[_]? = _; rw [arrV_read _ _ hlt]) rfl rfl hdg (kk ls H locs hl hP hS)
theorem x_iast (X : Cx p m meth c cc nL s args own Z B0) (k : xK) {n : Nat} {f : Nat → Int32} (he : C k = some (.inl (Z.2 0, n, .inl f))) {i : Int32} {x : Int32} (hin : vp_in i n) {a : Nat} (ha : lay k = a) {C' : xK → Option xE} (hC : ∀ j, C' j = xup C k (.inl (Z.2 0, n, .inl (upd f i.toNatClampNeg x))) j) (hdg : decode cc pc = .ok (.iastore, 1))
    (kk : V p l e R s m args below meth c Q Z B0 nL lay C' cells slots (pc + 1) lv rest) : V p l e R s m args below meth c Q Z B0 nL lay C cells slots pc lv (.int x :: .int i :: .ref a :: rest) := by
  intro ls H locs hl hP hS
  subst ha
  refine W.iast X.1.1 X.1.2.1 (hP.1 k _ he) ((X.2.1.1.2 0 (Z.2 0, _) rfl).1 n (fun j => .int (f j))) (fun q => by cases q) (by show ¬ (i < 0 ∨ (arrV _ _ _).slots.size ≤ _); rw [arrV_size]; exact hin) rfl rfl hdg fun H1 e z oq => ?_
  refine kk ls H1 _ hl (hP.put he ?_ oq hC) (hS.put z oq (hP.2.2 k (by rw [he]; exact fun z => by cases z)))
  show H1[lay k]? = some (vp_cell _ _)
  rw [e]
  rw [vp_cell_i, vp_cell_i, arrV_store]
  congr 2
  funext q
  by_cases hq : q = i.toNatClampNeg
  · subst hq
    simp [updV, upd]
  · simp [updV, upd, hq]
theorem x_zast (X : Cx p m meth c cc nL s args own Z B0) (k : xK) {n : Nat} {f : Nat → Int32} (he : C k = some (.inl (Z.2 2, n, .inl f))) {i : Int32} {x : Int32} (hin : vp_in i n) {a : Nat} (ha : lay k = a) {C' : xK → Option xE} (hC : ∀ j, C' j = xup C k (.inl (Z.2 2, n, .inl (upd f i.toNatClampNeg (vp_nar .boolean x)))) j) (hdg : decode cc pc = .ok (.bastore, 1))
    (kk : V p l e R s m args below meth c Q Z B0 nL lay C' cells slots (pc + 1) lv rest) : V p l e R s m args below meth c Q Z B0 nL lay C cells slots pc lv (.int x :: .int i :: .ref a :: rest) := by
  intro ls H locs hl hP hS
  subst ha
  refine W.zast X.1.1 X.1.2.1 (hP.1 k _ he) ((X.2.1.1.2 2 (Z.2 2, _) rfl).1 n (fun j => .int (f j))) (fun q => by cases q) (by show ¬ (i < 0 ∨ (arrV _ _ _).slots.size ≤ _); rw [arrV_size]; exact hin) rfl rfl hdg fun H1 e z oq => ?_
  refine kk ls H1 _ hl (hP.put he ?_ oq hC) (hS.put z oq (hP.2.2 k (by rw [he]; exact fun z => by cases z)))
  show H1[lay k]? = some (vp_cell _ _)
  rw [e]
  rw [vp_cell_i, vp_cell_i, arrV_store]
  congr 2
  funext q
  by_cases hq : q = i.toNatClampNeg
  · subst hq
    simp [updV, upd, vp_nar]
    try rfl
  · simp [updV, upd, hq]
theorem x_last (X : Cx p m meth c cc nL s args own Z B0) (k : xK) {n : Nat} {f : Nat → Int64} (he : C k = some (.inl (Z.2 1, n, .inr (.inl f)))) {i : Int32} {x : Int64} (hin : vp_in i n) {a : Nat} (ha : lay k = a) {C' : xK → Option xE} (hC : ∀ j, C' j = xup C k (.inl (Z.2 1, n, .inr (.inl (vp_updL f i.toNatClampNeg x)))) j) (hdg : decode cc pc = .ok (.lastore, 1))
    (kk : V p l e R s m args below meth c Q Z B0 nL lay C' cells slots (pc + 1) lv rest) : V p l e R s m args below meth c Q Z B0 nL lay C cells slots pc lv (.long x :: .int i :: .ref a :: rest) := by
  intro ls H locs hl hP hS
  subst ha
  refine W.last X.1.1 X.1.2.1 (hP.1 k _ he) ((X.2.1.1.2 1 (Z.2 1, _) rfl).1 n (fun j => .long (f j))) (fun q => by cases q) (by show ¬ (i < 0 ∨ (arrV _ _ _).slots.size ≤ _); rw [arrV_size]; exact hin) rfl rfl hdg fun H1 e z oq => ?_
  refine kk ls H1 _ hl (hP.put he ?_ oq hC) (hS.put z oq (hP.2.2 k (by rw [he]; exact fun z => by cases z)))
  show H1[lay k]? = some (vp_cell _ _)
  rw [e]
  rw [vp_cell_l, vp_cell_l, arrV_store]
  congr 2
  funext q
  by_cases hq : q = i.toNatClampNeg
  · subst hq
    simp [updV, vp_updL]
  · simp [updV, vp_updL, hq]
theorem x_alen (X : Cx p m meth c cc nL s args own Z B0) (k : xK) (t0 : Nat) {y : ClassId × vp_A} (he : C k = some (.inl y)) {ty : FieldType} (ht : (xTy Z)[t0]? = some (y.1, ty)) {a : Nat} (ha : lay k = a) {v : Int32} (hv : Int32.ofNat y.2.1 = v) (hdg : decode cc pc = .ok (.arraylength, 1))
    (kk : V p l e R s m args below meth c Q Z B0 nL lay C cells slots (pc + 1) lv (.int v :: rest)) : V p l e R s m args below meth c Q Z B0 nL lay C cells slots pc lv (.ref a :: rest) := by
  intro ls H locs hl hP hS
  subst ha
  obtain ⟨cA, n, f⟩ := y
  refine va_alen (D := Z.1) (cl := vwCl) (ws := [(lay k, .inl (cA, n, f))]) X.1.1 X.1.2.1 X.2.1.1 (fun i q hq => ?_) 0 t0 rfl ht hv hdg (kk ls H locs hl hP hS)
  cases i with
  | zero => cases hq; exact hP.1 k _ he
  | succ i => simp at hq
theorem x_aast3 (X : Cx p m meth c cc nL s args own Z B0) (k kv : xK) {n : Nat} {f : Nat → Option Nat} {fv : Nat → Value} (he : C k = some (.inl (Z.2 3, n, .inr (.inr (.inr (.inr f)))))) (hkv : C kv = some (.inr (1, fv))) {i : Int32} (hin : vp_in i n) {a v : Nat} (ha : lay k = a) (hv : lay kv = v) {C' : xK → Option xE} (hC : ∀ j, C' j = xup C k (.inl (Z.2 3, n, .inr (.inr (.inr (.inr (va_up f i.toNatClampNeg (some v))))))) j) (hdg : decode cc pc = .ok (.aastore, 1))
    (kk : V p l e R s m args below meth c Q Z B0 nL lay C' cells slots (pc + 1) lv rest) : V p l e R s m args below meth c Q Z B0 nL lay C cells slots pc lv (.ref v :: .int i :: .ref a :: rest) := by
  intro ls H locs hl hP hS
  subst ha
  have hlt : i.toNatClampNeg < n := Nat.not_le.mp fun q => hin (Or.inr q)
  have h0 : ¬ i < 0 := fun q => hin (Or.inl q)
  obtain ⟨r', hr', cellV, g1, g2, g3, -⟩ := hP.1 kv _ hkv
  rw [hv] at g1
  have hcls := (X.2.1.1.1 1 _ rfl).2
  obtain ⟨kA, comp, k1, k2, k3, -⟩ := (X.2.1.1.2 3 (Z.2 3, _) rfl).2
  have hcomp : comp = Z.1.1 1 := Option.some.inj (k3.symm.trans hcls.1)
  subst hcomp
  obtain ⟨kC, hkC, -⟩ := hcls.2
  refine W.aast X.1.1 X.1.2.1 (hP.1 k _ he) (fun q h => by cases h) (fun h => by cases h) k1 k2 rfl hkC ⟨h0, by show _ < (arrV _ _ _).slots.size; rw [arrV_size]; exact hlt⟩ g1 (fun q h => by rw [g3] at h; cases h) (by rw [g2]; exact hkC) (by rw [g2]; exact va_assign hcls) rfl rfl hdg fun H1 e z oq => ?_
  refine kk ls H1 _ hl (hP.put he ?_ oq hC) (hS.put z oq (hP.2.2 k (by rw [he]; exact fun z => by cases z)))
  show H1[lay k]? = some (vp_cell _ _)
  rw [e]
  rw [vp_cell_q, vp_cell_q, arrV_store]
  congr 2
  funext q
  by_cases hq : q = i.toNatClampNeg
  · subst hq
    simp [updV, va_up, va_rf]
  · simp [updV, va_up, hq]
theorem x_aast4 (X : Cx p m meth c cc nL s args own Z B0) (k kv : xK) {n : Nat} {f : Nat → Option Nat} {fv : Nat → Value} (he : C k = some (.inl (Z.2 4, n, .inr (.inr (.inr (.inr f)))))) (hkv : C kv = some (.inr (3, fv))) {i : Int32} (hin : vp_in i n) {a v : Nat} (ha : lay k = a) (hv : lay kv = v) {C' : xK → Option xE} (hC : ∀ j, C' j = xup C k (.inl (Z.2 4, n, .inr (.inr (.inr (.inr (va_up f i.toNatClampNeg (some v))))))) j) (hdg : decode cc pc = .ok (.aastore, 1))
    (kk : V p l e R s m args below meth c Q Z B0 nL lay C' cells slots (pc + 1) lv rest) : V p l e R s m args below meth c Q Z B0 nL lay C cells slots pc lv (.ref v :: .int i :: .ref a :: rest) := by
  intro ls H locs hl hP hS
  subst ha
  have hlt : i.toNatClampNeg < n := Nat.not_le.mp fun q => hin (Or.inr q)
  have h0 : ¬ i < 0 := fun q => hin (Or.inl q)
  obtain ⟨r', hr', cellV, g1, g2, g3, -⟩ := hP.1 kv _ hkv
  rw [hv] at g1
  have hcls := (X.2.1.1.1 3 _ rfl).2
  obtain ⟨kA, comp, k1, k2, k3, -⟩ := (X.2.1.1.2 4 (Z.2 4, _) rfl).2
  have hcomp : comp = Z.1.1 3 := Option.some.inj (k3.symm.trans hcls.1)
  subst hcomp
  obtain ⟨kC, hkC, -⟩ := hcls.2
  refine W.aast X.1.1 X.1.2.1 (hP.1 k _ he) (fun q h => by cases h) (fun h => by cases h) k1 k2 rfl hkC ⟨h0, by show _ < (arrV _ _ _).slots.size; rw [arrV_size]; exact hlt⟩ g1 (fun q h => by rw [g3] at h; cases h) (by rw [g2]; exact hkC) (by rw [g2]; exact va_assign hcls) rfl rfl hdg fun H1 e z oq => ?_
  refine kk ls H1 _ hl (hP.put he ?_ oq hC) (hS.put z oq (hP.2.2 k (by rw [he]; exact fun z => by cases z)))
  show H1[lay k]? = some (vp_cell _ _)
  rw [e]
  rw [vp_cell_q, vp_cell_q, arrV_store]
  congr 2
  funext q
  by_cases hq : q = i.toNatClampNeg
  · subst hq
    simp [updV, va_up, va_rf]
  · simp [updV, va_up, hq]
theorem x_aast5 (X : Cx p m meth c cc nL s args own Z B0) (k kv : xK) {n : Nat} {f : Nat → Option Nat} {fv : Nat → Value} (he : C k = some (.inl (Z.2 5, n, .inr (.inr (.inr (.inr f)))))) (hkv : C kv = some (.inr (0, fv))) {i : Int32} (hin : vp_in i n) {a v : Nat} (ha : lay k = a) (hv : lay kv = v) {C' : xK → Option xE} (hC : ∀ j, C' j = xup C k (.inl (Z.2 5, n, .inr (.inr (.inr (.inr (va_up f i.toNatClampNeg (some v))))))) j) (hdg : decode cc pc = .ok (.aastore, 1))
    (kk : V p l e R s m args below meth c Q Z B0 nL lay C' cells slots (pc + 1) lv rest) : V p l e R s m args below meth c Q Z B0 nL lay C cells slots pc lv (.ref v :: .int i :: .ref a :: rest) := by
  intro ls H locs hl hP hS
  subst ha
  have hlt : i.toNatClampNeg < n := Nat.not_le.mp fun q => hin (Or.inr q)
  have h0 : ¬ i < 0 := fun q => hin (Or.inl q)
  obtain ⟨r', hr', cellV, g1, g2, g3, -⟩ := hP.1 kv _ hkv
  rw [hv] at g1
  have hcls := (X.2.1.1.1 0 _ rfl).2
  obtain ⟨kA, comp, k1, k2, k3, -⟩ := (X.2.1.1.2 5 (Z.2 5, _) rfl).2
  have hcomp : comp = Z.1.1 0 := Option.some.inj (k3.symm.trans hcls.1)
  subst hcomp
  obtain ⟨kC, hkC, -⟩ := hcls.2
  refine W.aast X.1.1 X.1.2.1 (hP.1 k _ he) (fun q h => by cases h) (fun h => by cases h) k1 k2 rfl hkC ⟨h0, by show _ < (arrV _ _ _).slots.size; rw [arrV_size]; exact hlt⟩ g1 (fun q h => by rw [g3] at h; cases h) (by rw [g2]; exact hkC) (by rw [g2]; exact va_assign hcls) rfl rfl hdg fun H1 e z oq => ?_
  refine kk ls H1 _ hl (hP.put he ?_ oq hC) (hS.put z oq (hP.2.2 k (by rw [he]; exact fun z => by cases z)))
  show H1[lay k]? = some (vp_cell _ _)
  rw [e]
  rw [vp_cell_q, vp_cell_q, arrV_store]
  congr 2
  funext q
  by_cases hq : q = i.toNatClampNeg
  · subst hq
    simp [updV, va_up, va_rf]
  · simp [updV, va_up, hq]
end XV
end
section
def xwin (l : List (Nat × Cond)) : Bool := l.all fun q => decide (lw_tbl[q.1]? = some q.2) && goodWord q.2
theorem xw_at {l : List (Nat × Cond)} (h : xwin l = true) (i : Nat) {n : Nat} {w : Cond} (hi : l[i]? = some (n, w)) : w ∈ BG := by
  have h1 := List.all_eq_true.mp h _ (List.mem_of_getElem? hi)
  simp only [Bool.and_eq_true, decide_eq_true_eq] at h1
  exact BG_in n h1.1 h1.2
def lW_0 : List (Nat × Cond) := [(0, (Jvm.Cond.selects "Postunion$Routes" ({ cls := "Postunion$Routes", name := "reckon", desc := "()V" } : Jvm.MethodName) ({ cls := "Postunion$Routes", name := "reckon", desc := "()V" } : Jvm.MethodName))), (1, (Jvm.Cond.selects "Postunion$Routes" ({ cls := "Postunion$Routes", name := "reckonDirect", desc := "()V" } : Jvm.MethodName) ({ cls := "Postunion$Routes", name := "reckonDirect", desc := "()V" } : Jvm.MethodName))), (2, (Jvm.Cond.selects "Postunion$Routes" ({ cls := "Postunion$Routes", name := "shorten", desc := "(III)V" } : Jvm.MethodName) ({ cls := "Postunion$Routes", name := "shorten", desc := "(III)V" } : Jvm.MethodName))), (3, (Jvm.Cond.selects "Postunion$Routes" ({ cls := "Postunion$Routes", name := "reckonLeast", desc := "()V" } : Jvm.MethodName) ({ cls := "Postunion$Routes", name := "reckonLeast", desc := "()V" } : Jvm.MethodName))), (4, (Jvm.Cond.selects "Postunion$Routes" ({ cls := "Postunion$Routes", name := "reckonOnward", desc := "()V" } : Jvm.MethodName) ({ cls := "Postunion$Routes", name := "reckonOnward", desc := "()V" } : Jvm.MethodName))), (5, (Jvm.Cond.selects "Postunion$Routes" ({ cls := "Postunion$Routes", name := "firstLegOf", desc := "(II)I" } : Jvm.MethodName) ({ cls := "Postunion$Routes", name := "firstLegOf", desc := "(II)I" } : Jvm.MethodName))), (6, (Jvm.Cond.selects "java/lang/Throwable" ({ cls := "java/lang/Throwable", name := "fillInStackTrace", desc := "(I)Ljava/lang/Throwable;" } : Jvm.MethodName) ({ cls := "java/lang/Throwable", name := "fillInStackTrace", desc := "(I)Ljava/lang/Throwable;" } : Jvm.MethodName))), (7, (Jvm.Cond.selects "Postunion" ({ cls := "Postunion", name := "postOf", desc := "(I)LPostunion$Post;" } : Jvm.MethodName) ({ cls := "Postunion", name := "postOf", desc := "(I)LPostunion$Post;" } : Jvm.MethodName))), (8, (Jvm.Cond.selects "Postunion$Thing" ({ cls := "Postunion$Thing", name := "sign", desc := "()V" } : Jvm.MethodName) ({ cls := "Postunion$Thing", name := "sign", desc := "()V" } : Jvm.MethodName))), (9, (Jvm.Cond.selects "Postunion" ({ cls := "Postunion", name := "thingOf", desc := "(I)LPostunion$Thing;" } : Jvm.MethodName) ({ cls := "Postunion", name := "thingOf", desc := "(I)LPostunion$Thing;" } : Jvm.MethodName))), (10, (Jvm.Cond.selects "Postunion" ({ cls := "Postunion", name := "moveThoseThatTravel", desc := "()I" } : Jvm.MethodName) ({ cls := "Postunion", name := "moveThoseThatTravel", desc := "()I" } : Jvm.MethodName))), (11, (Jvm.Cond.selects "Postunion" ({ cls := "Postunion", name := "endAtTarget", desc := "(LPostunion$Thing;)V" } : Jvm.MethodName) ({ cls := "Postunion", name := "endAtTarget", desc := "(LPostunion$Thing;)V" } : Jvm.MethodName))), (12, (Jvm.Cond.selects "Postunion" ({ cls := "Postunion", name := "oweDue", desc := "(LPostunion$Thing;)V" } : Jvm.MethodName) ({ cls := "Postunion", name := "oweDue", desc := "(LPostunion$Thing;)V" } : Jvm.MethodName))), (13, (Jvm.Cond.selects "Postunion" ({ cls := "Postunion", name := "sendThoseThatWait", desc := "()V" } : Jvm.MethodName) ({ cls := "Postunion", name := "sendThoseThatWait", desc := "()V" } : Jvm.MethodName))), (14, (Jvm.Cond.selects "Postunion" ({ cls := "Postunion", name := "sendOn", desc := "(LPostunion$Thing;)V" } : Jvm.MethodName) ({ cls := "Postunion", name := "sendOn", desc := "(LPostunion$Thing;)V" } : Jvm.MethodName))), (15, (Jvm.Cond.selects "PostunionModel" ({ cls := "PostunionModel", name := "asks", desc := "(Z)Z" } : Jvm.MethodName) ({ cls := "PostunionModel", name := "asks", desc := "(Z)Z" } : Jvm.MethodName))), (16, (Jvm.Cond.selects "PostunionModel" ({ cls := "PostunionModel", name := "isPost", desc := "(I)Z" } : Jvm.MethodName) ({ cls := "PostunionModel", name := "isPost", desc := "(I)Z" } : Jvm.MethodName))), (17, (Jvm.Cond.selects "PostunionModel" ({ cls := "PostunionModel", name := "fails", desc := "(I)I" } : Jvm.MethodName) ({ cls := "PostunionModel", name := "fails", desc := "(I)I" } : Jvm.MethodName))), (18, (Jvm.Cond.selects "PostunionModel" ({ cls := "PostunionModel", name := "daysTold", desc := "(II)I" } : Jvm.MethodName) ({ cls := "PostunionModel", name := "daysTold", desc := "(II)I" } : Jvm.MethodName))), (19, (Jvm.Cond.selects "PostunionModel" ({ cls := "PostunionModel", name := "measures", desc := "(I)V" } : Jvm.MethodName) ({ cls := "PostunionModel", name := "measures", desc := "(I)V" } : Jvm.MethodName))), (20, (Jvm.Cond.selects "PostunionModel" ({ cls := "PostunionModel", name := "nextOf", desc := "(II)I" } : Jvm.MethodName) ({ cls := "PostunionModel", name := "nextOf", desc := "(II)I" } : Jvm.MethodName))), (21, (Jvm.Cond.selects "PostunionModel" ({ cls := "PostunionModel", name := "ends", desc := "(II)Z" } : Jvm.MethodName) ({ cls := "PostunionModel", name := "ends", desc := "(II)Z" } : Jvm.MethodName))), (22, (Jvm.Cond.selects "PostunionModel" ({ cls := "PostunionModel", name := "across", desc := "(II)I" } : Jvm.MethodName) ({ cls := "PostunionModel", name := "across", desc := "(II)I" } : Jvm.MethodName))), (23, (Jvm.Cond.selects "PostunionModel" ({ cls := "PostunionModel", name := "rateOf", desc := "(IIIZ)I" } : Jvm.MethodName) ({ cls := "PostunionModel", name := "rateOf", desc := "(IIIZ)I" } : Jvm.MethodName))), (24, (Jvm.Cond.selects "PostunionModel" ({ cls := "PostunionModel", name := "signs", desc := "(II)V" } : Jvm.MethodName) ({ cls := "PostunionModel", name := "signs", desc := "(II)V" } : Jvm.MethodName))), (25, (Jvm.Cond.selects "PostunionModel" ({ cls := "PostunionModel", name := "isThing", desc := "(I)Z" } : Jvm.MethodName) ({ cls := "PostunionModel", name := "isThing", desc := "(I)Z" } : Jvm.MethodName))), (26, (Jvm.Cond.selects "PostunionModel" ({ cls := "PostunionModel", name := "isUnderWay", desc := "(I)Z" } : Jvm.MethodName) ({ cls := "PostunionModel", name := "isUnderWay", desc := "(I)Z" } : Jvm.MethodName))), (27, (Jvm.Cond.selects "PostunionModel" ({ cls := "PostunionModel", name := "travels", desc := "(I)I" } : Jvm.MethodName) ({ cls := "PostunionModel", name := "travels", desc := "(I)I" } : Jvm.MethodName))), (28, (Jvm.Cond.selects "PostunionModel" ({ cls := "PostunionModel", name := "comes", desc := "(I)I" } : Jvm.MethodName) ({ cls := "PostunionModel", name := "comes", desc := "(I)I" } : Jvm.MethodName))), (29, (Jvm.Cond.selects "PostunionModel" ({ cls := "PostunionModel", name := "taxOf", desc := "(I)J" } : Jvm.MethodName) ({ cls := "PostunionModel", name := "taxOf", desc := "(I)J" } : Jvm.MethodName))), (30, (Jvm.Cond.selects "PostunionModel" ({ cls := "PostunionModel", name := "pays", desc := "(IIJ)V" } : Jvm.MethodName) ({ cls := "PostunionModel", name := "pays", desc := "(IIJ)V" } : Jvm.MethodName))), (31, (Jvm.Cond.selects "PostunionModel" ({ cls := "PostunionModel", name := "leaves", desc := "(I)V" } : Jvm.MethodName) ({ cls := "PostunionModel", name := "leaves", desc := "(I)V" } : Jvm.MethodName))), (32, (Jvm.Cond.selects "PostunionModel" ({ cls := "PostunionModel", name := "paysFor", desc := "(III)I" } : Jvm.MethodName) ({ cls := "PostunionModel", name := "paysFor", desc := "(III)I" } : Jvm.MethodName))), (33, (Jvm.Cond.initialized "PostunionLaw")), (34, (Jvm.Cond.initialized "Postunion")), (35, (Jvm.Cond.initialized "Postunion$Routes")), (36, (Jvm.Cond.initialized "java/util/Arrays")), (37, (Jvm.Cond.initialized "java/lang/Math")), (38, (Jvm.Cond.initialized "java/lang/System")), (39, (Jvm.Cond.initialized "PostunionModel"))]
set_option maxRecDepth 100000 in
theorem tW_0 : xwin lW_0 = true := by decide +kernel
def lW_1 : List (Nat × Cond) := [(40, (Jvm.Cond.initialized "java/lang/Throwable")), (41, (Jvm.Cond.initialized "java/lang/Exception")), (42, (Jvm.Cond.initialized "java/lang/RuntimeException")), (43, (Jvm.Cond.initialized "java/lang/IllegalStateException")), (44, (Jvm.Cond.initialized "Postunion$Post")), (45, (Jvm.Cond.initialized "java/lang/IndexOutOfBoundsException")), (46, (Jvm.Cond.initialized "java/lang/IllegalArgumentException")), (47, (Jvm.Cond.initialized "Postunion$Leg")), (48, (Jvm.Cond.initialized "Postunion$Thing")), (49, (Jvm.Cond.classLink "PostunionLaw" (8 : Nat) "Postunion")), (50, (Jvm.Cond.instantiable "Postunion" (6 : Nat))), (51, (Jvm.Cond.methodLink "PostunionLaw" (100 : Nat) ({ cls := "Postunion", name := "<init>", desc := "()V" } : Jvm.MethodName))), (52, (Jvm.Cond.instanceMethod ({ cls := "Postunion", name := "<init>", desc := "()V" } : Jvm.MethodName))), (53, (Jvm.Cond.code ({ cls := "Postunion", name := "<init>", desc := "()V" } : Jvm.MethodName) prog_1_method_1_code (1 : Nat) (Option.none : Option Jvm.ClassFile.FieldType))), (54, (Jvm.Cond.methodLink "Postunion" (1 : Nat) ({ cls := "java/lang/Object", name := "<init>", desc := "()V" } : Jvm.MethodName))), (55, (Jvm.Cond.instanceMethod ({ cls := "java/lang/Object", name := "<init>", desc := "()V" } : Jvm.MethodName))), (56, (Jvm.Cond.code ({ cls := "java/lang/Object", name := "<init>", desc := "()V" } : Jvm.MethodName) object_method_1_code (1 : Nat) (Option.none : Option Jvm.ClassFile.FieldType))), (57, (Jvm.Cond.classLink "Postunion" (9 : Nat) "Postunion$Post")), (59, (Jvm.Cond.classLink "Postunion" (15 : Nat) "Postunion$Thing")), (61, (Jvm.Cond.classLink "Postunion" (21 : Nat) "Postunion$Routes")), (62, (Jvm.Cond.instantiable "Postunion$Routes" (5 : Nat))), (63, (Jvm.Cond.methodLink "Postunion" (23 : Nat) ({ cls := "Postunion$Routes", name := "<init>", desc := "()V" } : Jvm.MethodName))), (64, (Jvm.Cond.instanceMethod ({ cls := "Postunion$Routes", name := "<init>", desc := "()V" } : Jvm.MethodName))), (65, (Jvm.Cond.code ({ cls := "Postunion$Routes", name := "<init>", desc := "()V" } : Jvm.MethodName) prog_4_method_1_code (1 : Nat) (Option.none : Option Jvm.ClassFile.FieldType))), (66, (Jvm.Cond.methodLink "Postunion$Routes" (3 : Nat) ({ cls := "java/lang/Object", name := "<init>", desc := "()V" } : Jvm.MethodName))), (67, (Jvm.Cond.classLink "Postunion$Routes" (9 : Nat) "Postunion$Leg")), (69, (Jvm.Cond.methodLink "Postunion$Routes" (31 : Nat) ({ cls := "Postunion$Routes", name := "reckon", desc := "()V" } : Jvm.MethodName))), (71, (Jvm.Cond.instanceMethod ({ cls := "Postunion$Routes", name := "reckon", desc := "()V" } : Jvm.MethodName))), (72, (Jvm.Cond.code ({ cls := "Postunion$Routes", name := "reckon", desc := "()V" } : Jvm.MethodName) prog_4_method_11_code (1 : Nat) (Option.none : Option Jvm.ClassFile.FieldType))), (73, (Jvm.Cond.methodLink "Postunion$Routes" (64 : Nat) ({ cls := "Postunion$Routes", name := "reckonDirect", desc := "()V" } : Jvm.MethodName))), (75, (Jvm.Cond.instanceMethod ({ cls := "Postunion$Routes", name := "reckonDirect", desc := "()V" } : Jvm.MethodName))), (76, (Jvm.Cond.code ({ cls := "Postunion$Routes", name := "reckonDirect", desc := "()V" } : Jvm.MethodName) prog_4_method_12_code (3 : Nat) (Option.none : Option Jvm.ClassFile.FieldType))), (77, (Jvm.Cond.constant "Postunion$Routes" (58 : Nat) (1000000 : Int32))), (78, (Jvm.Cond.methodLink "Postunion$Routes" (73 : Nat) ({ cls := "java/util/Arrays", name := "fill", desc := "([II)V" } : Jvm.MethodName))), (79, (Jvm.Cond.static ({ cls := "java/util/Arrays", name := "fill", desc := "([II)V" } : Jvm.MethodName))), (80, (Jvm.Cond.code ({ cls := "java/util/Arrays", name := "fill", desc := "([II)V" } : Jvm.MethodName) prog_18_method_103_code (4 : Nat) (Option.none : Option Jvm.ClassFile.FieldType))), (81, (Jvm.Cond.methodLink "Postunion$Routes" (89 : Nat) ({ cls := "Postunion$Routes", name := "shorten", desc := "(III)V" } : Jvm.MethodName))), (83, (Jvm.Cond.instanceMethod ({ cls := "Postunion$Routes", name := "shorten", desc := "(III)V" } : Jvm.MethodName))), (84, (Jvm.Cond.code ({ cls := "Postunion$Routes", name := "shorten", desc := "(III)V" } : Jvm.MethodName) prog_4_method_13_code (4 : Nat) (Option.none : Option Jvm.ClassFile.FieldType))), (85, (Jvm.Cond.methodLink "Postunion$Routes" (46 : Nat) ({ cls := "Postunion$Routes", name := "cell", desc := "(II)I" } : Jvm.MethodName)))]
set_option maxRecDepth 100000 in
theorem tW_1 : xwin lW_1 = true := by decide +kernel
def lW_2 : List (Nat × Cond) := [(86, (Jvm.Cond.static ({ cls := "Postunion$Routes", name := "cell", desc := "(II)I" } : Jvm.MethodName))), (87, (Jvm.Cond.code ({ cls := "Postunion$Routes", name := "cell", desc := "(II)I" } : Jvm.MethodName) prog_4_method_8_code (2 : Nat) (Option.some Jvm.ClassFile.FieldType.int))), (88, (Jvm.Cond.methodLink "Postunion$Routes" (59 : Nat) ({ cls := "java/lang/Math", name := "min", desc := "(II)I" } : Jvm.MethodName))), (89, (Jvm.Cond.static ({ cls := "java/lang/Math", name := "min", desc := "(II)I" } : Jvm.MethodName))), (90, (Jvm.Cond.code ({ cls := "java/lang/Math", name := "min", desc := "(II)I" } : Jvm.MethodName) prog_13_method_69_code (2 : Nat) (Option.some Jvm.ClassFile.FieldType.int))), (91, (Jvm.Cond.methodLink "Postunion$Routes" (67 : Nat) ({ cls := "Postunion$Routes", name := "reckonLeast", desc := "()V" } : Jvm.MethodName))), (93, (Jvm.Cond.instanceMethod ({ cls := "Postunion$Routes", name := "reckonLeast", desc := "()V" } : Jvm.MethodName))), (94, (Jvm.Cond.code ({ cls := "Postunion$Routes", name := "reckonLeast", desc := "()V" } : Jvm.MethodName) prog_4_method_14_code (5 : Nat) (Option.none : Option Jvm.ClassFile.FieldType))), (95, (Jvm.Cond.methodLink "Postunion$Routes" (93 : Nat) ({ cls := "java/lang/System", name := "arraycopy", desc := "(Ljava/lang/Object;ILjava/lang/Object;II)V" } : Jvm.MethodName))), (96, (Jvm.Cond.static ({ cls := "java/lang/System", name := "arraycopy", desc := "(Ljava/lang/Object;ILjava/lang/Object;II)V" } : Jvm.MethodName))), (97, (Jvm.Cond.native ({ cls := "java/lang/System", name := "arraycopy", desc := "(Ljava/lang/Object;ILjava/lang/Object;II)V" } : Jvm.MethodName))), (98, (Jvm.Cond.methodLink "Postunion$Routes" (70 : Nat) ({ cls := "Postunion$Routes", name := "reckonOnward", desc := "()V" } : Jvm.MethodName))), (100, (Jvm.Cond.instanceMethod ({ cls := "Postunion$Routes", name := "reckonOnward", desc := "()V" } : Jvm.MethodName))), (101, (Jvm.Cond.code ({ cls := "Postunion$Routes", name := "reckonOnward", desc := "()V" } : Jvm.MethodName) prog_4_method_15_code (3 : Nat) (Option.none : Option Jvm.ClassFile.FieldType))), (102, (Jvm.Cond.methodLink "Postunion$Routes" (99 : Nat) ({ cls := "Postunion$Routes", name := "firstLegOf", desc := "(II)I" } : Jvm.MethodName))), (104, (Jvm.Cond.instanceMethod ({ cls := "Postunion$Routes", name := "firstLegOf", desc := "(II)I" } : Jvm.MethodName))), (105, (Jvm.Cond.code ({ cls := "Postunion$Routes", name := "firstLegOf", desc := "(II)I" } : Jvm.MethodName) prog_4_method_16_code (8 : Nat) (Option.some Jvm.ClassFile.FieldType.int))), (106, (Jvm.Cond.methodLink "Postunion$Routes" (102 : Nat) ({ cls := "Postunion$Leg", name := "leadsTo", desc := "(I)I" } : Jvm.MethodName))), (107, (Jvm.Cond.instanceMethod ({ cls := "Postunion$Leg", name := "leadsTo", desc := "(I)I" } : Jvm.MethodName))), (108, (Jvm.Cond.selects "Postunion$Leg" ({ cls := "Postunion$Leg", name := "leadsTo", desc := "(I)I" } : Jvm.MethodName) ({ cls := "Postunion$Leg", name := "leadsTo", desc := "(I)I" } : Jvm.MethodName))), (109, (Jvm.Cond.code ({ cls := "Postunion$Leg", name := "leadsTo", desc := "(I)I" } : Jvm.MethodName) prog_2_method_3_code (2 : Nat) (Option.some Jvm.ClassFile.FieldType.int))), (110, (Jvm.Cond.fieldLink "Postunion$Routes" (11 : Nat) "Postunion$Routes" "legs" "[LPostunion$Leg;")), (111, (Jvm.Cond.fieldLink "Postunion$Routes" (17 : Nat) "Postunion$Routes" "direct" "[I")), (112, (Jvm.Cond.fieldLink "Postunion$Routes" (21 : Nat) "Postunion$Routes" "least" "[I")), (113, (Jvm.Cond.fieldLink "Postunion$Routes" (24 : Nat) "Postunion$Routes" "onward" "[I")), (114, (Jvm.Cond.fieldLink "Postunion$Routes" (27 : Nat) "Postunion$Routes" "legCount" "I")), (115, (Jvm.Cond.laysFinal "Postunion$Routes" "Postunion$Routes" "legs" "[LPostunion$Leg;")), (117, (Jvm.Cond.laysFinal "Postunion$Routes" "Postunion$Routes" "direct" "[I")), (119, (Jvm.Cond.laysFinal "Postunion$Routes" "Postunion$Routes" "least" "[I")), (121, (Jvm.Cond.laysFinal "Postunion$Routes" "Postunion$Routes" "onward" "[I")), (123, (Jvm.Cond.lays "Postunion$Routes" "Postunion$Routes" "legCount" "I")), (126, (Jvm.Cond.arrayClass Jvm.ClassFile.FieldType.int)), (127, (Jvm.Cond.fieldLink "Postunion" (11 : Nat) "Postunion" "posts" "[LPostunion$Post;")), (128, (Jvm.Cond.fieldLink "Postunion" (17 : Nat) "Postunion" "things" "[LPostunion$Thing;")), (129, (Jvm.Cond.fieldLink "Postunion" (24 : Nat) "Postunion" "routes" "LPostunion$Routes;")), (130, (Jvm.Cond.fieldLink "Postunion" (28 : Nat) "Postunion" "postCount" "I")), (131, (Jvm.Cond.fieldLink "Postunion" (32 : Nat) "Postunion" "thingCount" "I")), (132, (Jvm.Cond.fieldLink "Postunion" (35 : Nat) "Postunion" "isOfSamples" "Z")), (133, (Jvm.Cond.laysFinal "Postunion" "Postunion" "posts" "[LPostunion$Post;")), (135, (Jvm.Cond.laysFinal "Postunion" "Postunion" "things" "[LPostunion$Thing;"))]
set_option maxRecDepth 100000 in
theorem tW_2 : xwin lW_2 = true := by decide +kernel
def lW_3 : List (Nat × Cond) := [(137, (Jvm.Cond.laysFinal "Postunion" "Postunion" "routes" "LPostunion$Routes;")), (139, (Jvm.Cond.lays "Postunion" "Postunion" "postCount" "I")), (141, (Jvm.Cond.lays "Postunion" "Postunion" "thingCount" "I")), (143, (Jvm.Cond.lays "Postunion" "Postunion" "isOfSamples" "Z")), (146, (Jvm.Cond.methodLink "PostunionLaw" (167 : Nat) ({ cls := "Postunion", name := "sample", desc := "(Z)Z" } : Jvm.MethodName))), (147, (Jvm.Cond.instanceMethod ({ cls := "Postunion", name := "sample", desc := "(Z)Z" } : Jvm.MethodName))), (148, (Jvm.Cond.selects "Postunion" ({ cls := "Postunion", name := "sample", desc := "(Z)Z" } : Jvm.MethodName) ({ cls := "Postunion", name := "sample", desc := "(Z)Z" } : Jvm.MethodName))), (149, (Jvm.Cond.code ({ cls := "Postunion", name := "sample", desc := "(Z)Z" } : Jvm.MethodName) prog_1_method_19_code (3 : Nat) (Option.some Jvm.ClassFile.FieldType.boolean))), (150, (Jvm.Cond.methodLink "PostunionLaw" (104 : Nat) ({ cls := "PostunionLaw", name := "post", desc := "(LPostunion;[J)I" } : Jvm.MethodName))), (151, (Jvm.Cond.static ({ cls := "PostunionLaw", name := "post", desc := "(LPostunion;[J)I" } : Jvm.MethodName))), (152, (Jvm.Cond.codeWith ({ cls := "PostunionLaw", name := "post", desc := "(LPostunion;[J)I" } : Jvm.MethodName) method_3_code (3 : Nat) (Option.some Jvm.ClassFile.FieldType.int) [((0 : Nat), (8 : Nat), (11 : Nat), (13 : Nat))])), (153, (Jvm.Cond.classLink "PostunionLaw" (13 : Nat) "java/lang/IllegalStateException")), (154, (Jvm.Cond.methodLink "PostunionLaw" (7 : Nat) ({ cls := "Postunion", name := "post", desc := "()I" } : Jvm.MethodName))), (155, (Jvm.Cond.instanceMethod ({ cls := "Postunion", name := "post", desc := "()I" } : Jvm.MethodName))), (156, (Jvm.Cond.selects "Postunion" ({ cls := "Postunion", name := "post", desc := "()I" } : Jvm.MethodName) ({ cls := "Postunion", name := "post", desc := "()I" } : Jvm.MethodName))), (157, (Jvm.Cond.code ({ cls := "Postunion", name := "post", desc := "()I" } : Jvm.MethodName) prog_1_method_2_code (1 : Nat) (Option.some Jvm.ClassFile.FieldType.int))), (158, (Jvm.Cond.classLink "Postunion" (39 : Nat) "java/lang/IllegalStateException")), (159, (Jvm.Cond.instantiable "java/lang/IllegalStateException" (6 : Nat))), (167, (Jvm.Cond.selects "java/lang/IllegalStateException" ({ cls := "java/lang/Throwable", name := "fillInStackTrace", desc := "(I)Ljava/lang/Throwable;" } : Jvm.MethodName) ({ cls := "java/lang/Throwable", name := "fillInStackTrace", desc := "(I)Ljava/lang/Throwable;" } : Jvm.MethodName))), (168, (Jvm.Cond.selects "java/lang/IllegalStateException" ({ cls := "java/lang/Throwable", name := "fillInStackTrace", desc := "()Ljava/lang/Throwable;" } : Jvm.MethodName) ({ cls := "java/lang/Throwable", name := "fillInStackTrace", desc := "()Ljava/lang/Throwable;" } : Jvm.MethodName))), (169, (Jvm.Cond.lays "java/lang/IllegalStateException" "java/lang/Throwable" "cause" "Ljava/lang/Throwable;")), (170, (Jvm.Cond.lays "java/lang/Throwable" "java/lang/Throwable" "cause" "Ljava/lang/Throwable;")), (171, (Jvm.Cond.lays "java/lang/IllegalStateException" "java/lang/Throwable" "stackTrace" "[Ljava/lang/StackTraceElement;")), (172, (Jvm.Cond.lays "java/lang/Throwable" "java/lang/Throwable" "stackTrace" "[Ljava/lang/StackTraceElement;")), (173, (Jvm.Cond.lays "java/lang/IllegalStateException" "java/lang/Throwable" "suppressedExceptions" "Ljava/util/List;")), (174, (Jvm.Cond.lays "java/lang/Throwable" "java/lang/Throwable" "suppressedExceptions" "Ljava/util/List;")), (175, (Jvm.Cond.lays "java/lang/IllegalStateException" "java/lang/Throwable" "detailMessage" "Ljava/lang/String;")), (176, (Jvm.Cond.lays "java/lang/Throwable" "java/lang/Throwable" "detailMessage" "Ljava/lang/String;")), (177, (Jvm.Cond.lays "java/lang/IllegalStateException" "java/lang/Throwable" "backtrace" "Ljava/lang/Object;")), (178, (Jvm.Cond.lays "java/lang/Throwable" "java/lang/Throwable" "backtrace" "Ljava/lang/Object;")), (179, (Jvm.Cond.fieldLink "java/lang/Throwable" (198 : Nat) "java/lang/Throwable" "backtrace" "Ljava/lang/Object;")), (181, (Jvm.Cond.instanceMethod ({ cls := "java/lang/Throwable", name := "<init>", desc := "()V" } : Jvm.MethodName))), (182, (Jvm.Cond.code ({ cls := "java/lang/Throwable", name := "<init>", desc := "()V" } : Jvm.MethodName) prog_17_method_1_code (1 : Nat) (Option.none : Option Jvm.ClassFile.FieldType))), (183, (Jvm.Cond.methodLink "java/lang/Throwable" (1 : Nat) ({ cls := "java/lang/Object", name := "<init>", desc := "()V" } : Jvm.MethodName))), (184, (Jvm.Cond.fieldLink "java/lang/Throwable" (13 : Nat) "java/lang/Throwable" "UNASSIGNED_STACK" "[Ljava/lang/StackTraceElement;")), (186, (Jvm.Cond.fieldLink "java/lang/Throwable" (20 : Nat) "java/lang/Throwable" "SUPPRESSED_SENTINEL" "Ljava/util/List;")), (188, (Jvm.Cond.methodLink "java/lang/Throwable" (27 : Nat) ({ cls := "java/lang/Throwable", name := "fillInStackTrace", desc := "()Ljava/lang/Throwable;" } : Jvm.MethodName))), (189, (Jvm.Cond.instanceMethod ({ cls := "java/lang/Throwable", name := "fillInStackTrace", desc := "()Ljava/lang/Throwable;" } : Jvm.MethodName))), (191, (Jvm.Cond.selects "java/lang/IllegalArgumentException" ({ cls := "java/lang/Throwable", name := "fillInStackTrace", desc := "()Ljava/lang/Throwable;" } : Jvm.MethodName) ({ cls := "java/lang/Throwable", name := "fillInStackTrace", desc := "()Ljava/lang/Throwable;" } : Jvm.MethodName))), (192, (Jvm.Cond.selects "java/lang/IndexOutOfBoundsException" ({ cls := "java/lang/Throwable", name := "fillInStackTrace", desc := "()Ljava/lang/Throwable;" } : Jvm.MethodName) ({ cls := "java/lang/Throwable", name := "fillInStackTrace", desc := "()Ljava/lang/Throwable;" } : Jvm.MethodName)))]
set_option maxRecDepth 100000 in
theorem tW_3 : xwin lW_3 = true := by decide +kernel
def lW_4 : List (Nat × Cond) := [(194, (Jvm.Cond.methodLink "java/lang/Throwable" (202 : Nat) ({ cls := "java/lang/Throwable", name := "fillInStackTrace", desc := "(I)Ljava/lang/Throwable;" } : Jvm.MethodName))), (196, (Jvm.Cond.instanceMethod ({ cls := "java/lang/Throwable", name := "fillInStackTrace", desc := "(I)Ljava/lang/Throwable;" } : Jvm.MethodName))), (197, (Jvm.Cond.instantiable "java/lang/Throwable" (6 : Nat))), (198, (Jvm.Cond.native ({ cls := "java/lang/Throwable", name := "fillInStackTrace", desc := "(I)Ljava/lang/Throwable;" } : Jvm.MethodName))), (200, (Jvm.Cond.methodLink "Postunion" (43 : Nat) ({ cls := "java/lang/IllegalStateException", name := "<init>", desc := "(Ljava/lang/String;)V" } : Jvm.MethodName))), (201, (Jvm.Cond.instanceMethod ({ cls := "java/lang/IllegalStateException", name := "<init>", desc := "(Ljava/lang/String;)V" } : Jvm.MethodName))), (202, (Jvm.Cond.code ({ cls := "java/lang/IllegalStateException", name := "<init>", desc := "(Ljava/lang/String;)V" } : Jvm.MethodName) prog_11_method_2_code (2 : Nat) (Option.none : Option Jvm.ClassFile.FieldType))), (203, (Jvm.Cond.methodLink "java/lang/IllegalStateException" (7 : Nat) ({ cls := "java/lang/RuntimeException", name := "<init>", desc := "(Ljava/lang/String;)V" } : Jvm.MethodName))), (204, (Jvm.Cond.instanceMethod ({ cls := "java/lang/RuntimeException", name := "<init>", desc := "(Ljava/lang/String;)V" } : Jvm.MethodName))), (205, (Jvm.Cond.code ({ cls := "java/lang/RuntimeException", name := "<init>", desc := "(Ljava/lang/String;)V" } : Jvm.MethodName) prog_14_method_2_code (2 : Nat) (Option.none : Option Jvm.ClassFile.FieldType))), (206, (Jvm.Cond.methodLink "java/lang/RuntimeException" (7 : Nat) ({ cls := "java/lang/Exception", name := "<init>", desc := "(Ljava/lang/String;)V" } : Jvm.MethodName))), (207, (Jvm.Cond.instanceMethod ({ cls := "java/lang/Exception", name := "<init>", desc := "(Ljava/lang/String;)V" } : Jvm.MethodName))), (208, (Jvm.Cond.code ({ cls := "java/lang/Exception", name := "<init>", desc := "(Ljava/lang/String;)V" } : Jvm.MethodName) prog_9_method_2_code (2 : Nat) (Option.none : Option Jvm.ClassFile.FieldType))), (209, (Jvm.Cond.methodLink "java/lang/Exception" (7 : Nat) ({ cls := "java/lang/Throwable", name := "<init>", desc := "(Ljava/lang/String;)V" } : Jvm.MethodName))), (210, (Jvm.Cond.instanceMethod ({ cls := "java/lang/Throwable", name := "<init>", desc := "(Ljava/lang/String;)V" } : Jvm.MethodName))), (211, (Jvm.Cond.code ({ cls := "java/lang/Throwable", name := "<init>", desc := "(Ljava/lang/String;)V" } : Jvm.MethodName) prog_17_method_2_code (2 : Nat) (Option.none : Option Jvm.ClassFile.FieldType))), (212, (Jvm.Cond.fieldLink "java/lang/Throwable" (198 : Nat) "java/lang/Throwable" "backtrace" "Ljava/lang/Object;")), (213, (Jvm.Cond.fieldLink "java/lang/Throwable" (31 : Nat) "java/lang/Throwable" "detailMessage" "Ljava/lang/String;")), (214, (Jvm.Cond.fieldLink "java/lang/Throwable" (7 : Nat) "java/lang/Throwable" "cause" "Ljava/lang/Throwable;")), (215, (Jvm.Cond.fieldLink "java/lang/Throwable" (17 : Nat) "java/lang/Throwable" "stackTrace" "[Ljava/lang/StackTraceElement;")), (216, (Jvm.Cond.fieldLink "java/lang/Throwable" (24 : Nat) "java/lang/Throwable" "suppressedExceptions" "Ljava/util/List;")), (221, (Jvm.Cond.lays "java/lang/IllegalStateException" "java/lang/Throwable" "depth" "I")), (225, (Jvm.Cond.arrayClass Jvm.ClassFile.FieldType.byte)), (226, (Jvm.Cond.instantiable "Postunion$Post" (10 : Nat))), (227, (Jvm.Cond.methodLink "Postunion" (46 : Nat) ({ cls := "Postunion$Post", name := "<init>", desc := "(I)V" } : Jvm.MethodName))), (228, (Jvm.Cond.instanceMethod ({ cls := "Postunion$Post", name := "<init>", desc := "(I)V" } : Jvm.MethodName))), (229, (Jvm.Cond.code ({ cls := "Postunion$Post", name := "<init>", desc := "(I)V" } : Jvm.MethodName) prog_3_method_1_code (2 : Nat) (Option.none : Option Jvm.ClassFile.FieldType))), (230, (Jvm.Cond.methodLink "Postunion$Post" (3 : Nat) ({ cls := "java/lang/Object", name := "<init>", desc := "()V" } : Jvm.MethodName))), (231, (Jvm.Cond.fieldLink "Postunion$Post" (43 : Nat) "Postunion$Post" "number" "I")), (232, (Jvm.Cond.fieldLink "Postunion$Leg" (26 : Nat) "Postunion$Post" "number" "I")), (233, (Jvm.Cond.fieldLink "Postunion$Routes" (41 : Nat) "Postunion$Post" "number" "I")), (234, (Jvm.Cond.fieldLink "Postunion$Thing" (92 : Nat) "Postunion$Post" "number" "I")), (235, (Jvm.Cond.fieldLink "Postunion" (159 : Nat) "Postunion$Post" "number" "I")), (236, (Jvm.Cond.fieldLink "Postunion$Post" (9 : Nat) "Postunion$Post" "firstRates" "[I")), (237, (Jvm.Cond.fieldLink "Postunion$Thing" (66 : Nat) "Postunion$Post" "firstRates" "[I")), (238, (Jvm.Cond.fieldLink "Postunion" (60 : Nat) "Postunion$Post" "firstRates" "[I")), (239, (Jvm.Cond.fieldLink "Postunion$Post" (15 : Nat) "Postunion$Post" "furtherRates" "[I")), (240, (Jvm.Cond.fieldLink "Postunion" (64 : Nat) "Postunion$Post" "furtherRates" "[I")), (241, (Jvm.Cond.fieldLink "Postunion$Post" (18 : Nat) "Postunion$Post" "dues" "[I")), (242, (Jvm.Cond.fieldLink "Postunion" (67 : Nat) "Postunion$Post" "dues" "[I"))]
set_option maxRecDepth 100000 in
theorem tW_4 : xwin lW_4 = true := by decide +kernel
def lW_5 : List (Nat × Cond) := [(243, (Jvm.Cond.fieldLink "Postunion$Post" (21 : Nat) "Postunion$Post" "countedFor" "[J")), (244, (Jvm.Cond.fieldLink "Postunion" (236 : Nat) "Postunion$Post" "countedFor" "[J")), (245, (Jvm.Cond.fieldLink "Postunion$Post" (25 : Nat) "Postunion$Post" "chargeTold" "I")), (246, (Jvm.Cond.fieldLink "Postunion" (70 : Nat) "Postunion$Post" "chargeTold" "I")), (247, (Jvm.Cond.fieldLink "Postunion$Post" (29 : Nat) "Postunion$Post" "couponPrice" "I")), (248, (Jvm.Cond.fieldLink "Postunion" (73 : Nat) "Postunion$Post" "couponPrice" "I")), (249, (Jvm.Cond.fieldLink "Postunion$Post" (32 : Nat) "Postunion$Post" "isStriking" "Z")), (250, (Jvm.Cond.fieldLink "Postunion" (76 : Nat) "Postunion$Post" "isStriking" "Z")), (251, (Jvm.Cond.fieldLink "Postunion$Post" (36 : Nat) "Postunion$Post" "accountCents" "J")), (252, (Jvm.Cond.fieldLink "Postunion" (233 : Nat) "Postunion$Post" "accountCents" "J")), (253, (Jvm.Cond.fieldLink "Postunion$Post" (40 : Nat) "Postunion$Post" "tillCents" "J")), (254, (Jvm.Cond.fieldLink "Postunion" (132 : Nat) "Postunion$Post" "tillCents" "J")), (255, (Jvm.Cond.laysFinal "Postunion$Post" "Postunion$Post" "number" "I")), (257, (Jvm.Cond.laysFinal "Postunion$Post" "Postunion$Post" "firstRates" "[I")), (259, (Jvm.Cond.laysFinal "Postunion$Post" "Postunion$Post" "furtherRates" "[I")), (261, (Jvm.Cond.laysFinal "Postunion$Post" "Postunion$Post" "dues" "[I")), (263, (Jvm.Cond.laysFinal "Postunion$Post" "Postunion$Post" "countedFor" "[J")), (265, (Jvm.Cond.lays "Postunion$Post" "Postunion$Post" "chargeTold" "I")), (267, (Jvm.Cond.lays "Postunion$Post" "Postunion$Post" "couponPrice" "I")), (269, (Jvm.Cond.lays "Postunion$Post" "Postunion$Post" "isStriking" "Z")), (271, (Jvm.Cond.lays "Postunion$Post" "Postunion$Post" "accountCents" "J")), (273, (Jvm.Cond.lays "Postunion$Post" "Postunion$Post" "tillCents" "J")), (276, (Jvm.Cond.arrayClass Jvm.ClassFile.FieldType.long)), (277, (Jvm.Cond.methodLink "PostunionLaw" (113 : Nat) ({ cls := "PostunionLaw", name := "rates", desc := "(LPostunion;IIII)I" } : Jvm.MethodName))), (278, (Jvm.Cond.static ({ cls := "PostunionLaw", name := "rates", desc := "(LPostunion;IIII)I" } : Jvm.MethodName))), (279, (Jvm.Cond.codeWith ({ cls := "PostunionLaw", name := "rates", desc := "(LPostunion;IIII)I" } : Jvm.MethodName) method_4_code (6 : Nat) (Option.some Jvm.ClassFile.FieldType.int) [((0 : Nat), (9 : Nat), (12 : Nat), (19 : Nat)), ((0 : Nat), (9 : Nat), (16 : Nat), (21 : Nat))])), (280, (Jvm.Cond.classLink "PostunionLaw" (19 : Nat) "java/lang/IndexOutOfBoundsException")), (281, (Jvm.Cond.classLink "PostunionLaw" (21 : Nat) "java/lang/IllegalArgumentException")), (282, (Jvm.Cond.methodLink "PostunionLaw" (15 : Nat) ({ cls := "Postunion", name := "rates", desc := "(IIII)V" } : Jvm.MethodName))), (283, (Jvm.Cond.instanceMethod ({ cls := "Postunion", name := "rates", desc := "(IIII)V" } : Jvm.MethodName))), (284, (Jvm.Cond.selects "Postunion" ({ cls := "Postunion", name := "rates", desc := "(IIII)V" } : Jvm.MethodName) ({ cls := "Postunion", name := "rates", desc := "(IIII)V" } : Jvm.MethodName))), (285, (Jvm.Cond.code ({ cls := "Postunion", name := "rates", desc := "(IIII)V" } : Jvm.MethodName) prog_1_method_3_code (6 : Nat) (Option.none : Option Jvm.ClassFile.FieldType))), (286, (Jvm.Cond.methodLink "Postunion" (49 : Nat) ({ cls := "Postunion", name := "postOf", desc := "(I)LPostunion$Post;" } : Jvm.MethodName))), (288, (Jvm.Cond.instanceMethod ({ cls := "Postunion", name := "postOf", desc := "(I)LPostunion$Post;" } : Jvm.MethodName))), (289, (Jvm.Cond.code ({ cls := "Postunion", name := "postOf", desc := "(I)LPostunion$Post;" } : Jvm.MethodName) prog_1_method_28_code (2 : Nat) (Option.some (Jvm.ClassFile.FieldType.object "Postunion$Post")))), (290, (Jvm.Cond.classLink "Postunion" (94 : Nat) "java/lang/IndexOutOfBoundsException")), (291, (Jvm.Cond.instantiable "java/lang/IndexOutOfBoundsException" (6 : Nat))), (293, (Jvm.Cond.selects "java/lang/IndexOutOfBoundsException" ({ cls := "java/lang/Throwable", name := "fillInStackTrace", desc := "(I)Ljava/lang/Throwable;" } : Jvm.MethodName) ({ cls := "java/lang/Throwable", name := "fillInStackTrace", desc := "(I)Ljava/lang/Throwable;" } : Jvm.MethodName))), (294, (Jvm.Cond.lays "java/lang/IndexOutOfBoundsException" "java/lang/Throwable" "cause" "Ljava/lang/Throwable;")), (295, (Jvm.Cond.lays "java/lang/IndexOutOfBoundsException" "java/lang/Throwable" "stackTrace" "[Ljava/lang/StackTraceElement;"))]
set_option maxRecDepth 100000 in
theorem tW_5 : xwin lW_5 = true := by decide +kernel
def lW_6 : List (Nat × Cond) := [(296, (Jvm.Cond.lays "java/lang/IndexOutOfBoundsException" "java/lang/Throwable" "suppressedExceptions" "Ljava/util/List;")), (297, (Jvm.Cond.lays "java/lang/IndexOutOfBoundsException" "java/lang/Throwable" "detailMessage" "Ljava/lang/String;")), (298, (Jvm.Cond.lays "java/lang/IndexOutOfBoundsException" "java/lang/Throwable" "backtrace" "Ljava/lang/Object;")), (300, (Jvm.Cond.methodLink "Postunion" (98 : Nat) ({ cls := "java/lang/IndexOutOfBoundsException", name := "<init>", desc := "(Ljava/lang/String;)V" } : Jvm.MethodName))), (301, (Jvm.Cond.instanceMethod ({ cls := "java/lang/IndexOutOfBoundsException", name := "<init>", desc := "(Ljava/lang/String;)V" } : Jvm.MethodName))), (302, (Jvm.Cond.code ({ cls := "java/lang/IndexOutOfBoundsException", name := "<init>", desc := "(Ljava/lang/String;)V" } : Jvm.MethodName) prog_12_method_2_code (2 : Nat) (Option.none : Option Jvm.ClassFile.FieldType))), (303, (Jvm.Cond.methodLink "java/lang/IndexOutOfBoundsException" (7 : Nat) ({ cls := "java/lang/RuntimeException", name := "<init>", desc := "(Ljava/lang/String;)V" } : Jvm.MethodName))), (304, (Jvm.Cond.lays "java/lang/IndexOutOfBoundsException" "java/lang/Throwable" "depth" "I")), (306, (Jvm.Cond.methodLink "Postunion" (53 : Nat) ({ cls := "Postunion", name := "demandKind", desc := "(I)V" } : Jvm.MethodName))), (307, (Jvm.Cond.static ({ cls := "Postunion", name := "demandKind", desc := "(I)V" } : Jvm.MethodName))), (308, (Jvm.Cond.code ({ cls := "Postunion", name := "demandKind", desc := "(I)V" } : Jvm.MethodName) prog_1_method_31_code (1 : Nat) (Option.none : Option Jvm.ClassFile.FieldType))), (309, (Jvm.Cond.methodLink "Postunion" (56 : Nat) ({ cls := "Postunion", name := "demandWithin", desc := "(III)V" } : Jvm.MethodName))), (310, (Jvm.Cond.static ({ cls := "Postunion", name := "demandWithin", desc := "(III)V" } : Jvm.MethodName))), (311, (Jvm.Cond.code ({ cls := "Postunion", name := "demandWithin", desc := "(III)V" } : Jvm.MethodName) prog_1_method_30_code (3 : Nat) (Option.none : Option Jvm.ClassFile.FieldType))), (312, (Jvm.Cond.classLink "Postunion" (79 : Nat) "java/lang/IllegalArgumentException")), (313, (Jvm.Cond.instantiable "java/lang/IllegalArgumentException" (6 : Nat))), (315, (Jvm.Cond.selects "java/lang/IllegalArgumentException" ({ cls := "java/lang/Throwable", name := "fillInStackTrace", desc := "(I)Ljava/lang/Throwable;" } : Jvm.MethodName) ({ cls := "java/lang/Throwable", name := "fillInStackTrace", desc := "(I)Ljava/lang/Throwable;" } : Jvm.MethodName))), (316, (Jvm.Cond.lays "java/lang/IllegalArgumentException" "java/lang/Throwable" "cause" "Ljava/lang/Throwable;")), (317, (Jvm.Cond.lays "java/lang/IllegalArgumentException" "java/lang/Throwable" "stackTrace" "[Ljava/lang/StackTraceElement;")), (318, (Jvm.Cond.lays "java/lang/IllegalArgumentException" "java/lang/Throwable" "suppressedExceptions" "Ljava/util/List;")), (319, (Jvm.Cond.lays "java/lang/IllegalArgumentException" "java/lang/Throwable" "detailMessage" "Ljava/lang/String;")), (320, (Jvm.Cond.lays "java/lang/IllegalArgumentException" "java/lang/Throwable" "backtrace" "Ljava/lang/Object;")), (322, (Jvm.Cond.methodLink "Postunion" (83 : Nat) ({ cls := "java/lang/IllegalArgumentException", name := "<init>", desc := "(Ljava/lang/String;)V" } : Jvm.MethodName))), (323, (Jvm.Cond.instanceMethod ({ cls := "java/lang/IllegalArgumentException", name := "<init>", desc := "(Ljava/lang/String;)V" } : Jvm.MethodName))), (324, (Jvm.Cond.code ({ cls := "java/lang/IllegalArgumentException", name := "<init>", desc := "(Ljava/lang/String;)V" } : Jvm.MethodName) prog_10_method_2_code (2 : Nat) (Option.none : Option Jvm.ClassFile.FieldType))), (325, (Jvm.Cond.methodLink "java/lang/IllegalArgumentException" (7 : Nat) ({ cls := "java/lang/RuntimeException", name := "<init>", desc := "(Ljava/lang/String;)V" } : Jvm.MethodName))), (326, (Jvm.Cond.lays "java/lang/IllegalArgumentException" "java/lang/Throwable" "depth" "I")), (328, (Jvm.Cond.methodLink "PostunionLaw" (117 : Nat) ({ cls := "PostunionLaw", name := "due", desc := "(LPostunion;III[J)I" } : Jvm.MethodName))), (329, (Jvm.Cond.static ({ cls := "PostunionLaw", name := "due", desc := "(LPostunion;III[J)I" } : Jvm.MethodName))), (330, (Jvm.Cond.codeWith ({ cls := "PostunionLaw", name := "due", desc := "(LPostunion;III[J)I" } : Jvm.MethodName) method_5_code (6 : Nat) (Option.some Jvm.ClassFile.FieldType.int) [((0 : Nat), (12 : Nat), (15 : Nat), (19 : Nat)), ((0 : Nat), (12 : Nat), (19 : Nat), (21 : Nat))])), (331, (Jvm.Cond.methodLink "PostunionLaw" (23 : Nat) ({ cls := "Postunion", name := "due", desc := "(III)I" } : Jvm.MethodName))), (332, (Jvm.Cond.instanceMethod ({ cls := "Postunion", name := "due", desc := "(III)I" } : Jvm.MethodName))), (333, (Jvm.Cond.selects "Postunion" ({ cls := "Postunion", name := "due", desc := "(III)I" } : Jvm.MethodName) ({ cls := "Postunion", name := "due", desc := "(III)I" } : Jvm.MethodName))), (334, (Jvm.Cond.code ({ cls := "Postunion", name := "due", desc := "(III)I" } : Jvm.MethodName) prog_1_method_4_code (6 : Nat) (Option.some Jvm.ClassFile.FieldType.int))), (335, (Jvm.Cond.methodLink "PostunionLaw" (121 : Nat) ({ cls := "PostunionLaw", name := "charge", desc := "(LPostunion;II[J)I" } : Jvm.MethodName))), (336, (Jvm.Cond.static ({ cls := "PostunionLaw", name := "charge", desc := "(LPostunion;II[J)I" } : Jvm.MethodName))), (337, (Jvm.Cond.codeWith ({ cls := "PostunionLaw", name := "charge", desc := "(LPostunion;II[J)I" } : Jvm.MethodName) method_6_code (5 : Nat) (Option.some Jvm.ClassFile.FieldType.int) [((0 : Nat), (10 : Nat), (13 : Nat), (19 : Nat)), ((0 : Nat), (10 : Nat), (17 : Nat), (21 : Nat))])), (338, (Jvm.Cond.methodLink "PostunionLaw" (27 : Nat) ({ cls := "Postunion", name := "charge", desc := "(II)I" } : Jvm.MethodName))), (339, (Jvm.Cond.instanceMethod ({ cls := "Postunion", name := "charge", desc := "(II)I" } : Jvm.MethodName))), (340, (Jvm.Cond.selects "Postunion" ({ cls := "Postunion", name := "charge", desc := "(II)I" } : Jvm.MethodName) ({ cls := "Postunion", name := "charge", desc := "(II)I" } : Jvm.MethodName)))]
set_option maxRecDepth 100000 in
theorem tW_6 : xwin lW_6 = true := by decide +kernel
def lW_7 : List (Nat × Cond) := [(341, (Jvm.Cond.code ({ cls := "Postunion", name := "charge", desc := "(II)I" } : Jvm.MethodName) prog_1_method_5_code (5 : Nat) (Option.some Jvm.ClassFile.FieldType.int))), (342, (Jvm.Cond.methodLink "PostunionLaw" (125 : Nat) ({ cls := "PostunionLaw", name := "coupon", desc := "(LPostunion;II[J)I" } : Jvm.MethodName))), (343, (Jvm.Cond.static ({ cls := "PostunionLaw", name := "coupon", desc := "(LPostunion;II[J)I" } : Jvm.MethodName))), (344, (Jvm.Cond.codeWith ({ cls := "PostunionLaw", name := "coupon", desc := "(LPostunion;II[J)I" } : Jvm.MethodName) method_7_code (5 : Nat) (Option.some Jvm.ClassFile.FieldType.int) [((0 : Nat), (10 : Nat), (13 : Nat), (19 : Nat)), ((0 : Nat), (10 : Nat), (17 : Nat), (21 : Nat))])), (345, (Jvm.Cond.methodLink "PostunionLaw" (31 : Nat) ({ cls := "Postunion", name := "coupon", desc := "(II)I" } : Jvm.MethodName))), (346, (Jvm.Cond.instanceMethod ({ cls := "Postunion", name := "coupon", desc := "(II)I" } : Jvm.MethodName))), (347, (Jvm.Cond.selects "Postunion" ({ cls := "Postunion", name := "coupon", desc := "(II)I" } : Jvm.MethodName) ({ cls := "Postunion", name := "coupon", desc := "(II)I" } : Jvm.MethodName))), (348, (Jvm.Cond.code ({ cls := "Postunion", name := "coupon", desc := "(II)I" } : Jvm.MethodName) prog_1_method_6_code (5 : Nat) (Option.some Jvm.ClassFile.FieldType.int))), (349, (Jvm.Cond.methodLink "PostunionLaw" (128 : Nat) ({ cls := "PostunionLaw", name := "strike", desc := "(LPostunion;IZ[J)I" } : Jvm.MethodName))), (350, (Jvm.Cond.static ({ cls := "PostunionLaw", name := "strike", desc := "(LPostunion;IZ[J)I" } : Jvm.MethodName))), (351, (Jvm.Cond.codeWith ({ cls := "PostunionLaw", name := "strike", desc := "(LPostunion;IZ[J)I" } : Jvm.MethodName) method_8_code (5 : Nat) (Option.some Jvm.ClassFile.FieldType.int) [((0 : Nat), (17 : Nat), (20 : Nat), (19 : Nat))])), (352, (Jvm.Cond.methodLink "PostunionLaw" (34 : Nat) ({ cls := "Postunion", name := "strike", desc := "(IZ)Z" } : Jvm.MethodName))), (353, (Jvm.Cond.instanceMethod ({ cls := "Postunion", name := "strike", desc := "(IZ)Z" } : Jvm.MethodName))), (354, (Jvm.Cond.selects "Postunion" ({ cls := "Postunion", name := "strike", desc := "(IZ)Z" } : Jvm.MethodName) ({ cls := "Postunion", name := "strike", desc := "(IZ)Z" } : Jvm.MethodName))), (355, (Jvm.Cond.code ({ cls := "Postunion", name := "strike", desc := "(IZ)Z" } : Jvm.MethodName) prog_1_method_7_code (5 : Nat) (Option.some Jvm.ClassFile.FieldType.boolean))), (356, (Jvm.Cond.methodLink "PostunionLaw" (132 : Nat) ({ cls := "PostunionLaw", name := "leg", desc := "(LPostunion;III[J)I" } : Jvm.MethodName))), (357, (Jvm.Cond.static ({ cls := "PostunionLaw", name := "leg", desc := "(LPostunion;III[J)I" } : Jvm.MethodName))), (358, (Jvm.Cond.codeWith ({ cls := "PostunionLaw", name := "leg", desc := "(LPostunion;III[J)I" } : Jvm.MethodName) method_9_code (6 : Nat) (Option.some Jvm.ClassFile.FieldType.int) [((0 : Nat), (12 : Nat), (15 : Nat), (19 : Nat)), ((0 : Nat), (12 : Nat), (19 : Nat), (21 : Nat)), ((0 : Nat), (12 : Nat), (23 : Nat), (13 : Nat))])), (359, (Jvm.Cond.methodLink "PostunionLaw" (38 : Nat) ({ cls := "Postunion", name := "leg", desc := "(III)I" } : Jvm.MethodName))), (360, (Jvm.Cond.instanceMethod ({ cls := "Postunion", name := "leg", desc := "(III)I" } : Jvm.MethodName))), (361, (Jvm.Cond.selects "Postunion" ({ cls := "Postunion", name := "leg", desc := "(III)I" } : Jvm.MethodName) ({ cls := "Postunion", name := "leg", desc := "(III)I" } : Jvm.MethodName))), (362, (Jvm.Cond.code ({ cls := "Postunion", name := "leg", desc := "(III)I" } : Jvm.MethodName) prog_1_method_8_code (7 : Nat) (Option.some Jvm.ClassFile.FieldType.int))), (364, (Jvm.Cond.methodLink "Postunion" (84 : Nat) ({ cls := "Postunion$Routes", name := "addLeg", desc := "(LPostunion$Post;LPostunion$Post;I)I" } : Jvm.MethodName))), (365, (Jvm.Cond.instanceMethod ({ cls := "Postunion$Routes", name := "addLeg", desc := "(LPostunion$Post;LPostunion$Post;I)I" } : Jvm.MethodName))), (366, (Jvm.Cond.selects "Postunion$Routes" ({ cls := "Postunion$Routes", name := "addLeg", desc := "(LPostunion$Post;LPostunion$Post;I)I" } : Jvm.MethodName) ({ cls := "Postunion$Routes", name := "addLeg", desc := "(LPostunion$Post;LPostunion$Post;I)I" } : Jvm.MethodName))), (367, (Jvm.Cond.code ({ cls := "Postunion$Routes", name := "addLeg", desc := "(LPostunion$Post;LPostunion$Post;I)I" } : Jvm.MethodName) prog_4_method_2_code (4 : Nat) (Option.some Jvm.ClassFile.FieldType.int))), (368, (Jvm.Cond.instantiable "Postunion$Leg" (4 : Nat))), (369, (Jvm.Cond.methodLink "Postunion$Routes" (34 : Nat) ({ cls := "Postunion$Leg", name := "<init>", desc := "(LPostunion$Post;LPostunion$Post;I)V" } : Jvm.MethodName))), (370, (Jvm.Cond.instanceMethod ({ cls := "Postunion$Leg", name := "<init>", desc := "(LPostunion$Post;LPostunion$Post;I)V" } : Jvm.MethodName))), (371, (Jvm.Cond.code ({ cls := "Postunion$Leg", name := "<init>", desc := "(LPostunion$Post;LPostunion$Post;I)V" } : Jvm.MethodName) prog_2_method_1_code (4 : Nat) (Option.none : Option Jvm.ClassFile.FieldType))), (372, (Jvm.Cond.methodLink "Postunion$Leg" (3 : Nat) ({ cls := "java/lang/Object", name := "<init>", desc := "()V" } : Jvm.MethodName))), (373, (Jvm.Cond.fieldLink "Postunion$Leg" (15 : Nat) "Postunion$Leg" "one" "LPostunion$Post;")), (374, (Jvm.Cond.fieldLink "Postunion$Routes" (79 : Nat) "Postunion$Leg" "one" "LPostunion$Post;")), (375, (Jvm.Cond.fieldLink "Postunion" (204 : Nat) "Postunion$Leg" "one" "LPostunion$Post;")), (376, (Jvm.Cond.fieldLink "Postunion$Leg" (19 : Nat) "Postunion$Leg" "other" "LPostunion$Post;")), (377, (Jvm.Cond.fieldLink "Postunion$Routes" (83 : Nat) "Postunion$Leg" "other" "LPostunion$Post;")), (378, (Jvm.Cond.fieldLink "Postunion" (209 : Nat) "Postunion$Leg" "other" "LPostunion$Post;")), (379, (Jvm.Cond.fieldLink "Postunion$Leg" (22 : Nat) "Postunion$Leg" "length" "I")), (380, (Jvm.Cond.fieldLink "Postunion$Thing" (77 : Nat) "Postunion$Leg" "length" "I")), (381, (Jvm.Cond.fieldLink "Postunion$Routes" (86 : Nat) "Postunion$Leg" "length" "I"))]
set_option maxRecDepth 100000 in
theorem tW_7 : xwin lW_7 = true := by decide +kernel
def lW_8 : List (Nat × Cond) := [(382, (Jvm.Cond.fieldLink "Postunion$Leg" (9 : Nat) "Postunion$Leg" "isClosed" "Z")), (383, (Jvm.Cond.fieldLink "Postunion$Routes" (37 : Nat) "Postunion$Leg" "isClosed" "Z")), (384, (Jvm.Cond.laysFinal "Postunion$Leg" "Postunion$Leg" "one" "LPostunion$Post;")), (386, (Jvm.Cond.laysFinal "Postunion$Leg" "Postunion$Leg" "other" "LPostunion$Post;")), (388, (Jvm.Cond.laysFinal "Postunion$Leg" "Postunion$Leg" "length" "I")), (390, (Jvm.Cond.lays "Postunion$Leg" "Postunion$Leg" "isClosed" "Z")), (394, (Jvm.Cond.methodLink "PostunionLaw" (135 : Nat) ({ cls := "PostunionLaw", name := "close", desc := "(LPostunion;IZ[J)I" } : Jvm.MethodName))), (395, (Jvm.Cond.static ({ cls := "PostunionLaw", name := "close", desc := "(LPostunion;IZ[J)I" } : Jvm.MethodName))), (396, (Jvm.Cond.codeWith ({ cls := "PostunionLaw", name := "close", desc := "(LPostunion;IZ[J)I" } : Jvm.MethodName) method_10_code (5 : Nat) (Option.some Jvm.ClassFile.FieldType.int) [((0 : Nat), (17 : Nat), (20 : Nat), (19 : Nat))])), (397, (Jvm.Cond.methodLink "PostunionLaw" (41 : Nat) ({ cls := "Postunion", name := "close", desc := "(IZ)Z" } : Jvm.MethodName))), (398, (Jvm.Cond.instanceMethod ({ cls := "Postunion", name := "close", desc := "(IZ)Z" } : Jvm.MethodName))), (399, (Jvm.Cond.selects "Postunion" ({ cls := "Postunion", name := "close", desc := "(IZ)Z" } : Jvm.MethodName) ({ cls := "Postunion", name := "close", desc := "(IZ)Z" } : Jvm.MethodName))), (400, (Jvm.Cond.code ({ cls := "Postunion", name := "close", desc := "(IZ)Z" } : Jvm.MethodName) prog_1_method_9_code (4 : Nat) (Option.some Jvm.ClassFile.FieldType.boolean))), (401, (Jvm.Cond.methodLink "Postunion" (90 : Nat) ({ cls := "Postunion$Routes", name := "legOf", desc := "(I)LPostunion$Leg;" } : Jvm.MethodName))), (402, (Jvm.Cond.instanceMethod ({ cls := "Postunion$Routes", name := "legOf", desc := "(I)LPostunion$Leg;" } : Jvm.MethodName))), (403, (Jvm.Cond.selects "Postunion$Routes" ({ cls := "Postunion$Routes", name := "legOf", desc := "(I)LPostunion$Leg;" } : Jvm.MethodName) ({ cls := "Postunion$Routes", name := "legOf", desc := "(I)LPostunion$Leg;" } : Jvm.MethodName))), (404, (Jvm.Cond.code ({ cls := "Postunion$Routes", name := "legOf", desc := "(I)LPostunion$Leg;" } : Jvm.MethodName) prog_4_method_3_code (2 : Nat) (Option.some (Jvm.ClassFile.FieldType.object "Postunion$Leg")))), (406, (Jvm.Cond.methodLink "Postunion" (99 : Nat) ({ cls := "Postunion$Routes", name := "setClosed", desc := "(LPostunion$Leg;Z)Z" } : Jvm.MethodName))), (407, (Jvm.Cond.instanceMethod ({ cls := "Postunion$Routes", name := "setClosed", desc := "(LPostunion$Leg;Z)Z" } : Jvm.MethodName))), (408, (Jvm.Cond.selects "Postunion$Routes" ({ cls := "Postunion$Routes", name := "setClosed", desc := "(LPostunion$Leg;Z)Z" } : Jvm.MethodName) ({ cls := "Postunion$Routes", name := "setClosed", desc := "(LPostunion$Leg;Z)Z" } : Jvm.MethodName))), (409, (Jvm.Cond.code ({ cls := "Postunion$Routes", name := "setClosed", desc := "(LPostunion$Leg;Z)Z" } : Jvm.MethodName) prog_4_method_4_code (4 : Nat) (Option.some Jvm.ClassFile.FieldType.boolean))), (410, (Jvm.Cond.methodLink "PostunionLaw" (138 : Nat) ({ cls := "PostunionLaw", name := "days", desc := "(LPostunion;II[J)I" } : Jvm.MethodName))), (411, (Jvm.Cond.static ({ cls := "PostunionLaw", name := "days", desc := "(LPostunion;II[J)I" } : Jvm.MethodName))), (412, (Jvm.Cond.codeWith ({ cls := "PostunionLaw", name := "days", desc := "(LPostunion;II[J)I" } : Jvm.MethodName) method_11_code (5 : Nat) (Option.some Jvm.ClassFile.FieldType.int) [((0 : Nat), (10 : Nat), (13 : Nat), (19 : Nat))])), (413, (Jvm.Cond.methodLink "PostunionLaw" (44 : Nat) ({ cls := "Postunion", name := "days", desc := "(II)I" } : Jvm.MethodName))), (414, (Jvm.Cond.instanceMethod ({ cls := "Postunion", name := "days", desc := "(II)I" } : Jvm.MethodName))), (415, (Jvm.Cond.selects "Postunion" ({ cls := "Postunion", name := "days", desc := "(II)I" } : Jvm.MethodName) ({ cls := "Postunion", name := "days", desc := "(II)I" } : Jvm.MethodName))), (416, (Jvm.Cond.code ({ cls := "Postunion", name := "days", desc := "(II)I" } : Jvm.MethodName) prog_1_method_10_code (3 : Nat) (Option.some Jvm.ClassFile.FieldType.int))), (417, (Jvm.Cond.methodLink "Postunion" (103 : Nat) ({ cls := "Postunion$Routes", name := "leastDays", desc := "(LPostunion$Post;LPostunion$Post;)I" } : Jvm.MethodName))), (418, (Jvm.Cond.instanceMethod ({ cls := "Postunion$Routes", name := "leastDays", desc := "(LPostunion$Post;LPostunion$Post;)I" } : Jvm.MethodName))), (419, (Jvm.Cond.selects "Postunion$Routes" ({ cls := "Postunion$Routes", name := "leastDays", desc := "(LPostunion$Post;LPostunion$Post;)I" } : Jvm.MethodName) ({ cls := "Postunion$Routes", name := "leastDays", desc := "(LPostunion$Post;LPostunion$Post;)I" } : Jvm.MethodName))), (420, (Jvm.Cond.code ({ cls := "Postunion$Routes", name := "leastDays", desc := "(LPostunion$Post;LPostunion$Post;)I" } : Jvm.MethodName) prog_4_method_5_code (3 : Nat) (Option.some Jvm.ClassFile.FieldType.int))), (421, (Jvm.Cond.methodLink "Postunion$Routes" (50 : Nat) ({ cls := "Postunion$Routes", name := "noneIfFar", desc := "(I)I" } : Jvm.MethodName))), (422, (Jvm.Cond.static ({ cls := "Postunion$Routes", name := "noneIfFar", desc := "(I)I" } : Jvm.MethodName))), (423, (Jvm.Cond.code ({ cls := "Postunion$Routes", name := "noneIfFar", desc := "(I)I" } : Jvm.MethodName) prog_4_method_9_code (1 : Nat) (Option.some Jvm.ClassFile.FieldType.int))), (424, (Jvm.Cond.methodLink "PostunionLaw" (141 : Nat) ({ cls := "PostunionLaw", name := "daysAnew", desc := "(LPostunion;II[J)I" } : Jvm.MethodName))), (425, (Jvm.Cond.static ({ cls := "PostunionLaw", name := "daysAnew", desc := "(LPostunion;II[J)I" } : Jvm.MethodName))), (426, (Jvm.Cond.codeWith ({ cls := "PostunionLaw", name := "daysAnew", desc := "(LPostunion;II[J)I" } : Jvm.MethodName) method_12_code (5 : Nat) (Option.some Jvm.ClassFile.FieldType.int) [((0 : Nat), (10 : Nat), (13 : Nat), (19 : Nat))])), (427, (Jvm.Cond.methodLink "PostunionLaw" (47 : Nat) ({ cls := "Postunion", name := "daysAnew", desc := "(II)I" } : Jvm.MethodName))), (428, (Jvm.Cond.instanceMethod ({ cls := "Postunion", name := "daysAnew", desc := "(II)I" } : Jvm.MethodName)))]
set_option maxRecDepth 100000 in
theorem tW_8 : xwin lW_8 = true := by decide +kernel
def lW_9 : List (Nat × Cond) := [(429, (Jvm.Cond.selects "Postunion" ({ cls := "Postunion", name := "daysAnew", desc := "(II)I" } : Jvm.MethodName) ({ cls := "Postunion", name := "daysAnew", desc := "(II)I" } : Jvm.MethodName))), (430, (Jvm.Cond.code ({ cls := "Postunion", name := "daysAnew", desc := "(II)I" } : Jvm.MethodName) prog_1_method_11_code (3 : Nat) (Option.some Jvm.ClassFile.FieldType.int))), (431, (Jvm.Cond.methodLink "Postunion" (107 : Nat) ({ cls := "Postunion$Routes", name := "leastDaysOfAllWays", desc := "(LPostunion$Post;LPostunion$Post;)I" } : Jvm.MethodName))), (432, (Jvm.Cond.instanceMethod ({ cls := "Postunion$Routes", name := "leastDaysOfAllWays", desc := "(LPostunion$Post;LPostunion$Post;)I" } : Jvm.MethodName))), (433, (Jvm.Cond.selects "Postunion$Routes" ({ cls := "Postunion$Routes", name := "leastDaysOfAllWays", desc := "(LPostunion$Post;LPostunion$Post;)I" } : Jvm.MethodName) ({ cls := "Postunion$Routes", name := "leastDaysOfAllWays", desc := "(LPostunion$Post;LPostunion$Post;)I" } : Jvm.MethodName))), (434, (Jvm.Cond.code ({ cls := "Postunion$Routes", name := "leastDaysOfAllWays", desc := "(LPostunion$Post;LPostunion$Post;)I" } : Jvm.MethodName) prog_4_method_6_code (3 : Nat) (Option.some Jvm.ClassFile.FieldType.int))), (435, (Jvm.Cond.methodLink "Postunion$Routes" (54 : Nat) ({ cls := "Postunion$Routes", name := "leastOfWays", desc := "([IIIII)I" } : Jvm.MethodName))), (436, (Jvm.Cond.static ({ cls := "Postunion$Routes", name := "leastOfWays", desc := "([IIIII)I" } : Jvm.MethodName))), (437, (Jvm.Cond.code ({ cls := "Postunion$Routes", name := "leastOfWays", desc := "([IIIII)I" } : Jvm.MethodName) prog_4_method_10_code (9 : Nat) (Option.some Jvm.ClassFile.FieldType.int))), (438, (Jvm.Cond.methodLink "PostunionLaw" (144 : Nat) ({ cls := "PostunionLaw", name := "next", desc := "(LPostunion;II[J)I" } : Jvm.MethodName))), (439, (Jvm.Cond.static ({ cls := "PostunionLaw", name := "next", desc := "(LPostunion;II[J)I" } : Jvm.MethodName))), (440, (Jvm.Cond.codeWith ({ cls := "PostunionLaw", name := "next", desc := "(LPostunion;II[J)I" } : Jvm.MethodName) method_13_code (5 : Nat) (Option.some Jvm.ClassFile.FieldType.int) [((0 : Nat), (10 : Nat), (13 : Nat), (19 : Nat))])), (441, (Jvm.Cond.methodLink "PostunionLaw" (50 : Nat) ({ cls := "Postunion", name := "next", desc := "(II)I" } : Jvm.MethodName))), (442, (Jvm.Cond.instanceMethod ({ cls := "Postunion", name := "next", desc := "(II)I" } : Jvm.MethodName))), (443, (Jvm.Cond.selects "Postunion" ({ cls := "Postunion", name := "next", desc := "(II)I" } : Jvm.MethodName) ({ cls := "Postunion", name := "next", desc := "(II)I" } : Jvm.MethodName))), (444, (Jvm.Cond.code ({ cls := "Postunion", name := "next", desc := "(II)I" } : Jvm.MethodName) prog_1_method_12_code (3 : Nat) (Option.some Jvm.ClassFile.FieldType.int))), (445, (Jvm.Cond.methodLink "Postunion" (110 : Nat) ({ cls := "Postunion$Routes", name := "onwardLeg", desc := "(LPostunion$Post;LPostunion$Post;)I" } : Jvm.MethodName))), (446, (Jvm.Cond.instanceMethod ({ cls := "Postunion$Routes", name := "onwardLeg", desc := "(LPostunion$Post;LPostunion$Post;)I" } : Jvm.MethodName))), (447, (Jvm.Cond.selects "Postunion$Routes" ({ cls := "Postunion$Routes", name := "onwardLeg", desc := "(LPostunion$Post;LPostunion$Post;)I" } : Jvm.MethodName) ({ cls := "Postunion$Routes", name := "onwardLeg", desc := "(LPostunion$Post;LPostunion$Post;)I" } : Jvm.MethodName))), (448, (Jvm.Cond.code ({ cls := "Postunion$Routes", name := "onwardLeg", desc := "(LPostunion$Post;LPostunion$Post;)I" } : Jvm.MethodName) prog_4_method_7_code (3 : Nat) (Option.some Jvm.ClassFile.FieldType.int))), (449, (Jvm.Cond.methodLink "PostunionLaw" (147 : Nat) ({ cls := "PostunionLaw", name := "mail", desc := "(LPostunion;IIIIIZ[J)I" } : Jvm.MethodName))), (450, (Jvm.Cond.static ({ cls := "PostunionLaw", name := "mail", desc := "(LPostunion;IIIIIZ[J)I" } : Jvm.MethodName))), (451, (Jvm.Cond.codeWith ({ cls := "PostunionLaw", name := "mail", desc := "(LPostunion;IIIIIZ[J)I" } : Jvm.MethodName) method_14_code (9 : Nat) (Option.some Jvm.ClassFile.FieldType.int) [((0 : Nat), (18 : Nat), (21 : Nat), (19 : Nat)), ((0 : Nat), (18 : Nat), (25 : Nat), (21 : Nat)), ((0 : Nat), (18 : Nat), (29 : Nat), (13 : Nat))])), (452, (Jvm.Cond.methodLink "PostunionLaw" (53 : Nat) ({ cls := "Postunion", name := "mail", desc := "(IIIIIZ)I" } : Jvm.MethodName))), (453, (Jvm.Cond.instanceMethod ({ cls := "Postunion", name := "mail", desc := "(IIIIIZ)I" } : Jvm.MethodName))), (454, (Jvm.Cond.selects "Postunion" ({ cls := "Postunion", name := "mail", desc := "(IIIIIZ)I" } : Jvm.MethodName) ({ cls := "Postunion", name := "mail", desc := "(IIIIIZ)I" } : Jvm.MethodName))), (455, (Jvm.Cond.code ({ cls := "Postunion", name := "mail", desc := "(IIIIIZ)I" } : Jvm.MethodName) prog_1_method_13_code (10 : Nat) (Option.some Jvm.ClassFile.FieldType.int))), (456, (Jvm.Cond.methodLink "Postunion" (113 : Nat) ({ cls := "Postunion", name := "demandGrams", desc := "(II)V" } : Jvm.MethodName))), (457, (Jvm.Cond.static ({ cls := "Postunion", name := "demandGrams", desc := "(II)V" } : Jvm.MethodName))), (458, (Jvm.Cond.code ({ cls := "Postunion", name := "demandGrams", desc := "(II)V" } : Jvm.MethodName) prog_1_method_32_code (2 : Nat) (Option.none : Option Jvm.ClassFile.FieldType))), (459, (Jvm.Cond.constant "Postunion" (117 : Nat) (100000 : Int32))), (462, (Jvm.Cond.methodLink "Postunion" (122 : Nat) ({ cls := "Postunion$Post", name := "rateOf", desc := "(IIZ)I" } : Jvm.MethodName))), (463, (Jvm.Cond.instanceMethod ({ cls := "Postunion$Post", name := "rateOf", desc := "(IIZ)I" } : Jvm.MethodName))), (464, (Jvm.Cond.selects "Postunion$Post" ({ cls := "Postunion$Post", name := "rateOf", desc := "(IIZ)I" } : Jvm.MethodName) ({ cls := "Postunion$Post", name := "rateOf", desc := "(IIZ)I" } : Jvm.MethodName))), (465, (Jvm.Cond.code ({ cls := "Postunion$Post", name := "rateOf", desc := "(IIZ)I" } : Jvm.MethodName) prog_3_method_2_code (5 : Nat) (Option.some Jvm.ClassFile.FieldType.int))), (467, (Jvm.Cond.static ({ cls := "Postunion", name := "begunParts", desc := "(II)I" } : Jvm.MethodName))), (468, (Jvm.Cond.code ({ cls := "Postunion", name := "begunParts", desc := "(II)I" } : Jvm.MethodName) prog_1_method_43_code (2 : Nat) (Option.some Jvm.ClassFile.FieldType.int))), (469, (Jvm.Cond.methodLink "Postunion" (126 : Nat) ({ cls := "java/lang/Math", name := "max", desc := "(II)I" } : Jvm.MethodName))), (470, (Jvm.Cond.static ({ cls := "java/lang/Math", name := "max", desc := "(II)I" } : Jvm.MethodName))), (471, (Jvm.Cond.code ({ cls := "java/lang/Math", name := "max", desc := "(II)I" } : Jvm.MethodName) prog_13_method_65_code (2 : Nat) (Option.some Jvm.ClassFile.FieldType.int)))]
set_option maxRecDepth 100000 in
theorem tW_9 : xwin lW_9 = true := by decide +kernel
def lW_10 : List (Nat × Cond) := [(472, (Jvm.Cond.instantiable "Postunion$Thing" (15 : Nat))), (473, (Jvm.Cond.methodLink "Postunion" (136 : Nat) ({ cls := "Postunion$Thing", name := "<init>", desc := "(ILPostunion$Post;LPostunion$Post;IIZ)V" } : Jvm.MethodName))), (474, (Jvm.Cond.instanceMethod ({ cls := "Postunion$Thing", name := "<init>", desc := "(ILPostunion$Post;LPostunion$Post;IIZ)V" } : Jvm.MethodName))), (475, (Jvm.Cond.code ({ cls := "Postunion$Thing", name := "<init>", desc := "(ILPostunion$Post;LPostunion$Post;IIZ)V" } : Jvm.MethodName) prog_5_method_1_code (7 : Nat) (Option.none : Option Jvm.ClassFile.FieldType))), (476, (Jvm.Cond.methodLink "Postunion$Thing" (3 : Nat) ({ cls := "java/lang/Object", name := "<init>", desc := "()V" } : Jvm.MethodName))), (477, (Jvm.Cond.methodLink "Postunion$Thing" (61 : Nat) ({ cls := "Postunion$Thing", name := "sign", desc := "()V" } : Jvm.MethodName))), (479, (Jvm.Cond.instanceMethod ({ cls := "Postunion$Thing", name := "sign", desc := "()V" } : Jvm.MethodName))), (480, (Jvm.Cond.code ({ cls := "Postunion$Thing", name := "sign", desc := "()V" } : Jvm.MethodName) prog_5_method_7_code (1 : Nat) (Option.none : Option Jvm.ClassFile.FieldType))), (481, (Jvm.Cond.methodLink "Postunion$Thing" (80 : Nat) ({ cls := "java/lang/Math", name := "min", desc := "(II)I" } : Jvm.MethodName))), (482, (Jvm.Cond.methodLink "Postunion$Thing" (86 : Nat) ({ cls := "java/util/Arrays", name := "copyOf", desc := "([II)[I" } : Jvm.MethodName))), (483, (Jvm.Cond.static ({ cls := "java/util/Arrays", name := "copyOf", desc := "([II)[I" } : Jvm.MethodName))), (484, (Jvm.Cond.code ({ cls := "java/util/Arrays", name := "copyOf", desc := "([II)[I" } : Jvm.MethodName) prog_18_method_123_code (3 : Nat) (Option.some (Jvm.ClassFile.FieldType.array Jvm.ClassFile.FieldType.int)))), (485, (Jvm.Cond.methodLink "java/util/Arrays" (316 : Nat) ({ cls := "[I", name := "clone", desc := "()Ljava/lang/Object;" } : Jvm.MethodName))), (487, (Jvm.Cond.native ({ cls := "java/lang/Object", name := "clone", desc := "()Ljava/lang/Object;" } : Jvm.MethodName))), (488, (Jvm.Cond.instanceMethod ({ cls := "java/lang/Object", name := "clone", desc := "()Ljava/lang/Object;" } : Jvm.MethodName))), (489, (Jvm.Cond.selects "[I" ({ cls := "[I", name := "clone", desc := "()Ljava/lang/Object;" } : Jvm.MethodName) ({ cls := "java/lang/Object", name := "clone", desc := "()Ljava/lang/Object;" } : Jvm.MethodName))), (491, (Jvm.Cond.classLink "java/util/Arrays" (317 : Nat) "[I")), (492, (Jvm.Cond.methodLink "java/util/Arrays" (304 : Nat) ({ cls := "java/lang/Math", name := "min", desc := "(II)I" } : Jvm.MethodName))), (493, (Jvm.Cond.methodLink "java/util/Arrays" (150 : Nat) ({ cls := "java/lang/System", name := "arraycopy", desc := "(Ljava/lang/Object;ILjava/lang/Object;II)V" } : Jvm.MethodName))), (494, (Jvm.Cond.fieldLink "Postunion$Thing" (35 : Nat) "Postunion$Thing" "kind" "I")), (495, (Jvm.Cond.fieldLink "Postunion" (260 : Nat) "Postunion$Thing" "kind" "I")), (496, (Jvm.Cond.fieldLink "Postunion$Thing" (38 : Nat) "Postunion$Thing" "origin" "LPostunion$Post;")), (497, (Jvm.Cond.fieldLink "Postunion" (192 : Nat) "Postunion$Thing" "origin" "LPostunion$Post;")), (498, (Jvm.Cond.fieldLink "Postunion$Thing" (48 : Nat) "Postunion$Thing" "grams" "I")), (499, (Jvm.Cond.fieldLink "Postunion" (270 : Nat) "Postunion$Thing" "grams" "I")), (500, (Jvm.Cond.fieldLink "Postunion$Thing" (51 : Nat) "Postunion$Thing" "lacking" "I")), (501, (Jvm.Cond.fieldLink "Postunion$Thing" (54 : Nat) "Postunion$Thing" "isRegistered" "Z")), (502, (Jvm.Cond.fieldLink "Postunion" (184 : Nat) "Postunion$Thing" "isRegistered" "Z")), (503, (Jvm.Cond.fieldLink "Postunion$Thing" (42 : Nat) "Postunion$Thing" "target" "LPostunion$Post;")), (504, (Jvm.Cond.fieldLink "Postunion" (156 : Nat) "Postunion$Thing" "target" "LPostunion$Post;")), (505, (Jvm.Cond.fieldLink "Postunion$Thing" (45 : Nat) "Postunion$Thing" "place" "LPostunion$Post;")), (506, (Jvm.Cond.fieldLink "Postunion" (146 : Nat) "Postunion$Thing" "place" "LPostunion$Post;")), (507, (Jvm.Cond.fieldLink "Postunion$Thing" (9 : Nat) "Postunion$Thing" "leg" "LPostunion$Leg;")), (508, (Jvm.Cond.fieldLink "Postunion" (197 : Nat) "Postunion$Thing" "leg" "LPostunion$Leg;")), (509, (Jvm.Cond.fieldLink "Postunion$Thing" (15 : Nat) "Postunion$Thing" "state" "I")), (510, (Jvm.Cond.fieldLink "Postunion" (143 : Nat) "Postunion$Thing" "state" "I")), (511, (Jvm.Cond.fieldLink "Postunion$Thing" (19 : Nat) "Postunion$Thing" "daysLeft" "I")), (512, (Jvm.Cond.fieldLink "Postunion" (178 : Nat) "Postunion$Thing" "daysLeft" "I")), (513, (Jvm.Cond.fieldLink "Postunion$Thing" (22 : Nat) "Postunion$Thing" "isRefused" "Z")), (514, (Jvm.Cond.fieldLink "Postunion" (162 : Nat) "Postunion$Thing" "isRefused" "Z"))]
set_option maxRecDepth 100000 in
theorem tW_10 : xwin lW_10 = true := by decide +kernel
def lW_11 : List (Nat × Cond) := [(515, (Jvm.Cond.fieldLink "Postunion$Thing" (26 : Nat) "Postunion$Thing" "isBack" "Z")), (516, (Jvm.Cond.fieldLink "Postunion" (220 : Nat) "Postunion$Thing" "isBack" "Z")), (517, (Jvm.Cond.fieldLink "Postunion$Thing" (29 : Nat) "Postunion$Thing" "isClaimed" "Z")), (518, (Jvm.Cond.fieldLink "Postunion" (187 : Nat) "Postunion$Thing" "isClaimed" "Z")), (519, (Jvm.Cond.fieldLink "Postunion$Thing" (57 : Nat) "Postunion$Thing" "hands" "[I")), (520, (Jvm.Cond.fieldLink "Postunion" (230 : Nat) "Postunion$Thing" "hands" "[I")), (521, (Jvm.Cond.fieldLink "Postunion$Thing" (32 : Nat) "Postunion$Thing" "handCount" "I")), (522, (Jvm.Cond.fieldLink "Postunion" (223 : Nat) "Postunion$Thing" "handCount" "I")), (523, (Jvm.Cond.laysFinal "Postunion$Thing" "Postunion$Thing" "kind" "I")), (525, (Jvm.Cond.laysFinal "Postunion$Thing" "Postunion$Thing" "origin" "LPostunion$Post;")), (527, (Jvm.Cond.laysFinal "Postunion$Thing" "Postunion$Thing" "grams" "I")), (529, (Jvm.Cond.laysFinal "Postunion$Thing" "Postunion$Thing" "lacking" "I")), (531, (Jvm.Cond.laysFinal "Postunion$Thing" "Postunion$Thing" "isRegistered" "Z")), (533, (Jvm.Cond.lays "Postunion$Thing" "Postunion$Thing" "target" "LPostunion$Post;")), (535, (Jvm.Cond.lays "Postunion$Thing" "Postunion$Thing" "place" "LPostunion$Post;")), (537, (Jvm.Cond.lays "Postunion$Thing" "Postunion$Thing" "leg" "LPostunion$Leg;")), (539, (Jvm.Cond.lays "Postunion$Thing" "Postunion$Thing" "state" "I")), (541, (Jvm.Cond.lays "Postunion$Thing" "Postunion$Thing" "daysLeft" "I")), (543, (Jvm.Cond.lays "Postunion$Thing" "Postunion$Thing" "isRefused" "Z")), (545, (Jvm.Cond.lays "Postunion$Thing" "Postunion$Thing" "isBack" "Z")), (547, (Jvm.Cond.lays "Postunion$Thing" "Postunion$Thing" "isClaimed" "Z")), (549, (Jvm.Cond.lays "Postunion$Thing" "Postunion$Thing" "hands" "[I")), (551, (Jvm.Cond.lays "Postunion$Thing" "Postunion$Thing" "handCount" "I")), (554, (Jvm.Cond.methodLink "PostunionLaw" (151 : Nat) ({ cls := "PostunionLaw", name := "redirect", desc := "(LPostunion;II[J)I" } : Jvm.MethodName))), (555, (Jvm.Cond.static ({ cls := "PostunionLaw", name := "redirect", desc := "(LPostunion;II[J)I" } : Jvm.MethodName))), (556, (Jvm.Cond.codeWith ({ cls := "PostunionLaw", name := "redirect", desc := "(LPostunion;II[J)I" } : Jvm.MethodName) method_15_code (5 : Nat) (Option.some Jvm.ClassFile.FieldType.int) [((0 : Nat), (10 : Nat), (13 : Nat), (19 : Nat)), ((0 : Nat), (10 : Nat), (17 : Nat), (21 : Nat)), ((0 : Nat), (10 : Nat), (21 : Nat), (13 : Nat))])), (557, (Jvm.Cond.methodLink "PostunionLaw" (57 : Nat) ({ cls := "Postunion", name := "redirect", desc := "(II)I" } : Jvm.MethodName))), (558, (Jvm.Cond.instanceMethod ({ cls := "Postunion", name := "redirect", desc := "(II)I" } : Jvm.MethodName))), (559, (Jvm.Cond.selects "Postunion" ({ cls := "Postunion", name := "redirect", desc := "(II)I" } : Jvm.MethodName) ({ cls := "Postunion", name := "redirect", desc := "(II)I" } : Jvm.MethodName))), (560, (Jvm.Cond.code ({ cls := "Postunion", name := "redirect", desc := "(II)I" } : Jvm.MethodName) prog_1_method_14_code (6 : Nat) (Option.some Jvm.ClassFile.FieldType.int))), (561, (Jvm.Cond.methodLink "Postunion" (139 : Nat) ({ cls := "Postunion", name := "thingOf", desc := "(I)LPostunion$Thing;" } : Jvm.MethodName))), (563, (Jvm.Cond.instanceMethod ({ cls := "Postunion", name := "thingOf", desc := "(I)LPostunion$Thing;" } : Jvm.MethodName))), (564, (Jvm.Cond.code ({ cls := "Postunion", name := "thingOf", desc := "(I)LPostunion$Thing;" } : Jvm.MethodName) prog_1_method_29_code (2 : Nat) (Option.some (Jvm.ClassFile.FieldType.object "Postunion$Thing")))), (567, (Jvm.Cond.methodLink "Postunion" (152 : Nat) ({ cls := "Postunion", name := "demandChangeable", desc := "(LPostunion$Thing;)V" } : Jvm.MethodName))), (568, (Jvm.Cond.static ({ cls := "Postunion", name := "demandChangeable", desc := "(LPostunion$Thing;)V" } : Jvm.MethodName))), (569, (Jvm.Cond.code ({ cls := "Postunion", name := "demandChangeable", desc := "(LPostunion$Thing;)V" } : Jvm.MethodName) prog_1_method_33_code (1 : Nat) (Option.none : Option Jvm.ClassFile.FieldType))), (570, (Jvm.Cond.methodLink "Postunion" (172 : Nat) ({ cls := "Postunion$Thing", name := "isUnderWay", desc := "()Z" } : Jvm.MethodName))), (571, (Jvm.Cond.instanceMethod ({ cls := "Postunion$Thing", name := "isUnderWay", desc := "()Z" } : Jvm.MethodName))), (572, (Jvm.Cond.selects "Postunion$Thing" ({ cls := "Postunion$Thing", name := "isUnderWay", desc := "()Z" } : Jvm.MethodName) ({ cls := "Postunion$Thing", name := "isUnderWay", desc := "()Z" } : Jvm.MethodName))), (573, (Jvm.Cond.code ({ cls := "Postunion$Thing", name := "isUnderWay", desc := "()Z" } : Jvm.MethodName) prog_5_method_2_code (1 : Nat) (Option.some Jvm.ClassFile.FieldType.boolean)))]
set_option maxRecDepth 100000 in
theorem tW_11 : xwin lW_11 = true := by decide +kernel
def lW_12 : List (Nat × Cond) := [(575, (Jvm.Cond.methodLink "PostunionLaw" (154 : Nat) ({ cls := "PostunionLaw", name := "refuse", desc := "(LPostunion;IZ[J)I" } : Jvm.MethodName))), (576, (Jvm.Cond.static ({ cls := "PostunionLaw", name := "refuse", desc := "(LPostunion;IZ[J)I" } : Jvm.MethodName))), (577, (Jvm.Cond.codeWith ({ cls := "PostunionLaw", name := "refuse", desc := "(LPostunion;IZ[J)I" } : Jvm.MethodName) method_16_code (5 : Nat) (Option.some Jvm.ClassFile.FieldType.int) [((0 : Nat), (17 : Nat), (20 : Nat), (19 : Nat)), ((0 : Nat), (17 : Nat), (24 : Nat), (13 : Nat))])), (578, (Jvm.Cond.methodLink "PostunionLaw" (60 : Nat) ({ cls := "Postunion", name := "refuse", desc := "(IZ)Z" } : Jvm.MethodName))), (579, (Jvm.Cond.instanceMethod ({ cls := "Postunion", name := "refuse", desc := "(IZ)Z" } : Jvm.MethodName))), (580, (Jvm.Cond.selects "Postunion" ({ cls := "Postunion", name := "refuse", desc := "(IZ)Z" } : Jvm.MethodName) ({ cls := "Postunion", name := "refuse", desc := "(IZ)Z" } : Jvm.MethodName))), (581, (Jvm.Cond.code ({ cls := "Postunion", name := "refuse", desc := "(IZ)Z" } : Jvm.MethodName) prog_1_method_15_code (5 : Nat) (Option.some Jvm.ClassFile.FieldType.boolean))), (582, (Jvm.Cond.methodLink "PostunionLaw" (157 : Nat) ({ cls := "PostunionLaw", name := "go", desc := "(LPostunion;I[J)I" } : Jvm.MethodName))), (583, (Jvm.Cond.static ({ cls := "PostunionLaw", name := "go", desc := "(LPostunion;I[J)I" } : Jvm.MethodName))), (584, (Jvm.Cond.codeWith ({ cls := "PostunionLaw", name := "go", desc := "(LPostunion;I[J)I" } : Jvm.MethodName) method_17_code (4 : Nat) (Option.some Jvm.ClassFile.FieldType.int) [((0 : Nat), (9 : Nat), (12 : Nat), (21 : Nat))])), (585, (Jvm.Cond.methodLink "PostunionLaw" (63 : Nat) ({ cls := "Postunion", name := "go", desc := "(I)I" } : Jvm.MethodName))), (586, (Jvm.Cond.instanceMethod ({ cls := "Postunion", name := "go", desc := "(I)I" } : Jvm.MethodName))), (587, (Jvm.Cond.selects "Postunion" ({ cls := "Postunion", name := "go", desc := "(I)I" } : Jvm.MethodName) ({ cls := "Postunion", name := "go", desc := "(I)I" } : Jvm.MethodName))), (588, (Jvm.Cond.code ({ cls := "Postunion", name := "go", desc := "(I)I" } : Jvm.MethodName) prog_1_method_16_code (4 : Nat) (Option.some Jvm.ClassFile.FieldType.int))), (589, (Jvm.Cond.methodLink "Postunion" (165 : Nat) ({ cls := "Postunion", name := "moveThoseThatTravel", desc := "()I" } : Jvm.MethodName))), (591, (Jvm.Cond.instanceMethod ({ cls := "Postunion", name := "moveThoseThatTravel", desc := "()I" } : Jvm.MethodName))), (592, (Jvm.Cond.code ({ cls := "Postunion", name := "moveThoseThatTravel", desc := "()I" } : Jvm.MethodName) prog_1_method_34_code (4 : Nat) (Option.some Jvm.ClassFile.FieldType.int))), (593, (Jvm.Cond.methodLink "Postunion" (251 : Nat) ({ cls := "Postunion$Thing", name := "arrivesToday", desc := "()Z" } : Jvm.MethodName))), (594, (Jvm.Cond.instanceMethod ({ cls := "Postunion$Thing", name := "arrivesToday", desc := "()Z" } : Jvm.MethodName))), (595, (Jvm.Cond.selects "Postunion$Thing" ({ cls := "Postunion$Thing", name := "arrivesToday", desc := "()Z" } : Jvm.MethodName) ({ cls := "Postunion$Thing", name := "arrivesToday", desc := "()Z" } : Jvm.MethodName))), (596, (Jvm.Cond.code ({ cls := "Postunion$Thing", name := "arrivesToday", desc := "()Z" } : Jvm.MethodName) prog_5_method_5_code (1 : Nat) (Option.some Jvm.ClassFile.FieldType.boolean))), (597, (Jvm.Cond.methodLink "Postunion" (254 : Nat) ({ cls := "Postunion", name := "endAtTarget", desc := "(LPostunion$Thing;)V" } : Jvm.MethodName))), (599, (Jvm.Cond.instanceMethod ({ cls := "Postunion", name := "endAtTarget", desc := "(LPostunion$Thing;)V" } : Jvm.MethodName))), (600, (Jvm.Cond.code ({ cls := "Postunion", name := "endAtTarget", desc := "(LPostunion$Thing;)V" } : Jvm.MethodName) prog_1_method_35_code (4 : Nat) (Option.none : Option Jvm.ClassFile.FieldType))), (601, (Jvm.Cond.methodLink "Postunion" (216 : Nat) ({ cls := "Postunion$Thing", name := "taxOfNow", desc := "()J" } : Jvm.MethodName))), (602, (Jvm.Cond.instanceMethod ({ cls := "Postunion$Thing", name := "taxOfNow", desc := "()J" } : Jvm.MethodName))), (603, (Jvm.Cond.selects "Postunion$Thing" ({ cls := "Postunion$Thing", name := "taxOfNow", desc := "()J" } : Jvm.MethodName) ({ cls := "Postunion$Thing", name := "taxOfNow", desc := "()J" } : Jvm.MethodName))), (604, (Jvm.Cond.code ({ cls := "Postunion$Thing", name := "taxOfNow", desc := "()J" } : Jvm.MethodName) prog_5_method_3_code (4 : Nat) (Option.some Jvm.ClassFile.FieldType.long))), (605, (Jvm.Cond.constantLong "Postunion$Thing" (64 : Nat) (2 : Int64))), (606, (Jvm.Cond.methodLink "Postunion" (257 : Nat) ({ cls := "Postunion", name := "oweDue", desc := "(LPostunion$Thing;)V" } : Jvm.MethodName))), (608, (Jvm.Cond.instanceMethod ({ cls := "Postunion", name := "oweDue", desc := "(LPostunion$Thing;)V" } : Jvm.MethodName))), (609, (Jvm.Cond.code ({ cls := "Postunion", name := "oweDue", desc := "(LPostunion$Thing;)V" } : Jvm.MethodName) prog_1_method_36_code (3 : Nat) (Option.none : Option Jvm.ClassFile.FieldType))), (610, (Jvm.Cond.methodLink "Postunion" (263 : Nat) ({ cls := "Postunion", name := "pay", desc := "(LPostunion$Post;LPostunion$Post;J)V" } : Jvm.MethodName))), (611, (Jvm.Cond.static ({ cls := "Postunion", name := "pay", desc := "(LPostunion$Post;LPostunion$Post;J)V" } : Jvm.MethodName))), (612, (Jvm.Cond.code ({ cls := "Postunion", name := "pay", desc := "(LPostunion$Post;LPostunion$Post;J)V" } : Jvm.MethodName) prog_1_method_39_code (4 : Nat) (Option.none : Option Jvm.ClassFile.FieldType))), (613, (Jvm.Cond.methodLink "Postunion" (169 : Nat) ({ cls := "Postunion", name := "sendThoseThatWait", desc := "()V" } : Jvm.MethodName))), (615, (Jvm.Cond.instanceMethod ({ cls := "Postunion", name := "sendThoseThatWait", desc := "()V" } : Jvm.MethodName))), (616, (Jvm.Cond.code ({ cls := "Postunion", name := "sendThoseThatWait", desc := "()V" } : Jvm.MethodName) prog_1_method_37_code (3 : Nat) (Option.none : Option Jvm.ClassFile.FieldType))), (617, (Jvm.Cond.methodLink "Postunion" (267 : Nat) ({ cls := "Postunion", name := "sendOn", desc := "(LPostunion$Thing;)V" } : Jvm.MethodName))), (619, (Jvm.Cond.instanceMethod ({ cls := "Postunion", name := "sendOn", desc := "(LPostunion$Thing;)V" } : Jvm.MethodName)))]
set_option maxRecDepth 100000 in
theorem tW_12 : xwin lW_12 = true := by decide +kernel
def lW_13 : List (Nat × Cond) := [(620, (Jvm.Cond.code ({ cls := "Postunion", name := "sendOn", desc := "(LPostunion$Thing;)V" } : Jvm.MethodName) prog_1_method_38_code (3 : Nat) (Option.none : Option Jvm.ClassFile.FieldType))), (621, (Jvm.Cond.methodLink "Postunion" (273 : Nat) ({ cls := "Postunion$Post", name := "chargeFor", desc := "(I)J" } : Jvm.MethodName))), (622, (Jvm.Cond.instanceMethod ({ cls := "Postunion$Post", name := "chargeFor", desc := "(I)J" } : Jvm.MethodName))), (623, (Jvm.Cond.selects "Postunion$Post" ({ cls := "Postunion$Post", name := "chargeFor", desc := "(I)J" } : Jvm.MethodName) ({ cls := "Postunion$Post", name := "chargeFor", desc := "(I)J" } : Jvm.MethodName))), (624, (Jvm.Cond.code ({ cls := "Postunion$Post", name := "chargeFor", desc := "(I)J" } : Jvm.MethodName) prog_3_method_3_code (2 : Nat) (Option.some Jvm.ClassFile.FieldType.long))), (625, (Jvm.Cond.methodLink "Postunion" (277 : Nat) ({ cls := "Postunion$Thing", name := "departOn", desc := "(LPostunion$Leg;)V" } : Jvm.MethodName))), (626, (Jvm.Cond.instanceMethod ({ cls := "Postunion$Thing", name := "departOn", desc := "(LPostunion$Leg;)V" } : Jvm.MethodName))), (627, (Jvm.Cond.selects "Postunion$Thing" ({ cls := "Postunion$Thing", name := "departOn", desc := "(LPostunion$Leg;)V" } : Jvm.MethodName) ({ cls := "Postunion$Thing", name := "departOn", desc := "(LPostunion$Leg;)V" } : Jvm.MethodName))), (628, (Jvm.Cond.code ({ cls := "Postunion$Thing", name := "departOn", desc := "(LPostunion$Leg;)V" } : Jvm.MethodName) prog_5_method_4_code (2 : Nat) (Option.none : Option Jvm.ClassFile.FieldType))), (629, (Jvm.Cond.methodLink "Postunion$Thing" (71 : Nat) ({ cls := "Postunion$Leg", name := "farEnd", desc := "(LPostunion$Post;)LPostunion$Post;" } : Jvm.MethodName))), (630, (Jvm.Cond.instanceMethod ({ cls := "Postunion$Leg", name := "farEnd", desc := "(LPostunion$Post;)LPostunion$Post;" } : Jvm.MethodName))), (631, (Jvm.Cond.selects "Postunion$Leg" ({ cls := "Postunion$Leg", name := "farEnd", desc := "(LPostunion$Post;)LPostunion$Post;" } : Jvm.MethodName) ({ cls := "Postunion$Leg", name := "farEnd", desc := "(LPostunion$Post;)LPostunion$Post;" } : Jvm.MethodName))), (632, (Jvm.Cond.code ({ cls := "Postunion$Leg", name := "farEnd", desc := "(LPostunion$Post;)LPostunion$Post;" } : Jvm.MethodName) prog_2_method_2_code (2 : Nat) (Option.some (Jvm.ClassFile.FieldType.object "Postunion$Post")))), (633, (Jvm.Cond.methodLink "PostunionLaw" (161 : Nat) ({ cls := "PostunionLaw", name := "lose", desc := "(LPostunion;I[J)I" } : Jvm.MethodName))), (634, (Jvm.Cond.static ({ cls := "PostunionLaw", name := "lose", desc := "(LPostunion;I[J)I" } : Jvm.MethodName))), (635, (Jvm.Cond.codeWith ({ cls := "PostunionLaw", name := "lose", desc := "(LPostunion;I[J)I" } : Jvm.MethodName) method_18_code (4 : Nat) (Option.some Jvm.ClassFile.FieldType.int) [((0 : Nat), (9 : Nat), (12 : Nat), (19 : Nat)), ((0 : Nat), (9 : Nat), (15 : Nat), (13 : Nat))])), (636, (Jvm.Cond.methodLink "PostunionLaw" (67 : Nat) ({ cls := "Postunion", name := "lose", desc := "(I)I" } : Jvm.MethodName))), (637, (Jvm.Cond.instanceMethod ({ cls := "Postunion", name := "lose", desc := "(I)I" } : Jvm.MethodName))), (638, (Jvm.Cond.selects "Postunion" ({ cls := "Postunion", name := "lose", desc := "(I)I" } : Jvm.MethodName) ({ cls := "Postunion", name := "lose", desc := "(I)I" } : Jvm.MethodName))), (639, (Jvm.Cond.code ({ cls := "Postunion", name := "lose", desc := "(I)I" } : Jvm.MethodName) prog_1_method_17_code (3 : Nat) (Option.some Jvm.ClassFile.FieldType.int))), (641, (Jvm.Cond.methodLink "Postunion" (181 : Nat) ({ cls := "Postunion$Thing", name := "latestHand", desc := "()I" } : Jvm.MethodName))), (642, (Jvm.Cond.instanceMethod ({ cls := "Postunion$Thing", name := "latestHand", desc := "()I" } : Jvm.MethodName))), (643, (Jvm.Cond.selects "Postunion$Thing" ({ cls := "Postunion$Thing", name := "latestHand", desc := "()I" } : Jvm.MethodName) ({ cls := "Postunion$Thing", name := "latestHand", desc := "()I" } : Jvm.MethodName))), (644, (Jvm.Cond.code ({ cls := "Postunion$Thing", name := "latestHand", desc := "()I" } : Jvm.MethodName) prog_5_method_6_code (1 : Nat) (Option.some Jvm.ClassFile.FieldType.int))), (645, (Jvm.Cond.methodLink "PostunionLaw" (164 : Nat) ({ cls := "PostunionLaw", name := "claim", desc := "(LPostunion;I[J)I" } : Jvm.MethodName))), (646, (Jvm.Cond.static ({ cls := "PostunionLaw", name := "claim", desc := "(LPostunion;I[J)I" } : Jvm.MethodName))), (647, (Jvm.Cond.codeWith ({ cls := "PostunionLaw", name := "claim", desc := "(LPostunion;I[J)I" } : Jvm.MethodName) method_19_code (4 : Nat) (Option.some Jvm.ClassFile.FieldType.int) [((0 : Nat), (9 : Nat), (12 : Nat), (19 : Nat)), ((0 : Nat), (9 : Nat), (15 : Nat), (13 : Nat))])), (648, (Jvm.Cond.methodLink "PostunionLaw" (70 : Nat) ({ cls := "Postunion", name := "claim", desc := "(I)I" } : Jvm.MethodName))), (649, (Jvm.Cond.instanceMethod ({ cls := "Postunion", name := "claim", desc := "(I)I" } : Jvm.MethodName))), (650, (Jvm.Cond.selects "Postunion" ({ cls := "Postunion", name := "claim", desc := "(I)I" } : Jvm.MethodName) ({ cls := "Postunion", name := "claim", desc := "(I)I" } : Jvm.MethodName))), (651, (Jvm.Cond.code ({ cls := "Postunion", name := "claim", desc := "(I)I" } : Jvm.MethodName) prog_1_method_18_code (4 : Nat) (Option.some Jvm.ClassFile.FieldType.int))), (653, (Jvm.Cond.constantLong "Postunion" (195 : Nat) (4000 : Int64))), (654, (Jvm.Cond.methodLink "Postunion" (201 : Nat) ({ cls := "Postunion", name := "payClaim", desc := "(LPostunion$Post;LPostunion$Post;I)I" } : Jvm.MethodName))), (655, (Jvm.Cond.static ({ cls := "Postunion", name := "payClaim", desc := "(LPostunion$Post;LPostunion$Post;I)I" } : Jvm.MethodName))), (656, (Jvm.Cond.code ({ cls := "Postunion", name := "payClaim", desc := "(LPostunion$Post;LPostunion$Post;I)I" } : Jvm.MethodName) prog_1_method_40_code (3 : Nat) (Option.some Jvm.ClassFile.FieldType.int))), (657, (Jvm.Cond.methodLink "PostunionLaw" (172 : Nat) ({ cls := "PostunionLaw", name := "settle", desc := "(LPostunion;I[J)I" } : Jvm.MethodName))), (658, (Jvm.Cond.static ({ cls := "PostunionLaw", name := "settle", desc := "(LPostunion;I[J)I" } : Jvm.MethodName))), (659, (Jvm.Cond.codeWith ({ cls := "PostunionLaw", name := "settle", desc := "(LPostunion;I[J)I" } : Jvm.MethodName) method_20_code (4 : Nat) (Option.some Jvm.ClassFile.FieldType.int) [((0 : Nat), (8 : Nat), (11 : Nat), (21 : Nat))])), (660, (Jvm.Cond.methodLink "PostunionLaw" (73 : Nat) ({ cls := "Postunion", name := "settle", desc := "(I)J" } : Jvm.MethodName))), (661, (Jvm.Cond.instanceMethod ({ cls := "Postunion", name := "settle", desc := "(I)J" } : Jvm.MethodName)))]
set_option maxRecDepth 100000 in
theorem tW_13 : xwin lW_13 = true := by decide +kernel
def lW_14 : List (Nat × Cond) := [(662, (Jvm.Cond.selects "Postunion" ({ cls := "Postunion", name := "settle", desc := "(I)J" } : Jvm.MethodName) ({ cls := "Postunion", name := "settle", desc := "(I)J" } : Jvm.MethodName))), (663, (Jvm.Cond.code ({ cls := "Postunion", name := "settle", desc := "(I)J" } : Jvm.MethodName) prog_1_method_20_code (6 : Nat) (Option.some Jvm.ClassFile.FieldType.long))), (664, (Jvm.Cond.methodLink "Postunion" (212 : Nat) ({ cls := "Postunion", name := "settlePair", desc := "(LPostunion$Post;LPostunion$Post;I)J" } : Jvm.MethodName))), (665, (Jvm.Cond.static ({ cls := "Postunion", name := "settlePair", desc := "(LPostunion$Post;LPostunion$Post;I)J" } : Jvm.MethodName))), (666, (Jvm.Cond.code ({ cls := "Postunion", name := "settlePair", desc := "(LPostunion$Post;LPostunion$Post;I)J" } : Jvm.MethodName) prog_1_method_41_code (5 : Nat) (Option.some Jvm.ClassFile.FieldType.long))), (667, (Jvm.Cond.methodLink "PostunionLaw" (175 : Nat) ({ cls := "PostunionLaw", name := "rate", desc := "(LPostunion;IIIZ[J)I" } : Jvm.MethodName))), (668, (Jvm.Cond.static ({ cls := "PostunionLaw", name := "rate", desc := "(LPostunion;IIIZ[J)I" } : Jvm.MethodName))), (669, (Jvm.Cond.codeWith ({ cls := "PostunionLaw", name := "rate", desc := "(LPostunion;IIIZ[J)I" } : Jvm.MethodName) method_21_code (7 : Nat) (Option.some Jvm.ClassFile.FieldType.int) [((0 : Nat), (14 : Nat), (17 : Nat), (19 : Nat)), ((0 : Nat), (14 : Nat), (21 : Nat), (21 : Nat))])), (670, (Jvm.Cond.methodLink "PostunionLaw" (77 : Nat) ({ cls := "Postunion", name := "rate", desc := "(IIIZ)I" } : Jvm.MethodName))), (671, (Jvm.Cond.instanceMethod ({ cls := "Postunion", name := "rate", desc := "(IIIZ)I" } : Jvm.MethodName))), (672, (Jvm.Cond.selects "Postunion" ({ cls := "Postunion", name := "rate", desc := "(IIIZ)I" } : Jvm.MethodName) ({ cls := "Postunion", name := "rate", desc := "(IIIZ)I" } : Jvm.MethodName))), (673, (Jvm.Cond.code ({ cls := "Postunion", name := "rate", desc := "(IIIZ)I" } : Jvm.MethodName) prog_1_method_21_code (6 : Nat) (Option.some Jvm.ClassFile.FieldType.int))), (674, (Jvm.Cond.methodLink "PostunionLaw" (179 : Nat) ({ cls := "PostunionLaw", name := "ofThing", desc := "(LPostunion;II[J)I" } : Jvm.MethodName))), (675, (Jvm.Cond.static ({ cls := "PostunionLaw", name := "ofThing", desc := "(LPostunion;II[J)I" } : Jvm.MethodName))), (676, (Jvm.Cond.codeWith ({ cls := "PostunionLaw", name := "ofThing", desc := "(LPostunion;II[J)I" } : Jvm.MethodName) method_22_code (5 : Nat) (Option.some Jvm.ClassFile.FieldType.int) [((0 : Nat), (9 : Nat), (12 : Nat), (19 : Nat)), ((0 : Nat), (9 : Nat), (16 : Nat), (21 : Nat))])), (677, (Jvm.Cond.methodLink "PostunionLaw" (81 : Nat) ({ cls := "Postunion", name := "ofThing", desc := "(II)J" } : Jvm.MethodName))), (678, (Jvm.Cond.instanceMethod ({ cls := "Postunion", name := "ofThing", desc := "(II)J" } : Jvm.MethodName))), (679, (Jvm.Cond.selects "Postunion" ({ cls := "Postunion", name := "ofThing", desc := "(II)J" } : Jvm.MethodName) ({ cls := "Postunion", name := "ofThing", desc := "(II)J" } : Jvm.MethodName))), (680, (Jvm.Cond.code ({ cls := "Postunion", name := "ofThing", desc := "(II)J" } : Jvm.MethodName) prog_1_method_22_code (4 : Nat) (Option.some Jvm.ClassFile.FieldType.long))), (682, (Jvm.Cond.methodLink "PostunionLaw" (182 : Nat) ({ cls := "PostunionLaw", name := "hand", desc := "(LPostunion;II[J)I" } : Jvm.MethodName))), (683, (Jvm.Cond.static ({ cls := "PostunionLaw", name := "hand", desc := "(LPostunion;II[J)I" } : Jvm.MethodName))), (684, (Jvm.Cond.codeWith ({ cls := "PostunionLaw", name := "hand", desc := "(LPostunion;II[J)I" } : Jvm.MethodName) method_23_code (5 : Nat) (Option.some Jvm.ClassFile.FieldType.int) [((0 : Nat), (10 : Nat), (13 : Nat), (19 : Nat))])), (685, (Jvm.Cond.methodLink "PostunionLaw" (85 : Nat) ({ cls := "Postunion", name := "hand", desc := "(II)I" } : Jvm.MethodName))), (686, (Jvm.Cond.instanceMethod ({ cls := "Postunion", name := "hand", desc := "(II)I" } : Jvm.MethodName))), (687, (Jvm.Cond.selects "Postunion" ({ cls := "Postunion", name := "hand", desc := "(II)I" } : Jvm.MethodName) ({ cls := "Postunion", name := "hand", desc := "(II)I" } : Jvm.MethodName))), (688, (Jvm.Cond.code ({ cls := "Postunion", name := "hand", desc := "(II)I" } : Jvm.MethodName) prog_1_method_23_code (4 : Nat) (Option.some Jvm.ClassFile.FieldType.int))), (690, (Jvm.Cond.methodLink "PostunionLaw" (185 : Nat) ({ cls := "PostunionLaw", name := "account", desc := "(LPostunion;I[J)I" } : Jvm.MethodName))), (691, (Jvm.Cond.static ({ cls := "PostunionLaw", name := "account", desc := "(LPostunion;I[J)I" } : Jvm.MethodName))), (692, (Jvm.Cond.codeWith ({ cls := "PostunionLaw", name := "account", desc := "(LPostunion;I[J)I" } : Jvm.MethodName) method_24_code (4 : Nat) (Option.some Jvm.ClassFile.FieldType.int) [((0 : Nat), (8 : Nat), (11 : Nat), (19 : Nat))])), (693, (Jvm.Cond.methodLink "PostunionLaw" (88 : Nat) ({ cls := "Postunion", name := "account", desc := "(I)J" } : Jvm.MethodName))), (694, (Jvm.Cond.instanceMethod ({ cls := "Postunion", name := "account", desc := "(I)J" } : Jvm.MethodName))), (695, (Jvm.Cond.selects "Postunion" ({ cls := "Postunion", name := "account", desc := "(I)J" } : Jvm.MethodName) ({ cls := "Postunion", name := "account", desc := "(I)J" } : Jvm.MethodName))), (696, (Jvm.Cond.code ({ cls := "Postunion", name := "account", desc := "(I)J" } : Jvm.MethodName) prog_1_method_24_code (2 : Nat) (Option.some Jvm.ClassFile.FieldType.long))), (697, (Jvm.Cond.methodLink "PostunionLaw" (188 : Nat) ({ cls := "PostunionLaw", name := "till", desc := "(LPostunion;I[J)I" } : Jvm.MethodName))), (698, (Jvm.Cond.static ({ cls := "PostunionLaw", name := "till", desc := "(LPostunion;I[J)I" } : Jvm.MethodName))), (699, (Jvm.Cond.codeWith ({ cls := "PostunionLaw", name := "till", desc := "(LPostunion;I[J)I" } : Jvm.MethodName) method_25_code (4 : Nat) (Option.some Jvm.ClassFile.FieldType.int) [((0 : Nat), (8 : Nat), (11 : Nat), (19 : Nat))])), (700, (Jvm.Cond.methodLink "PostunionLaw" (91 : Nat) ({ cls := "Postunion", name := "till", desc := "(I)J" } : Jvm.MethodName))), (701, (Jvm.Cond.instanceMethod ({ cls := "Postunion", name := "till", desc := "(I)J" } : Jvm.MethodName))), (702, (Jvm.Cond.selects "Postunion" ({ cls := "Postunion", name := "till", desc := "(I)J" } : Jvm.MethodName) ({ cls := "Postunion", name := "till", desc := "(I)J" } : Jvm.MethodName))), (703, (Jvm.Cond.code ({ cls := "Postunion", name := "till", desc := "(I)J" } : Jvm.MethodName) prog_1_method_25_code (2 : Nat) (Option.some Jvm.ClassFile.FieldType.long)))]
set_option maxRecDepth 100000 in
theorem tW_14 : xwin lW_14 = true := by decide +kernel
def lW_15 : List (Nat × Cond) := [(704, (Jvm.Cond.methodLink "PostunionLaw" (191 : Nat) ({ cls := "PostunionLaw", name := "counted", desc := "(LPostunion;II[J)I" } : Jvm.MethodName))), (705, (Jvm.Cond.static ({ cls := "PostunionLaw", name := "counted", desc := "(LPostunion;II[J)I" } : Jvm.MethodName))), (706, (Jvm.Cond.codeWith ({ cls := "PostunionLaw", name := "counted", desc := "(LPostunion;II[J)I" } : Jvm.MethodName) method_26_code (5 : Nat) (Option.some Jvm.ClassFile.FieldType.int) [((0 : Nat), (9 : Nat), (12 : Nat), (19 : Nat))])), (707, (Jvm.Cond.methodLink "PostunionLaw" (94 : Nat) ({ cls := "Postunion", name := "counted", desc := "(II)J" } : Jvm.MethodName))), (708, (Jvm.Cond.instanceMethod ({ cls := "Postunion", name := "counted", desc := "(II)J" } : Jvm.MethodName))), (709, (Jvm.Cond.selects "Postunion" ({ cls := "Postunion", name := "counted", desc := "(II)J" } : Jvm.MethodName) ({ cls := "Postunion", name := "counted", desc := "(II)J" } : Jvm.MethodName))), (710, (Jvm.Cond.code ({ cls := "Postunion", name := "counted", desc := "(II)J" } : Jvm.MethodName) prog_1_method_26_code (5 : Nat) (Option.some Jvm.ClassFile.FieldType.long))), (711, (Jvm.Cond.methodLink "PostunionLaw" (194 : Nat) ({ cls := "PostunionLaw", name := "gain", desc := "(LPostunion;I[J)I" } : Jvm.MethodName))), (712, (Jvm.Cond.static ({ cls := "PostunionLaw", name := "gain", desc := "(LPostunion;I[J)I" } : Jvm.MethodName))), (713, (Jvm.Cond.codeWith ({ cls := "PostunionLaw", name := "gain", desc := "(LPostunion;I[J)I" } : Jvm.MethodName) method_27_code (4 : Nat) (Option.some Jvm.ClassFile.FieldType.int) [((0 : Nat), (9 : Nat), (12 : Nat), (21 : Nat))])), (714, (Jvm.Cond.methodLink "PostunionLaw" (97 : Nat) ({ cls := "Postunion", name := "gain", desc := "(I)I" } : Jvm.MethodName))), (715, (Jvm.Cond.instanceMethod ({ cls := "Postunion", name := "gain", desc := "(I)I" } : Jvm.MethodName))), (716, (Jvm.Cond.selects "Postunion" ({ cls := "Postunion", name := "gain", desc := "(I)I" } : Jvm.MethodName) ({ cls := "Postunion", name := "gain", desc := "(I)I" } : Jvm.MethodName))), (717, (Jvm.Cond.code ({ cls := "Postunion", name := "gain", desc := "(I)I" } : Jvm.MethodName) prog_1_method_27_code (8 : Nat) (Option.some Jvm.ClassFile.FieldType.int))), (718, (Jvm.Cond.methodLink "Postunion" (240 : Nat) ({ cls := "Postunion", name := "gainOf", desc := "(LPostunion$Post;LPostunion$Post;)I" } : Jvm.MethodName))), (719, (Jvm.Cond.static ({ cls := "Postunion", name := "gainOf", desc := "(LPostunion$Post;LPostunion$Post;)I" } : Jvm.MethodName))), (720, (Jvm.Cond.code ({ cls := "Postunion", name := "gainOf", desc := "(LPostunion$Post;LPostunion$Post;)I" } : Jvm.MethodName) prog_1_method_42_code (2 : Nat) (Option.some Jvm.ClassFile.FieldType.int))), (721, (Jvm.Cond.classLink "PostunionLaw" (101 : Nat) "PostunionModel")), (722, (Jvm.Cond.instantiable "PostunionModel" (39 : Nat))), (723, (Jvm.Cond.methodLink "PostunionLaw" (103 : Nat) ({ cls := "PostunionModel", name := "<init>", desc := "()V" } : Jvm.MethodName))), (724, (Jvm.Cond.instanceMethod ({ cls := "PostunionModel", name := "<init>", desc := "()V" } : Jvm.MethodName))), (725, (Jvm.Cond.code ({ cls := "PostunionModel", name := "<init>", desc := "()V" } : Jvm.MethodName) prog_7_method_1_code (1 : Nat) (Option.none : Option Jvm.ClassFile.FieldType))), (726, (Jvm.Cond.methodLink "PostunionModel" (1 : Nat) ({ cls := "java/lang/Object", name := "<init>", desc := "()V" } : Jvm.MethodName))), (727, (Jvm.Cond.constant "PostunionModel" (93 : Nat) (80000 : Int32))), (728, (Jvm.Cond.fieldLink "PostunionModel" (116 : Nat) "PostunionModel" "posts" "I")), (729, (Jvm.Cond.fieldLink "PostunionModel" (7 : Nat) "PostunionModel" "first" "[I")), (730, (Jvm.Cond.fieldLink "PostunionModel" (13 : Nat) "PostunionModel" "further" "[I")), (731, (Jvm.Cond.fieldLink "PostunionModel" (16 : Nat) "PostunionModel" "due" "[I")), (732, (Jvm.Cond.fieldLink "PostunionModel" (19 : Nat) "PostunionModel" "charge" "[I")), (733, (Jvm.Cond.fieldLink "PostunionModel" (22 : Nat) "PostunionModel" "coupon" "[I")), (734, (Jvm.Cond.fieldLink "PostunionModel" (25 : Nat) "PostunionModel" "strikes" "[Z")), (735, (Jvm.Cond.fieldLink "PostunionModel" (29 : Nat) "PostunionModel" "account" "[J")), (736, (Jvm.Cond.fieldLink "PostunionModel" (33 : Nat) "PostunionModel" "till" "[J")), (737, (Jvm.Cond.fieldLink "PostunionModel" (36 : Nat) "PostunionModel" "counted" "[J")), (738, (Jvm.Cond.fieldLink "PostunionModel" (138 : Nat) "PostunionModel" "legs" "I")), (739, (Jvm.Cond.fieldLink "PostunionModel" (39 : Nat) "PostunionModel" "one" "[I")), (740, (Jvm.Cond.fieldLink "PostunionModel" (42 : Nat) "PostunionModel" "other" "[I")), (741, (Jvm.Cond.fieldLink "PostunionModel" (45 : Nat) "PostunionModel" "legDays" "[I")), (742, (Jvm.Cond.fieldLink "PostunionModel" (48 : Nat) "PostunionModel" "isClosed" "[Z")), (743, (Jvm.Cond.fieldLink "PostunionModel" (51 : Nat) "PostunionModel" "far" "[I"))]
set_option maxRecDepth 100000 in
theorem tW_15 : xwin lW_15 = true := by decide +kernel
def lW_16 : List (Nat × Cond) := [(744, (Jvm.Cond.fieldLink "PostunionModel" (167 : Nat) "PostunionModel" "things" "I")), (745, (Jvm.Cond.fieldLink "PostunionModel" (54 : Nat) "PostunionModel" "kind" "[I")), (746, (Jvm.Cond.fieldLink "PostunionModel" (57 : Nat) "PostunionModel" "origin" "[I")), (747, (Jvm.Cond.fieldLink "PostunionModel" (60 : Nat) "PostunionModel" "target" "[I")), (748, (Jvm.Cond.fieldLink "PostunionModel" (63 : Nat) "PostunionModel" "grams" "[I")), (749, (Jvm.Cond.fieldLink "PostunionModel" (66 : Nat) "PostunionModel" "isRegistered" "[Z")), (750, (Jvm.Cond.fieldLink "PostunionModel" (69 : Nat) "PostunionModel" "lacks" "[I")), (751, (Jvm.Cond.fieldLink "PostunionModel" (72 : Nat) "PostunionModel" "state" "[I")), (752, (Jvm.Cond.fieldLink "PostunionModel" (75 : Nat) "PostunionModel" "at" "[I")), (753, (Jvm.Cond.fieldLink "PostunionModel" (78 : Nat) "PostunionModel" "on" "[I")), (754, (Jvm.Cond.fieldLink "PostunionModel" (81 : Nat) "PostunionModel" "left" "[I")), (755, (Jvm.Cond.fieldLink "PostunionModel" (84 : Nat) "PostunionModel" "isBack" "[Z")), (756, (Jvm.Cond.fieldLink "PostunionModel" (87 : Nat) "PostunionModel" "isRefused" "[Z")), (757, (Jvm.Cond.fieldLink "PostunionModel" (90 : Nat) "PostunionModel" "isClaimed" "[Z")), (758, (Jvm.Cond.fieldLink "PostunionModel" (160 : Nat) "PostunionModel" "signed" "I")), (759, (Jvm.Cond.fieldLink "PostunionModel" (94 : Nat) "PostunionModel" "post" "[I")), (760, (Jvm.Cond.fieldLink "PostunionModel" (97 : Nat) "PostunionModel" "following" "[I")), (761, (Jvm.Cond.fieldLink "PostunionModel" (100 : Nat) "PostunionModel" "firstHand" "[I")), (762, (Jvm.Cond.fieldLink "PostunionModel" (103 : Nat) "PostunionModel" "lastHand" "[I")), (763, (Jvm.Cond.fieldLink "PostunionModel" (106 : Nat) "PostunionModel" "hands" "[I")), (764, (Jvm.Cond.fieldLink "PostunionModel" (194 : Nat) "PostunionModel" "isSample" "Z")), (765, (Jvm.Cond.fieldLink "PostunionModel" (109 : Nat) "PostunionModel" "best" "[I")), (766, (Jvm.Cond.fieldLink "PostunionModel" (112 : Nat) "PostunionModel" "thrown" "I")), (767, (Jvm.Cond.lays "PostunionModel" "PostunionModel" "posts" "I")), (769, (Jvm.Cond.laysFinal "PostunionModel" "PostunionModel" "first" "[I")), (771, (Jvm.Cond.laysFinal "PostunionModel" "PostunionModel" "further" "[I")), (773, (Jvm.Cond.laysFinal "PostunionModel" "PostunionModel" "due" "[I")), (775, (Jvm.Cond.laysFinal "PostunionModel" "PostunionModel" "charge" "[I")), (777, (Jvm.Cond.laysFinal "PostunionModel" "PostunionModel" "coupon" "[I")), (779, (Jvm.Cond.laysFinal "PostunionModel" "PostunionModel" "strikes" "[Z")), (781, (Jvm.Cond.laysFinal "PostunionModel" "PostunionModel" "account" "[J")), (783, (Jvm.Cond.laysFinal "PostunionModel" "PostunionModel" "till" "[J")), (785, (Jvm.Cond.laysFinal "PostunionModel" "PostunionModel" "counted" "[J")), (787, (Jvm.Cond.lays "PostunionModel" "PostunionModel" "legs" "I")), (789, (Jvm.Cond.laysFinal "PostunionModel" "PostunionModel" "one" "[I")), (791, (Jvm.Cond.laysFinal "PostunionModel" "PostunionModel" "other" "[I")), (793, (Jvm.Cond.laysFinal "PostunionModel" "PostunionModel" "legDays" "[I")), (795, (Jvm.Cond.laysFinal "PostunionModel" "PostunionModel" "isClosed" "[Z")), (797, (Jvm.Cond.laysFinal "PostunionModel" "PostunionModel" "far" "[I")), (799, (Jvm.Cond.lays "PostunionModel" "PostunionModel" "things" "I"))]
set_option maxRecDepth 100000 in
theorem tW_16 : xwin lW_16 = true := by decide +kernel
def lW_17 : List (Nat × Cond) := [(801, (Jvm.Cond.laysFinal "PostunionModel" "PostunionModel" "kind" "[I")), (803, (Jvm.Cond.laysFinal "PostunionModel" "PostunionModel" "origin" "[I")), (805, (Jvm.Cond.laysFinal "PostunionModel" "PostunionModel" "target" "[I")), (807, (Jvm.Cond.laysFinal "PostunionModel" "PostunionModel" "grams" "[I")), (809, (Jvm.Cond.laysFinal "PostunionModel" "PostunionModel" "isRegistered" "[Z")), (811, (Jvm.Cond.laysFinal "PostunionModel" "PostunionModel" "lacks" "[I")), (813, (Jvm.Cond.laysFinal "PostunionModel" "PostunionModel" "state" "[I")), (815, (Jvm.Cond.laysFinal "PostunionModel" "PostunionModel" "at" "[I")), (817, (Jvm.Cond.laysFinal "PostunionModel" "PostunionModel" "on" "[I")), (819, (Jvm.Cond.laysFinal "PostunionModel" "PostunionModel" "left" "[I")), (821, (Jvm.Cond.laysFinal "PostunionModel" "PostunionModel" "isBack" "[Z")), (823, (Jvm.Cond.laysFinal "PostunionModel" "PostunionModel" "isRefused" "[Z")), (825, (Jvm.Cond.laysFinal "PostunionModel" "PostunionModel" "isClaimed" "[Z")), (827, (Jvm.Cond.lays "PostunionModel" "PostunionModel" "signed" "I")), (829, (Jvm.Cond.laysFinal "PostunionModel" "PostunionModel" "post" "[I")), (831, (Jvm.Cond.laysFinal "PostunionModel" "PostunionModel" "following" "[I")), (833, (Jvm.Cond.laysFinal "PostunionModel" "PostunionModel" "firstHand" "[I")), (835, (Jvm.Cond.laysFinal "PostunionModel" "PostunionModel" "lastHand" "[I")), (837, (Jvm.Cond.laysFinal "PostunionModel" "PostunionModel" "hands" "[I")), (839, (Jvm.Cond.lays "PostunionModel" "PostunionModel" "isSample" "Z")), (841, (Jvm.Cond.laysFinal "PostunionModel" "PostunionModel" "best" "[I")), (843, (Jvm.Cond.lays "PostunionModel" "PostunionModel" "thrown" "I")), (846, (Jvm.Cond.arrayClass Jvm.ClassFile.FieldType.boolean)), (847, (Jvm.Cond.methodLink "PostunionLaw" (110 : Nat) ({ cls := "PostunionModel", name := "thrown", desc := "()I" } : Jvm.MethodName))), (848, (Jvm.Cond.instanceMethod ({ cls := "PostunionModel", name := "thrown", desc := "()I" } : Jvm.MethodName))), (849, (Jvm.Cond.selects "PostunionModel" ({ cls := "PostunionModel", name := "thrown", desc := "()I" } : Jvm.MethodName) ({ cls := "PostunionModel", name := "thrown", desc := "()I" } : Jvm.MethodName))), (850, (Jvm.Cond.code ({ cls := "PostunionModel", name := "thrown", desc := "()I" } : Jvm.MethodName) prog_7_method_2_code (1 : Nat) (Option.some Jvm.ClassFile.FieldType.int))), (851, (Jvm.Cond.methodLink "PostunionLaw" (109 : Nat) ({ cls := "PostunionModel", name := "post", desc := "()I" } : Jvm.MethodName))), (852, (Jvm.Cond.instanceMethod ({ cls := "PostunionModel", name := "post", desc := "()I" } : Jvm.MethodName))), (853, (Jvm.Cond.selects "PostunionModel" ({ cls := "PostunionModel", name := "post", desc := "()I" } : Jvm.MethodName) ({ cls := "PostunionModel", name := "post", desc := "()I" } : Jvm.MethodName))), (854, (Jvm.Cond.code ({ cls := "PostunionModel", name := "post", desc := "()I" } : Jvm.MethodName) prog_7_method_9_code (1 : Nat) (Option.some Jvm.ClassFile.FieldType.int))), (855, (Jvm.Cond.methodLink "PostunionModel" (123 : Nat) ({ cls := "PostunionModel", name := "asks", desc := "(Z)Z" } : Jvm.MethodName))), (857, (Jvm.Cond.instanceMethod ({ cls := "PostunionModel", name := "asks", desc := "(Z)Z" } : Jvm.MethodName))), (858, (Jvm.Cond.code ({ cls := "PostunionModel", name := "asks", desc := "(Z)Z" } : Jvm.MethodName) prog_7_method_4_code (2 : Nat) (Option.some Jvm.ClassFile.FieldType.boolean))), (859, (Jvm.Cond.methodLink "PostunionLaw" (116 : Nat) ({ cls := "PostunionModel", name := "rates", desc := "(IIII)V" } : Jvm.MethodName))), (860, (Jvm.Cond.instanceMethod ({ cls := "PostunionModel", name := "rates", desc := "(IIII)V" } : Jvm.MethodName))), (861, (Jvm.Cond.selects "PostunionModel" ({ cls := "PostunionModel", name := "rates", desc := "(IIII)V" } : Jvm.MethodName) ({ cls := "PostunionModel", name := "rates", desc := "(IIII)V" } : Jvm.MethodName))), (862, (Jvm.Cond.code ({ cls := "PostunionModel", name := "rates", desc := "(IIII)V" } : Jvm.MethodName) prog_7_method_10_code (5 : Nat) (Option.none : Option Jvm.ClassFile.FieldType))), (863, (Jvm.Cond.methodLink "PostunionModel" (127 : Nat) ({ cls := "PostunionModel", name := "isPost", desc := "(I)Z" } : Jvm.MethodName))), (865, (Jvm.Cond.instanceMethod ({ cls := "PostunionModel", name := "isPost", desc := "(I)Z" } : Jvm.MethodName)))]
set_option maxRecDepth 100000 in
theorem tW_17 : xwin lW_17 = true := by decide +kernel
def lW_18 : List (Nat × Cond) := [(866, (Jvm.Cond.code ({ cls := "PostunionModel", name := "isPost", desc := "(I)Z" } : Jvm.MethodName) prog_7_method_6_code (2 : Nat) (Option.some Jvm.ClassFile.FieldType.boolean))), (867, (Jvm.Cond.methodLink "PostunionModel" (119 : Nat) ({ cls := "PostunionModel", name := "in", desc := "(III)Z" } : Jvm.MethodName))), (868, (Jvm.Cond.static ({ cls := "PostunionModel", name := "in", desc := "(III)Z" } : Jvm.MethodName))), (869, (Jvm.Cond.code ({ cls := "PostunionModel", name := "in", desc := "(III)Z" } : Jvm.MethodName) prog_7_method_5_code (3 : Nat) (Option.some Jvm.ClassFile.FieldType.boolean))), (870, (Jvm.Cond.methodLink "PostunionModel" (131 : Nat) ({ cls := "PostunionModel", name := "isKind", desc := "(I)Z" } : Jvm.MethodName))), (871, (Jvm.Cond.static ({ cls := "PostunionModel", name := "isKind", desc := "(I)Z" } : Jvm.MethodName))), (872, (Jvm.Cond.code ({ cls := "PostunionModel", name := "isKind", desc := "(I)Z" } : Jvm.MethodName) prog_7_method_7_code (1 : Nat) (Option.some Jvm.ClassFile.FieldType.boolean))), (873, (Jvm.Cond.methodLink "PostunionLaw" (120 : Nat) ({ cls := "PostunionModel", name := "due", desc := "(III)I" } : Jvm.MethodName))), (874, (Jvm.Cond.instanceMethod ({ cls := "PostunionModel", name := "due", desc := "(III)I" } : Jvm.MethodName))), (875, (Jvm.Cond.selects "PostunionModel" ({ cls := "PostunionModel", name := "due", desc := "(III)I" } : Jvm.MethodName) ({ cls := "PostunionModel", name := "due", desc := "(III)I" } : Jvm.MethodName))), (876, (Jvm.Cond.code ({ cls := "PostunionModel", name := "due", desc := "(III)I" } : Jvm.MethodName) prog_7_method_11_code (5 : Nat) (Option.some Jvm.ClassFile.FieldType.int))), (877, (Jvm.Cond.methodLink "PostunionModel" (134 : Nat) ({ cls := "PostunionModel", name := "fails", desc := "(I)I" } : Jvm.MethodName))), (879, (Jvm.Cond.instanceMethod ({ cls := "PostunionModel", name := "fails", desc := "(I)I" } : Jvm.MethodName))), (880, (Jvm.Cond.code ({ cls := "PostunionModel", name := "fails", desc := "(I)I" } : Jvm.MethodName) prog_7_method_3_code (2 : Nat) (Option.some Jvm.ClassFile.FieldType.int))), (881, (Jvm.Cond.methodLink "PostunionLaw" (124 : Nat) ({ cls := "PostunionModel", name := "charge", desc := "(II)I" } : Jvm.MethodName))), (882, (Jvm.Cond.instanceMethod ({ cls := "PostunionModel", name := "charge", desc := "(II)I" } : Jvm.MethodName))), (883, (Jvm.Cond.selects "PostunionModel" ({ cls := "PostunionModel", name := "charge", desc := "(II)I" } : Jvm.MethodName) ({ cls := "PostunionModel", name := "charge", desc := "(II)I" } : Jvm.MethodName))), (884, (Jvm.Cond.code ({ cls := "PostunionModel", name := "charge", desc := "(II)I" } : Jvm.MethodName) prog_7_method_12_code (4 : Nat) (Option.some Jvm.ClassFile.FieldType.int))), (885, (Jvm.Cond.methodLink "PostunionLaw" (127 : Nat) ({ cls := "PostunionModel", name := "coupon", desc := "(II)I" } : Jvm.MethodName))), (886, (Jvm.Cond.instanceMethod ({ cls := "PostunionModel", name := "coupon", desc := "(II)I" } : Jvm.MethodName))), (887, (Jvm.Cond.selects "PostunionModel" ({ cls := "PostunionModel", name := "coupon", desc := "(II)I" } : Jvm.MethodName) ({ cls := "PostunionModel", name := "coupon", desc := "(II)I" } : Jvm.MethodName))), (888, (Jvm.Cond.code ({ cls := "PostunionModel", name := "coupon", desc := "(II)I" } : Jvm.MethodName) prog_7_method_13_code (4 : Nat) (Option.some Jvm.ClassFile.FieldType.int))), (889, (Jvm.Cond.methodLink "PostunionLaw" (131 : Nat) ({ cls := "PostunionModel", name := "strike", desc := "(IZ)Z" } : Jvm.MethodName))), (890, (Jvm.Cond.instanceMethod ({ cls := "PostunionModel", name := "strike", desc := "(IZ)Z" } : Jvm.MethodName))), (891, (Jvm.Cond.selects "PostunionModel" ({ cls := "PostunionModel", name := "strike", desc := "(IZ)Z" } : Jvm.MethodName) ({ cls := "PostunionModel", name := "strike", desc := "(IZ)Z" } : Jvm.MethodName))), (892, (Jvm.Cond.code ({ cls := "PostunionModel", name := "strike", desc := "(IZ)Z" } : Jvm.MethodName) prog_7_method_14_code (4 : Nat) (Option.some Jvm.ClassFile.FieldType.boolean))), (893, (Jvm.Cond.methodLink "PostunionLaw" (134 : Nat) ({ cls := "PostunionModel", name := "leg", desc := "(III)I" } : Jvm.MethodName))), (894, (Jvm.Cond.instanceMethod ({ cls := "PostunionModel", name := "leg", desc := "(III)I" } : Jvm.MethodName))), (895, (Jvm.Cond.selects "PostunionModel" ({ cls := "PostunionModel", name := "leg", desc := "(III)I" } : Jvm.MethodName) ({ cls := "PostunionModel", name := "leg", desc := "(III)I" } : Jvm.MethodName))), (896, (Jvm.Cond.code ({ cls := "PostunionModel", name := "leg", desc := "(III)I" } : Jvm.MethodName) prog_7_method_15_code (4 : Nat) (Option.some Jvm.ClassFile.FieldType.int))), (897, (Jvm.Cond.methodLink "PostunionLaw" (137 : Nat) ({ cls := "PostunionModel", name := "close", desc := "(IZ)Z" } : Jvm.MethodName))), (898, (Jvm.Cond.instanceMethod ({ cls := "PostunionModel", name := "close", desc := "(IZ)Z" } : Jvm.MethodName))), (899, (Jvm.Cond.selects "PostunionModel" ({ cls := "PostunionModel", name := "close", desc := "(IZ)Z" } : Jvm.MethodName) ({ cls := "PostunionModel", name := "close", desc := "(IZ)Z" } : Jvm.MethodName))), (900, (Jvm.Cond.code ({ cls := "PostunionModel", name := "close", desc := "(IZ)Z" } : Jvm.MethodName) prog_7_method_16_code (4 : Nat) (Option.some Jvm.ClassFile.FieldType.boolean))), (901, (Jvm.Cond.methodLink "PostunionLaw" (140 : Nat) ({ cls := "PostunionModel", name := "days", desc := "(II)I" } : Jvm.MethodName))), (902, (Jvm.Cond.instanceMethod ({ cls := "PostunionModel", name := "days", desc := "(II)I" } : Jvm.MethodName))), (903, (Jvm.Cond.selects "PostunionModel" ({ cls := "PostunionModel", name := "days", desc := "(II)I" } : Jvm.MethodName) ({ cls := "PostunionModel", name := "days", desc := "(II)I" } : Jvm.MethodName))), (904, (Jvm.Cond.code ({ cls := "PostunionModel", name := "days", desc := "(II)I" } : Jvm.MethodName) prog_7_method_21_code (3 : Nat) (Option.some Jvm.ClassFile.FieldType.int))), (905, (Jvm.Cond.methodLink "PostunionModel" (146 : Nat) ({ cls := "PostunionModel", name := "daysTold", desc := "(II)I" } : Jvm.MethodName))), (907, (Jvm.Cond.instanceMethod ({ cls := "PostunionModel", name := "daysTold", desc := "(II)I" } : Jvm.MethodName)))]
set_option maxRecDepth 100000 in
theorem tW_18 : xwin lW_18 = true := by decide +kernel
def lW_19 : List (Nat × Cond) := [(908, (Jvm.Cond.code ({ cls := "PostunionModel", name := "daysTold", desc := "(II)I" } : Jvm.MethodName) prog_7_method_20_code (3 : Nat) (Option.some Jvm.ClassFile.FieldType.int))), (909, (Jvm.Cond.methodLink "PostunionModel" (142 : Nat) ({ cls := "PostunionModel", name := "measures", desc := "(I)V" } : Jvm.MethodName))), (911, (Jvm.Cond.instanceMethod ({ cls := "PostunionModel", name := "measures", desc := "(I)V" } : Jvm.MethodName))), (912, (Jvm.Cond.code ({ cls := "PostunionModel", name := "measures", desc := "(I)V" } : Jvm.MethodName) prog_7_method_19_code (6 : Nat) (Option.none : Option Jvm.ClassFile.FieldType))), (913, (Jvm.Cond.constant "PostunionModel" (141 : Nat) (1000000 : Int32))), (914, (Jvm.Cond.methodLink "PostunionLaw" (143 : Nat) ({ cls := "PostunionModel", name := "daysAnew", desc := "(II)I" } : Jvm.MethodName))), (915, (Jvm.Cond.instanceMethod ({ cls := "PostunionModel", name := "daysAnew", desc := "(II)I" } : Jvm.MethodName))), (916, (Jvm.Cond.selects "PostunionModel" ({ cls := "PostunionModel", name := "daysAnew", desc := "(II)I" } : Jvm.MethodName) ({ cls := "PostunionModel", name := "daysAnew", desc := "(II)I" } : Jvm.MethodName))), (917, (Jvm.Cond.code ({ cls := "PostunionModel", name := "daysAnew", desc := "(II)I" } : Jvm.MethodName) prog_7_method_22_code (3 : Nat) (Option.some Jvm.ClassFile.FieldType.int))), (918, (Jvm.Cond.methodLink "PostunionLaw" (146 : Nat) ({ cls := "PostunionModel", name := "next", desc := "(II)I" } : Jvm.MethodName))), (919, (Jvm.Cond.instanceMethod ({ cls := "PostunionModel", name := "next", desc := "(II)I" } : Jvm.MethodName))), (920, (Jvm.Cond.selects "PostunionModel" ({ cls := "PostunionModel", name := "next", desc := "(II)I" } : Jvm.MethodName) ({ cls := "PostunionModel", name := "next", desc := "(II)I" } : Jvm.MethodName))), (921, (Jvm.Cond.code ({ cls := "PostunionModel", name := "next", desc := "(II)I" } : Jvm.MethodName) prog_7_method_24_code (3 : Nat) (Option.some Jvm.ClassFile.FieldType.int))), (922, (Jvm.Cond.methodLink "PostunionModel" (157 : Nat) ({ cls := "PostunionModel", name := "nextOf", desc := "(II)I" } : Jvm.MethodName))), (924, (Jvm.Cond.instanceMethod ({ cls := "PostunionModel", name := "nextOf", desc := "(II)I" } : Jvm.MethodName))), (925, (Jvm.Cond.code ({ cls := "PostunionModel", name := "nextOf", desc := "(II)I" } : Jvm.MethodName) prog_7_method_23_code (7 : Nat) (Option.some Jvm.ClassFile.FieldType.int))), (926, (Jvm.Cond.methodLink "PostunionModel" (150 : Nat) ({ cls := "PostunionModel", name := "ends", desc := "(II)Z" } : Jvm.MethodName))), (928, (Jvm.Cond.instanceMethod ({ cls := "PostunionModel", name := "ends", desc := "(II)Z" } : Jvm.MethodName))), (929, (Jvm.Cond.code ({ cls := "PostunionModel", name := "ends", desc := "(II)Z" } : Jvm.MethodName) prog_7_method_18_code (3 : Nat) (Option.some Jvm.ClassFile.FieldType.boolean))), (930, (Jvm.Cond.methodLink "PostunionModel" (154 : Nat) ({ cls := "PostunionModel", name := "across", desc := "(II)I" } : Jvm.MethodName))), (932, (Jvm.Cond.instanceMethod ({ cls := "PostunionModel", name := "across", desc := "(II)I" } : Jvm.MethodName))), (933, (Jvm.Cond.code ({ cls := "PostunionModel", name := "across", desc := "(II)I" } : Jvm.MethodName) prog_7_method_17_code (3 : Nat) (Option.some Jvm.ClassFile.FieldType.int))), (934, (Jvm.Cond.methodLink "PostunionLaw" (150 : Nat) ({ cls := "PostunionModel", name := "mail", desc := "(IIIIIZ)I" } : Jvm.MethodName))), (935, (Jvm.Cond.instanceMethod ({ cls := "PostunionModel", name := "mail", desc := "(IIIIIZ)I" } : Jvm.MethodName))), (936, (Jvm.Cond.selects "PostunionModel" ({ cls := "PostunionModel", name := "mail", desc := "(IIIIIZ)I" } : Jvm.MethodName) ({ cls := "PostunionModel", name := "mail", desc := "(IIIIIZ)I" } : Jvm.MethodName))), (937, (Jvm.Cond.code ({ cls := "PostunionModel", name := "mail", desc := "(IIIIIZ)I" } : Jvm.MethodName) prog_7_method_27_code (9 : Nat) (Option.some Jvm.ClassFile.FieldType.int))), (938, (Jvm.Cond.methodLink "PostunionModel" (163 : Nat) ({ cls := "PostunionModel", name := "areGrams", desc := "(II)Z" } : Jvm.MethodName))), (939, (Jvm.Cond.static ({ cls := "PostunionModel", name := "areGrams", desc := "(II)Z" } : Jvm.MethodName))), (940, (Jvm.Cond.code ({ cls := "PostunionModel", name := "areGrams", desc := "(II)Z" } : Jvm.MethodName) prog_7_method_8_code (2 : Nat) (Option.some Jvm.ClassFile.FieldType.boolean))), (941, (Jvm.Cond.constant "PostunionModel" (166 : Nat) (100000 : Int32))), (942, (Jvm.Cond.methodLink "PostunionModel" (170 : Nat) ({ cls := "PostunionModel", name := "rateOf", desc := "(IIIZ)I" } : Jvm.MethodName))), (944, (Jvm.Cond.instanceMethod ({ cls := "PostunionModel", name := "rateOf", desc := "(IIIZ)I" } : Jvm.MethodName))), (945, (Jvm.Cond.code ({ cls := "PostunionModel", name := "rateOf", desc := "(IIIZ)I" } : Jvm.MethodName) prog_7_method_25_code (6 : Nat) (Option.some Jvm.ClassFile.FieldType.int))), (946, (Jvm.Cond.methodLink "PostunionModel" (174 : Nat) ({ cls := "PostunionModel", name := "signs", desc := "(II)V" } : Jvm.MethodName))), (948, (Jvm.Cond.instanceMethod ({ cls := "PostunionModel", name := "signs", desc := "(II)V" } : Jvm.MethodName))), (949, (Jvm.Cond.code ({ cls := "PostunionModel", name := "signs", desc := "(II)V" } : Jvm.MethodName) prog_7_method_26_code (3 : Nat) (Option.none : Option Jvm.ClassFile.FieldType))), (950, (Jvm.Cond.methodLink "PostunionLaw" (153 : Nat) ({ cls := "PostunionModel", name := "redirect", desc := "(II)I" } : Jvm.MethodName))), (951, (Jvm.Cond.instanceMethod ({ cls := "PostunionModel", name := "redirect", desc := "(II)I" } : Jvm.MethodName))), (952, (Jvm.Cond.selects "PostunionModel" ({ cls := "PostunionModel", name := "redirect", desc := "(II)I" } : Jvm.MethodName) ({ cls := "PostunionModel", name := "redirect", desc := "(II)I" } : Jvm.MethodName))), (953, (Jvm.Cond.code ({ cls := "PostunionModel", name := "redirect", desc := "(II)I" } : Jvm.MethodName) prog_7_method_30_code (4 : Nat) (Option.some Jvm.ClassFile.FieldType.int)))]
set_option maxRecDepth 100000 in
theorem tW_19 : xwin lW_19 = true := by decide +kernel
def lW_20 : List (Nat × Cond) := [(954, (Jvm.Cond.methodLink "PostunionModel" (178 : Nat) ({ cls := "PostunionModel", name := "isThing", desc := "(I)Z" } : Jvm.MethodName))), (956, (Jvm.Cond.instanceMethod ({ cls := "PostunionModel", name := "isThing", desc := "(I)Z" } : Jvm.MethodName))), (957, (Jvm.Cond.code ({ cls := "PostunionModel", name := "isThing", desc := "(I)Z" } : Jvm.MethodName) prog_7_method_28_code (2 : Nat) (Option.some Jvm.ClassFile.FieldType.boolean))), (958, (Jvm.Cond.methodLink "PostunionModel" (181 : Nat) ({ cls := "PostunionModel", name := "isUnderWay", desc := "(I)Z" } : Jvm.MethodName))), (960, (Jvm.Cond.instanceMethod ({ cls := "PostunionModel", name := "isUnderWay", desc := "(I)Z" } : Jvm.MethodName))), (961, (Jvm.Cond.code ({ cls := "PostunionModel", name := "isUnderWay", desc := "(I)Z" } : Jvm.MethodName) prog_7_method_29_code (2 : Nat) (Option.some Jvm.ClassFile.FieldType.boolean))), (962, (Jvm.Cond.methodLink "PostunionLaw" (156 : Nat) ({ cls := "PostunionModel", name := "refuse", desc := "(IZ)Z" } : Jvm.MethodName))), (963, (Jvm.Cond.instanceMethod ({ cls := "PostunionModel", name := "refuse", desc := "(IZ)Z" } : Jvm.MethodName))), (964, (Jvm.Cond.selects "PostunionModel" ({ cls := "PostunionModel", name := "refuse", desc := "(IZ)Z" } : Jvm.MethodName) ({ cls := "PostunionModel", name := "refuse", desc := "(IZ)Z" } : Jvm.MethodName))), (965, (Jvm.Cond.code ({ cls := "PostunionModel", name := "refuse", desc := "(IZ)Z" } : Jvm.MethodName) prog_7_method_31_code (4 : Nat) (Option.some Jvm.ClassFile.FieldType.boolean))), (966, (Jvm.Cond.methodLink "PostunionLaw" (160 : Nat) ({ cls := "PostunionModel", name := "go", desc := "(I)I" } : Jvm.MethodName))), (967, (Jvm.Cond.instanceMethod ({ cls := "PostunionModel", name := "go", desc := "(I)I" } : Jvm.MethodName))), (968, (Jvm.Cond.selects "PostunionModel" ({ cls := "PostunionModel", name := "go", desc := "(I)I" } : Jvm.MethodName) ({ cls := "PostunionModel", name := "go", desc := "(I)I" } : Jvm.MethodName))), (969, (Jvm.Cond.code ({ cls := "PostunionModel", name := "go", desc := "(I)I" } : Jvm.MethodName) prog_7_method_37_code (5 : Nat) (Option.some Jvm.ClassFile.FieldType.int))), (970, (Jvm.Cond.methodLink "PostunionModel" (201 : Nat) ({ cls := "PostunionModel", name := "travels", desc := "(I)I" } : Jvm.MethodName))), (972, (Jvm.Cond.instanceMethod ({ cls := "PostunionModel", name := "travels", desc := "(I)I" } : Jvm.MethodName))), (973, (Jvm.Cond.code ({ cls := "PostunionModel", name := "travels", desc := "(I)I" } : Jvm.MethodName) prog_7_method_35_code (2 : Nat) (Option.some Jvm.ClassFile.FieldType.int))), (974, (Jvm.Cond.methodLink "PostunionModel" (198 : Nat) ({ cls := "PostunionModel", name := "comes", desc := "(I)I" } : Jvm.MethodName))), (976, (Jvm.Cond.instanceMethod ({ cls := "PostunionModel", name := "comes", desc := "(I)I" } : Jvm.MethodName))), (977, (Jvm.Cond.code ({ cls := "PostunionModel", name := "comes", desc := "(I)I" } : Jvm.MethodName) prog_7_method_34_code (5 : Nat) (Option.some Jvm.ClassFile.FieldType.int))), (978, (Jvm.Cond.methodLink "PostunionModel" (186 : Nat) ({ cls := "PostunionModel", name := "taxOf", desc := "(I)J" } : Jvm.MethodName))), (980, (Jvm.Cond.instanceMethod ({ cls := "PostunionModel", name := "taxOf", desc := "(I)J" } : Jvm.MethodName))), (981, (Jvm.Cond.code ({ cls := "PostunionModel", name := "taxOf", desc := "(I)J" } : Jvm.MethodName) prog_7_method_32_code (5 : Nat) (Option.some Jvm.ClassFile.FieldType.long))), (982, (Jvm.Cond.constantLong "PostunionModel" (184 : Nat) (2 : Int64))), (983, (Jvm.Cond.methodLink "PostunionModel" (190 : Nat) ({ cls := "PostunionModel", name := "pays", desc := "(IIJ)V" } : Jvm.MethodName))), (985, (Jvm.Cond.instanceMethod ({ cls := "PostunionModel", name := "pays", desc := "(IIJ)V" } : Jvm.MethodName))), (986, (Jvm.Cond.code ({ cls := "PostunionModel", name := "pays", desc := "(IIJ)V" } : Jvm.MethodName) prog_7_method_33_code (5 : Nat) (Option.none : Option Jvm.ClassFile.FieldType))), (987, (Jvm.Cond.methodLink "PostunionModel" (204 : Nat) ({ cls := "PostunionModel", name := "leaves", desc := "(I)V" } : Jvm.MethodName))), (989, (Jvm.Cond.instanceMethod ({ cls := "PostunionModel", name := "leaves", desc := "(I)V" } : Jvm.MethodName))), (990, (Jvm.Cond.code ({ cls := "PostunionModel", name := "leaves", desc := "(I)V" } : Jvm.MethodName) prog_7_method_36_code (4 : Nat) (Option.none : Option Jvm.ClassFile.FieldType))), (991, (Jvm.Cond.methodLink "PostunionLaw" (163 : Nat) ({ cls := "PostunionModel", name := "lose", desc := "(I)I" } : Jvm.MethodName))), (992, (Jvm.Cond.instanceMethod ({ cls := "PostunionModel", name := "lose", desc := "(I)I" } : Jvm.MethodName))), (993, (Jvm.Cond.selects "PostunionModel" ({ cls := "PostunionModel", name := "lose", desc := "(I)I" } : Jvm.MethodName) ({ cls := "PostunionModel", name := "lose", desc := "(I)I" } : Jvm.MethodName))), (994, (Jvm.Cond.code ({ cls := "PostunionModel", name := "lose", desc := "(I)I" } : Jvm.MethodName) prog_7_method_38_code (2 : Nat) (Option.some Jvm.ClassFile.FieldType.int))), (995, (Jvm.Cond.methodLink "PostunionLaw" (166 : Nat) ({ cls := "PostunionModel", name := "claim", desc := "(I)I" } : Jvm.MethodName))), (996, (Jvm.Cond.instanceMethod ({ cls := "PostunionModel", name := "claim", desc := "(I)I" } : Jvm.MethodName))), (997, (Jvm.Cond.selects "PostunionModel" ({ cls := "PostunionModel", name := "claim", desc := "(I)I" } : Jvm.MethodName) ({ cls := "PostunionModel", name := "claim", desc := "(I)I" } : Jvm.MethodName))), (998, (Jvm.Cond.code ({ cls := "PostunionModel", name := "claim", desc := "(I)I" } : Jvm.MethodName) prog_7_method_40_code (2 : Nat) (Option.some Jvm.ClassFile.FieldType.int))), (999, (Jvm.Cond.constantLong "PostunionModel" (207 : Nat) (4000 : Int64))), (1000, (Jvm.Cond.methodLink "PostunionModel" (209 : Nat) ({ cls := "PostunionModel", name := "paysFor", desc := "(III)I" } : Jvm.MethodName)))]
set_option maxRecDepth 100000 in
theorem tW_20 : xwin lW_20 = true := by decide +kernel
def lW_21 : List (Nat × Cond) := [(1002, (Jvm.Cond.instanceMethod ({ cls := "PostunionModel", name := "paysFor", desc := "(III)I" } : Jvm.MethodName))), (1003, (Jvm.Cond.code ({ cls := "PostunionModel", name := "paysFor", desc := "(III)I" } : Jvm.MethodName) prog_7_method_39_code (4 : Nat) (Option.some Jvm.ClassFile.FieldType.int))), (1004, (Jvm.Cond.methodLink "PostunionLaw" (171 : Nat) ({ cls := "PostunionModel", name := "sample", desc := "(Z)Z" } : Jvm.MethodName))), (1005, (Jvm.Cond.instanceMethod ({ cls := "PostunionModel", name := "sample", desc := "(Z)Z" } : Jvm.MethodName))), (1006, (Jvm.Cond.selects "PostunionModel" ({ cls := "PostunionModel", name := "sample", desc := "(Z)Z" } : Jvm.MethodName) ({ cls := "PostunionModel", name := "sample", desc := "(Z)Z" } : Jvm.MethodName))), (1007, (Jvm.Cond.code ({ cls := "PostunionModel", name := "sample", desc := "(Z)Z" } : Jvm.MethodName) prog_7_method_41_code (3 : Nat) (Option.some Jvm.ClassFile.FieldType.boolean))), (1008, (Jvm.Cond.methodLink "PostunionLaw" (174 : Nat) ({ cls := "PostunionModel", name := "settle", desc := "(I)J" } : Jvm.MethodName))), (1009, (Jvm.Cond.instanceMethod ({ cls := "PostunionModel", name := "settle", desc := "(I)J" } : Jvm.MethodName))), (1010, (Jvm.Cond.selects "PostunionModel" ({ cls := "PostunionModel", name := "settle", desc := "(I)J" } : Jvm.MethodName) ({ cls := "PostunionModel", name := "settle", desc := "(I)J" } : Jvm.MethodName))), (1011, (Jvm.Cond.code ({ cls := "PostunionModel", name := "settle", desc := "(I)J" } : Jvm.MethodName) prog_7_method_42_code (7 : Nat) (Option.some Jvm.ClassFile.FieldType.long))), (1012, (Jvm.Cond.methodLink "PostunionLaw" (178 : Nat) ({ cls := "PostunionModel", name := "rate", desc := "(IIIZ)I" } : Jvm.MethodName))), (1013, (Jvm.Cond.instanceMethod ({ cls := "PostunionModel", name := "rate", desc := "(IIIZ)I" } : Jvm.MethodName))), (1014, (Jvm.Cond.selects "PostunionModel" ({ cls := "PostunionModel", name := "rate", desc := "(IIIZ)I" } : Jvm.MethodName) ({ cls := "PostunionModel", name := "rate", desc := "(IIIZ)I" } : Jvm.MethodName))), (1015, (Jvm.Cond.code ({ cls := "PostunionModel", name := "rate", desc := "(IIIZ)I" } : Jvm.MethodName) prog_7_method_43_code (5 : Nat) (Option.some Jvm.ClassFile.FieldType.int))), (1016, (Jvm.Cond.methodLink "PostunionLaw" (181 : Nat) ({ cls := "PostunionModel", name := "ofThing", desc := "(II)J" } : Jvm.MethodName))), (1017, (Jvm.Cond.instanceMethod ({ cls := "PostunionModel", name := "ofThing", desc := "(II)J" } : Jvm.MethodName))), (1018, (Jvm.Cond.selects "PostunionModel" ({ cls := "PostunionModel", name := "ofThing", desc := "(II)J" } : Jvm.MethodName) ({ cls := "PostunionModel", name := "ofThing", desc := "(II)J" } : Jvm.MethodName))), (1019, (Jvm.Cond.code ({ cls := "PostunionModel", name := "ofThing", desc := "(II)J" } : Jvm.MethodName) prog_7_method_44_code (3 : Nat) (Option.some Jvm.ClassFile.FieldType.long))), (1020, (Jvm.Cond.methodLink "PostunionLaw" (184 : Nat) ({ cls := "PostunionModel", name := "hand", desc := "(II)I" } : Jvm.MethodName))), (1021, (Jvm.Cond.instanceMethod ({ cls := "PostunionModel", name := "hand", desc := "(II)I" } : Jvm.MethodName))), (1022, (Jvm.Cond.selects "PostunionModel" ({ cls := "PostunionModel", name := "hand", desc := "(II)I" } : Jvm.MethodName) ({ cls := "PostunionModel", name := "hand", desc := "(II)I" } : Jvm.MethodName))), (1023, (Jvm.Cond.code ({ cls := "PostunionModel", name := "hand", desc := "(II)I" } : Jvm.MethodName) prog_7_method_45_code (5 : Nat) (Option.some Jvm.ClassFile.FieldType.int))), (1024, (Jvm.Cond.methodLink "PostunionLaw" (187 : Nat) ({ cls := "PostunionModel", name := "account", desc := "(I)J" } : Jvm.MethodName))), (1025, (Jvm.Cond.instanceMethod ({ cls := "PostunionModel", name := "account", desc := "(I)J" } : Jvm.MethodName))), (1026, (Jvm.Cond.selects "PostunionModel" ({ cls := "PostunionModel", name := "account", desc := "(I)J" } : Jvm.MethodName) ({ cls := "PostunionModel", name := "account", desc := "(I)J" } : Jvm.MethodName))), (1027, (Jvm.Cond.code ({ cls := "PostunionModel", name := "account", desc := "(I)J" } : Jvm.MethodName) prog_7_method_46_code (2 : Nat) (Option.some Jvm.ClassFile.FieldType.long))), (1028, (Jvm.Cond.methodLink "PostunionLaw" (190 : Nat) ({ cls := "PostunionModel", name := "till", desc := "(I)J" } : Jvm.MethodName))), (1029, (Jvm.Cond.instanceMethod ({ cls := "PostunionModel", name := "till", desc := "(I)J" } : Jvm.MethodName))), (1030, (Jvm.Cond.selects "PostunionModel" ({ cls := "PostunionModel", name := "till", desc := "(I)J" } : Jvm.MethodName) ({ cls := "PostunionModel", name := "till", desc := "(I)J" } : Jvm.MethodName))), (1031, (Jvm.Cond.code ({ cls := "PostunionModel", name := "till", desc := "(I)J" } : Jvm.MethodName) prog_7_method_47_code (2 : Nat) (Option.some Jvm.ClassFile.FieldType.long))), (1032, (Jvm.Cond.methodLink "PostunionLaw" (193 : Nat) ({ cls := "PostunionModel", name := "counted", desc := "(II)J" } : Jvm.MethodName))), (1033, (Jvm.Cond.instanceMethod ({ cls := "PostunionModel", name := "counted", desc := "(II)J" } : Jvm.MethodName))), (1034, (Jvm.Cond.selects "PostunionModel" ({ cls := "PostunionModel", name := "counted", desc := "(II)J" } : Jvm.MethodName) ({ cls := "PostunionModel", name := "counted", desc := "(II)J" } : Jvm.MethodName))), (1035, (Jvm.Cond.code ({ cls := "PostunionModel", name := "counted", desc := "(II)J" } : Jvm.MethodName) prog_7_method_48_code (3 : Nat) (Option.some Jvm.ClassFile.FieldType.long))), (1036, (Jvm.Cond.methodLink "PostunionLaw" (196 : Nat) ({ cls := "PostunionModel", name := "gain", desc := "(I)I" } : Jvm.MethodName))), (1037, (Jvm.Cond.instanceMethod ({ cls := "PostunionModel", name := "gain", desc := "(I)I" } : Jvm.MethodName))), (1038, (Jvm.Cond.selects "PostunionModel" ({ cls := "PostunionModel", name := "gain", desc := "(I)I" } : Jvm.MethodName) ({ cls := "PostunionModel", name := "gain", desc := "(I)I" } : Jvm.MethodName))), (1039, (Jvm.Cond.code ({ cls := "PostunionModel", name := "gain", desc := "(I)I" } : Jvm.MethodName) prog_7_method_49_code (5 : Nat) (Option.some Jvm.ClassFile.FieldType.int)))]
set_option maxRecDepth 100000 in
theorem tW_21 : xwin lW_21 = true := by decide +kernel
end
section
theorem BG_sub {l : List Cond} (h : ∀ w ∈ l, w ∈ BG) : GoodIn BG l := fun w hw => ⟨h w hw, good_of_word (List.mem_filter.mp (h w hw)).2⟩
def xMB (y : MethodName) (cb : ByteArray) (nL : Nat) (ret : Option FieldType) (n : Nat) : Prop := Cond.initialized y.cls ∈ BG ∧ Cond.code y cb nL ret ∈ BG ∧ (y.cls ≠ "java/lang/invoke/MethodHandle" ∧ y.cls ≠ "java/lang/invoke/VarHandle" ∧ (parseMethodDescriptor y.desc).map (fun d => d.parameters.length) = some n) ∧ plainName y.cls = true
def xMV (y : MethodName) (cb : ByteArray) (nL : Nat) (ret : Option FieldType) (n : Nat) : Prop := Cond.instanceMethod y ∈ BG ∧ Cond.selects y.cls y y ∈ BG ∧ xMB y cb nL ret n
def xMS (y : MethodName) (cb : ByteArray) (nL : Nat) (ret : Option FieldType) (n : Nat) : Prop := Cond.static y ∈ BG ∧ xMB y cb nL ret n
def xMI (y : MethodName) (cb : ByteArray) (nL : Nat) (n : Nat) : Prop := Cond.instanceMethod y ∈ BG ∧ y.name = "<init>" ∧ xMB y cb nL none n
theorem YM_of {l : Launch} {y : MethodName} {cc : ByteArray} {nL : Nat} {ret : Option FieldType} {fr lo ce sl : Nat} {Z : xZ} {B0 : Nat} {av : List Value} {lay : xK → Nat} {C : xK → Option xE} {post : Option Value → (xK → Nat) → (xK → Option xE) → Prop} {n : Nat} (M : xMB y cc nL ret n) (own : String) (hown : y.cls = own) (lv0 : List (Option Value)) (hlv : xl lv0 0 = lv_args 0 av) (hlen : (lg_sl av).length ≤ nL)
    (body : ∀ (p : Program) (e : Env) (s : State) (m : MethodId) (args : Array Value) (below : List Frame) (meth : Method) (c : Code), Cx p m meth c cc nL s args own Z B0 → meth.sig.returnType = ret → meth.name = y.name → V p l e { frames := fr, cells := ce, slots := sl, locals := lo } s m args below meth c (MQ below (yQ Z B0 post) args s ce sl (fun q => B0 ≤ q)) Z B0 nL lay C 0 0 0 lv0 []) : YM l y cc nL ret fr lo ce sl Z B0 av lay C post := by
  refine Met.ofW (cc := cc) (maxL := nL) (ret := ret) M.2.2.2 rfl ?_
  intro p e s m args below meth c s₁ B hml hv
  obtain ⟨rfl, hP, hKn, hB⟩ := hv
  have X : Cx p m meth c cc nL s av.toArray own Z B0 := ⟨⟨B.exec, B.bytes, hml, by rw [← hown]; exact findClass_of_methodNamed B.named, fun w hw => atoms_spec (ws := Cond.code y cc nL ret :: BG) B.pre w (List.mem_cons_of_mem _ hw)⟩, hKn, hB, B.notSynchronized⟩
  rw [lg_entry_eq]
  exact body p e s m av.toArray below meth c X B.returns (name_of_methodNamed B.named B.method).1 _ s.heap [] (by rw [hlv]; exact lv_entry av hlen) hP va_S.rf
section XC
variable {p : Program} {l : Launch} {e : Env} {R : Room} {s : State} {m : MethodId} {args : Array Value} {below : List Frame} {meth : Method} {c : Code} {Q : State → Prop} {Z : xZ} {B0 nL : Nat} {lay : xK → Nat} {C : xK → Option xE} {cells slots pc : Nat} {lv : List (Option Value)} {rest st : List Value} {cc : ByteArray} {own : String} {post : Option Value → (xK → Nat) → (xK → Option xE) → Prop} {ce sl : Nat}
theorem v_iret (X : Cx p m meth c cc nL s args own Z B0) (hr : meth.sig.returnType = some .int) {v : Int32} (hdg : decode cc pc = .ok (.ireturn, 1)) (h1 : cells ≤ ce) (h2 : slots ≤ sl) (hp : post (some (.int v)) lay C) : V p l e R s m args below meth c (MQ below (yQ Z B0 post) args s ce sl (fun q => B0 ≤ q)) Z B0 nL lay C cells slots pc lv [.int v] :=
  fun ls H locs hl hP hS => W.widen h1 h2 (W.iret X.1.1 X.1.2.1 hr (fun t ht hW => ⟨⟨_, lay, C, rfl, hp, by rw [ht]; exact hP⟩, hS.F ht⟩) hS.2.2 hdg X.2.2.2)
theorem v_zret (X : Cx p m meth c cc nL s args own Z B0) (hr : meth.sig.returnType = some .boolean) {v : Int32} (hdg : decode cc pc = .ok (.ireturn, 1)) (h1 : cells ≤ ce) (h2 : slots ≤ sl) (hn : narrow .boolean (.int v) = .int v) (hp : post (some (.int v)) lay C) : V p l e R s m args below meth c (MQ below (yQ Z B0 post) args s ce sl (fun q => B0 ≤ q)) Z B0 nL lay C cells slots pc lv [.int v] :=
  fun ls H locs hl hP hS => W.widen h1 h2 (W.zret X.1.1 X.1.2.1 hr hn (fun t ht hW => ⟨⟨_, lay, C, rfl, hp, by rw [ht]; exact hP⟩, hS.F ht⟩) hS.2.2 hdg X.2.2.2)
theorem v_lret (X : Cx p m meth c cc nL s args own Z B0) (hr : meth.sig.returnType = some .long) {v : Int64} (hdg : decode cc pc = .ok (.lreturn, 1)) (h1 : cells ≤ ce) (h2 : slots ≤ sl) (hp : post (some (.long v)) lay C) : V p l e R s m args below meth c (MQ below (yQ Z B0 post) args s ce sl (fun q => B0 ≤ q)) Z B0 nL lay C cells slots pc lv [.long v] :=
  fun ls H locs hl hP hS => W.widen h1 h2 (W.lret X.1.1 X.1.2.1 hr (fun t ht hW => ⟨⟨_, lay, C, rfl, hp, by rw [ht]; exact hP⟩, hS.F ht⟩) hS.2.2 hdg X.2.2.2)
theorem v_vret (X : Cx p m meth c cc nL s args own Z B0) (hr : meth.sig.returnType = none) (hdg : decode cc pc = .ok (.return_, 1)) (h1 : cells ≤ ce) (h2 : slots ≤ sl) (hp : post none lay C) : V p l e R s m args below meth c (MQ below (yQ Z B0 post) args s ce sl (fun q => B0 ≤ q)) Z B0 nL lay C cells slots pc lv [] :=
  fun ls H locs hl hP hS => W.widen h1 h2 (W.vret X.1.1 X.1.2.1 hr (fun t ht hW => ⟨⟨_, lay, C, rfl, hp, by rw [ht]; exact hP⟩, hS.F ht⟩) hS.2.2 hdg X.2.2.2)
theorem v_aret (X : Cx p m meth c cc nL s args own Z B0) {cn : String} (hr : meth.sig.returnType = some (.object cn)) {v : Value} (hv : v = .null ∨ ∃ a, v = .ref a) (hdg : decode cc pc = .ok (.areturn, 1)) (h1 : cells ≤ ce) (h2 : slots ≤ sl) (hp : post (some v) lay C) : V p l e R s m args below meth c (MQ below (yQ Z B0 post) args s ce sl (fun q => B0 ≤ q)) Z B0 nL lay C cells slots pc lv [v] :=
  fun ls H locs hl hP hS => W.widen h1 h2 (W.aret X.1.1 X.1.2.1 hr (Or.inl ⟨_, rfl⟩) hv (fun t ht hW => ⟨⟨_, lay, C, rfl, hp, by rw [ht]; exact hP⟩, hS.F ht⟩) hS.2.2 hdg X.2.2.2)
theorem x_call {H : Heap} {locs : List Loc} {ls : Array Slot} {st0 : List Value} {a : Array Value} (hr : va_Run p l e R s m args below meth c H locs cells slots ce sl (F0 m pc ls st0) rest (yQ Z B0 post a) (fun q => B0 ≤ q)) (hB : B0 ≤ s.heap.size) (hS : va_S (fun q => B0 ≤ q) s.heap H locs) (hl : lv_has ls nL (xl lv 0))
    (kk : ∀ (v : Option Value) (lay' : xK → Nat) (C' : xK → Option xE), post v lay' C' → V p l e R s m args below meth c Q Z B0 nL lay' C' (cells + ce) (slots + sl) (pc + 3) lv (v.toList ++ rest)) : W p l e R s m args below meth c H locs cells slots Q (F0 m pc ls st0) := by
  intro T hT X
  obtain ⟨v, st₀, t, T', L, h0, X', hL, e1, e2, ⟨⟨v', lay', C', hv, hp, hP'⟩, hz, hk⟩, st⟩ := hr T hT X
  cases hv
  rw [h0] at hz hk
  obtain ⟨t2, a1, b1⟩ := kk v lay' C' hp ls T'.heap (locs ++ L) hl (by rw [e1]; exact hP')
    ⟨Nat.le_trans hS.1 (by rw [e1]; exact hz), fun q h1 h2 => by rw [e1, hk q (Nat.lt_of_lt_of_le h1 hS.1) h2]; exact hS.2.1 q h1 h2, fun q hq => by
      rcases List.mem_append.mp hq with h | h
      · exact hS.2.2 q h
      · exact hL q h⟩ T' rfl X'
  exact ⟨t2, st t2 a1, b1⟩
variable {y : MethodName} {cb : ByteArray} {nLb fr lo n : Nat} {ret : Option FieldType}
theorem v_callV (X : Cx p m meth c cc nL s args own Z B0) (M : xMV y cb nLb ret n) {b : Nat} (As : List Value) (rest : List Value) (h : YM l y cb nLb ret fr lo ce sl Z B0 (.ref b :: As) lay C post) {index : Nat} (hlink : Cond.methodLink own index y ∈ BG) (k : xK) {ci : Nat} {f : Nat → Value} (he : C k = some (.inr (ci, f))) (ha : lay k = b) {T : u_T} {N : Nat} {cn : String} (hc : vwCl[ci]? = some (cn, T, N)) (hcn : cn = y.cls) (hn : As.length = n) (hst : st = As.reverse ++ .ref b :: rest) (hW : (rest.map fun v => v.category).sum ≤ 8) (hdg : decode cc pc = .ok (.invokevirtual index, 3)) (hR : fr + 1 ≤ R.frames ∧ 8 + (nLb + 11) + lo ≤ R.locals) (hf : cells + ce ≤ R.cells ∧ slots + sl ≤ R.slots)
    (kk : ∀ (v : Option Value) (lay' : xK → Nat) (C' : xK → Option xE), post v lay' C' → V p l e R s m args below meth c Q Z B0 nL lay' C' (cells + ce) (slots + sl) (pc + 3) lv (v.toList ++ rest)) : V p l e R s m args below meth c Q Z B0 nL lay C cells slots pc lv st := by
  intro ls H locs hl hP hS
  subst ha hcn hst
  refine x_call (va_runV (C := y.cls) (n := n) (As := As) (rest := rest) X.1 h (cwV n X.1.2.2.2.2 (BG_sub (fun w hw => ?_)) rfl rfl rfl ⟨rfl, M.2.2.2.2.1⟩ hR) ⟨yP.blind, ?_, fun U hU hW9 => ⟨rfl, by rw [hU]; exact hP, X.2.1.warm hW9, by rw [hU]; exact Nat.le_trans X.2.2.1 hS.1⟩⟩ rfl hn hl.1 rfl (lv_room hW) hdg hf) X.2.2.1 hS hl kk
  · rcases List.mem_append.mp hw with hw | hw
    · simp only [List.mem_cons, List.not_mem_nil, or_false] at hw
      rcases hw with rfl | rfl | rfl | rfl
      · exact hlink
      · exact M.1
      · exact M.2.1
      · exact M.2.2.1
    · rcases List.mem_cons.mp hw with rfl | hw
      · exact M.2.2.2.1
      · exact hw
  · obtain ⟨r, h1, cell, q1, q2, q3, -⟩ := hP.1 k _ he
    cases h1.symm.trans hc
    exact ⟨cell, q1, by rw [q3]; rfl, by rw [q2]; exact (X.2.1.1.1 ci _ hc).2.1⟩
theorem v_callS (X : Cx p m meth c cc nL s args own Z B0) (M : xMS y cb nLb ret n) (As : List Value) (rest : List Value) (h : YM l y cb nLb ret fr lo ce sl Z B0 As lay C post) {index : Nat} (hlink : Cond.methodLink own index y ∈ BG) (hown : y.cls = own) (hn : As.length = n) (hst : st = As.reverse ++ rest) (hW : (rest.map fun v => v.category).sum ≤ 8) (hdg : decode cc pc = .ok (.invokestatic index, 3)) (hR : fr + 1 ≤ R.frames ∧ 8 + (nLb + 11) + lo ≤ R.locals) (hf : cells + ce ≤ R.cells ∧ slots + sl ≤ R.slots)
    (kk : ∀ (v : Option Value) (lay' : xK → Nat) (C' : xK → Option xE), post v lay' C' → V p l e R s m args below meth c Q Z B0 nL lay' C' (cells + ce) (slots + sl) (pc + 3) lv (v.toList ++ rest)) : V p l e R s m args below meth c Q Z B0 nL lay C cells slots pc lv st := by
  intro ls H locs hl hP hS
  subst hst
  refine x_call (va_runS (n := n) (As := As) (rest := rest) X.1 h (cwS n X.1.2.2.2.2 (BG_sub (fun w hw => ?_)) rfl rfl rfl ⟨hown, M.2.2.2.1⟩ hR) ⟨yP.blind, fun U hU hW9 => ⟨rfl, by rw [hU]; exact hP, X.2.1.warm hW9, by rw [hU]; exact Nat.le_trans X.2.2.1 hS.1⟩⟩ rfl hn hl.1 rfl (lv_room hW) hdg hf) X.2.2.1 hS hl kk
  rcases List.mem_append.mp hw with hw | hw
  · simp only [List.mem_cons, List.not_mem_nil, or_false] at hw
    rcases hw with rfl | rfl | rfl
    · exact hlink
    · exact M.1
    · rw [← hown]; exact M.2.1
  · rcases List.mem_cons.mp hw with rfl | hw
    · exact M.2.2.1
    · exact hw
theorem v_callI (X : Cx p m meth c cc nL s args own Z B0) (M : xMI y cb nLb n) {b : Nat} (As : List Value) (rest : List Value) (h : YM l y cb nLb none fr lo ce sl Z B0 (.ref b :: As) lay C post) {index : Nat} (hlink : Cond.methodLink own index y ∈ BG) (hn : As.length = n) (hst : st = As.reverse ++ .ref b :: rest) (hW : (rest.map fun v => v.category).sum ≤ 8) (hdg : decode cc pc = .ok (.invokespecial index, 3)) (hR : fr + 1 ≤ R.frames ∧ 8 + (nLb + 11) + lo ≤ R.locals) (hf : cells + ce ≤ R.cells ∧ slots + sl ≤ R.slots)
    (kk : ∀ (v : Option Value) (lay' : xK → Nat) (C' : xK → Option xE), post v lay' C' → V p l e R s m args below meth c Q Z B0 nL lay' C' (cells + ce) (slots + sl) (pc + 3) lv (v.toList ++ rest)) : V p l e R s m args below meth c Q Z B0 nL lay C cells slots pc lv st := by
  intro ls H locs hl hP hS
  subst hst
  exact x_call (va_runI (n := n) (As := As) (rest := rest) X.1 h (cwI n X.1.2.2.2.2 (BG_good M.2.2.2.1) rfl rfl rfl (X.1.2.2.2.2 _ M.2.2.1) (X.1.2.2.2.2 _ hlink) (X.1.2.2.2.2 _ M.1) M.2.1 M.2.2.2.2.1 hR) ⟨yP.blind, fun U hU hW9 => ⟨rfl, by rw [hU]; exact hP, X.2.1.warm hW9, by rw [hU]; exact Nat.le_trans X.2.2.1 hS.1⟩⟩ rfl hn hl.1 rfl (lv_room hW) hdg hf) X.2.2.1 hS hl kk
/-- a nest mate's private static method -/
theorem v_callSN (X : Cx p m meth c cc nL s args own Z B0) (M : xMS y cb nLb ret n) (As : List Value) (rest : List Value) (h : YM l y cb nLb ret fr lo ce sl Z B0 As lay C post) {index : Nat} {host : String} (hlink : xNest = Cond.methodLinkNest own index y host) (hn : As.length = n) (hst : st = As.reverse ++ rest) (hW : (rest.map fun v => v.category).sum ≤ 8) (hdg : decode cc pc = .ok (.invokestatic index, 3)) (hR : fr + 1 ≤ R.frames ∧ 8 + (nLb + 11) + lo ≤ R.locals) (hf : cells + ce ≤ R.cells ∧ slots + sl ≤ R.slots)
    (kk : ∀ (v : Option Value) (lay' : xK → Nat) (C' : xK → Option xE), post v lay' C' → V p l e R s m args below meth c Q Z B0 nL lay' C' (cells + ce) (slots + sl) (pc + 3) lv (v.toList ++ rest)) : V p l e R s m args below meth c Q Z B0 nL lay C cells slots pc lv st := by
  intro ls H locs hl hP hS
  subst hst
  exact x_call (va_runSN (n := n) (As := As) (rest := rest) X.1 h ⟨va_cnB n X.1.2.2.2.2 (BG_good M.2.2.1) rfl rfl rfl (hlink ▸ X.2.1.2) (X.1.2.2.2.2 _ M.2.1) M.2.2.2.1 hR, X.1.2.2.2.2 _ M.1, trivial⟩ ⟨yP.blind, fun U hU hW9 => ⟨rfl, by rw [hU]; exact hP, X.2.1.warm hW9, by rw [hU]; exact Nat.le_trans X.2.2.1 hS.1⟩⟩ rfl hn hl.1 rfl (lv_room hW) hdg hf) X.2.2.1 hS hl kk
end XC
theorem myX0_init : xMI yX0_init cX0_init 4 3 := ⟨(xw_at tW_7 28 rfl), rfl, ⟨(xw_at tW_1 7 rfl), (xw_at tW_7 29 rfl), by decide +kernel, by decide +kernel⟩⟩
theorem myX0_farEnd : xMV yX0_farEnd cX0_farEnd 2 ((some (FieldType.object "Postunion$Post"))) 1 := ⟨(xw_at tW_13 10 rfl), (xw_at tW_13 11 rfl), ⟨(xw_at tW_1 7 rfl), (xw_at tW_13 12 rfl), by decide +kernel, by decide +kernel⟩⟩
theorem myX0_leadsTo : xMV yX0_leadsTo cX0_leadsTo 2 ((some FieldType.int)) 1 := ⟨(xw_at tW_2 18 rfl), (xw_at tW_2 19 rfl), ⟨(xw_at tW_1 7 rfl), (xw_at tW_2 20 rfl), by decide +kernel, by decide +kernel⟩⟩
theorem myX1_init : xMI yX1_init cX1_init 2 1 := ⟨(xw_at tW_4 25 rfl), rfl, ⟨(xw_at tW_1 4 rfl), (xw_at tW_4 26 rfl), by decide +kernel, by decide +kernel⟩⟩
theorem myX1_rateOf : xMV yX1_rateOf cX1_rateOf 5 ((some FieldType.int)) 3 := ⟨(xw_at tW_9 32 rfl), (xw_at tW_9 33 rfl), ⟨(xw_at tW_1 4 rfl), (xw_at tW_9 34 rfl), by decide +kernel, by decide +kernel⟩⟩
theorem myX1_chargeFor : xMV yX1_chargeFor cX1_chargeFor 2 ((some FieldType.long)) 1 := ⟨(xw_at tW_13 2 rfl), (xw_at tW_13 3 rfl), ⟨(xw_at tW_1 4 rfl), (xw_at tW_13 4 rfl), by decide +kernel, by decide +kernel⟩⟩
theorem myX2_init : xMI yX2_init cX2_init 1 0 := ⟨(xw_at tW_1 22 rfl), rfl, ⟨(xw_at tW_0 35 rfl), (xw_at tW_1 23 rfl), by decide +kernel, by decide +kernel⟩⟩
theorem myX2_addLeg : xMV yX2_addLeg cX2_addLeg 4 ((some FieldType.int)) 3 := ⟨(xw_at tW_7 23 rfl), (xw_at tW_7 24 rfl), ⟨(xw_at tW_0 35 rfl), (xw_at tW_7 25 rfl), by decide +kernel, by decide +kernel⟩⟩
theorem myX2_legOf : xMV yX2_legOf cX2_legOf 2 ((some (FieldType.object "Postunion$Leg"))) 1 := ⟨(xw_at tW_8 14 rfl), (xw_at tW_8 15 rfl), ⟨(xw_at tW_0 35 rfl), (xw_at tW_8 16 rfl), by decide +kernel, by decide +kernel⟩⟩
theorem myX2_setClosed : xMV yX2_setClosed cX2_setClosed 4 ((some FieldType.boolean)) 2 := ⟨(xw_at tW_8 18 rfl), (xw_at tW_8 19 rfl), ⟨(xw_at tW_0 35 rfl), (xw_at tW_8 20 rfl), by decide +kernel, by decide +kernel⟩⟩
theorem myX2_leastDays : xMV yX2_leastDays cX2_leastDays 3 ((some FieldType.int)) 2 := ⟨(xw_at tW_8 29 rfl), (xw_at tW_8 30 rfl), ⟨(xw_at tW_0 35 rfl), (xw_at tW_8 31 rfl), by decide +kernel, by decide +kernel⟩⟩
theorem myX2_leastDaysOfAllWays : xMV yX2_leastDaysOfAllWays cX2_leastDaysOfAllWays 3 ((some FieldType.int)) 2 := ⟨(xw_at tW_9 3 rfl), (xw_at tW_9 4 rfl), ⟨(xw_at tW_0 35 rfl), (xw_at tW_9 5 rfl), by decide +kernel, by decide +kernel⟩⟩
theorem myX2_onwardLeg : xMV yX2_onwardLeg cX2_onwardLeg 3 ((some FieldType.int)) 2 := ⟨(xw_at tW_9 17 rfl), (xw_at tW_9 18 rfl), ⟨(xw_at tW_0 35 rfl), (xw_at tW_9 19 rfl), by decide +kernel, by decide +kernel⟩⟩
theorem myX2_cell : xMS yX2_cell cX2_cell 2 ((some FieldType.int)) 2 := ⟨(xw_at tW_2 0 rfl), ⟨(xw_at tW_0 35 rfl), (xw_at tW_2 1 rfl), by decide +kernel, by decide +kernel⟩⟩
theorem myX2_noneIfFar : xMS yX2_noneIfFar cX2_noneIfFar 1 ((some FieldType.int)) 1 := ⟨(xw_at tW_8 33 rfl), ⟨(xw_at tW_0 35 rfl), (xw_at tW_8 34 rfl), by decide +kernel, by decide +kernel⟩⟩
theorem myX2_leastOfWays : xMS yX2_leastOfWays cX2_leastOfWays 9 ((some FieldType.int)) 5 := ⟨(xw_at tW_9 7 rfl), ⟨(xw_at tW_0 35 rfl), (xw_at tW_9 8 rfl), by decide +kernel, by decide +kernel⟩⟩
theorem myX2_reckon : xMV yX2_reckon cX2_reckon 1 ((none : Option FieldType)) 0 := ⟨(xw_at tW_1 27 rfl), (xw_at tW_0 0 rfl), ⟨(xw_at tW_0 35 rfl), (xw_at tW_1 28 rfl), by decide +kernel, by decide +kernel⟩⟩
theorem myX2_reckonDirect : xMV yX2_reckonDirect cX2_reckonDirect 3 ((none : Option FieldType)) 0 := ⟨(xw_at tW_1 30 rfl), (xw_at tW_0 1 rfl), ⟨(xw_at tW_0 35 rfl), (xw_at tW_1 31 rfl), by decide +kernel, by decide +kernel⟩⟩
theorem myX2_shorten : xMV yX2_shorten cX2_shorten 4 ((none : Option FieldType)) 3 := ⟨(xw_at tW_1 37 rfl), (xw_at tW_0 2 rfl), ⟨(xw_at tW_0 35 rfl), (xw_at tW_1 38 rfl), by decide +kernel, by decide +kernel⟩⟩
theorem myX2_reckonLeast : xMV yX2_reckonLeast cX2_reckonLeast 5 ((none : Option FieldType)) 0 := ⟨(xw_at tW_2 6 rfl), (xw_at tW_0 3 rfl), ⟨(xw_at tW_0 35 rfl), (xw_at tW_2 7 rfl), by decide +kernel, by decide +kernel⟩⟩
theorem myX2_reckonOnward : xMV yX2_reckonOnward cX2_reckonOnward 3 ((none : Option FieldType)) 0 := ⟨(xw_at tW_2 12 rfl), (xw_at tW_0 4 rfl), ⟨(xw_at tW_0 35 rfl), (xw_at tW_2 13 rfl), by decide +kernel, by decide +kernel⟩⟩
theorem myX2_firstLegOf : xMV yX2_firstLegOf cX2_firstLegOf 8 ((some FieldType.int)) 2 := ⟨(xw_at tW_2 15 rfl), (xw_at tW_0 5 rfl), ⟨(xw_at tW_0 35 rfl), (xw_at tW_2 16 rfl), by decide +kernel, by decide +kernel⟩⟩
theorem myX3_init : xMI yX3_init cX3_init 7 6 := ⟨(xw_at tW_10 2 rfl), rfl, ⟨(xw_at tW_1 8 rfl), (xw_at tW_10 3 rfl), by decide +kernel, by decide +kernel⟩⟩
theorem myX3_isUnderWay : xMV yX3_isUnderWay cX3_isUnderWay 1 ((some FieldType.boolean)) 0 := ⟨(xw_at tW_11 37 rfl), (xw_at tW_11 38 rfl), ⟨(xw_at tW_1 8 rfl), (xw_at tW_11 39 rfl), by decide +kernel, by decide +kernel⟩⟩
theorem myX3_taxOfNow : xMV yX3_taxOfNow cX3_taxOfNow 4 ((some FieldType.long)) 0 := ⟨(xw_at tW_12 25 rfl), (xw_at tW_12 26 rfl), ⟨(xw_at tW_1 8 rfl), (xw_at tW_12 27 rfl), by decide +kernel, by decide +kernel⟩⟩
theorem myX3_departOn : xMV yX3_departOn cX3_departOn 2 ((none : Option FieldType)) 1 := ⟨(xw_at tW_13 6 rfl), (xw_at tW_13 7 rfl), ⟨(xw_at tW_1 8 rfl), (xw_at tW_13 8 rfl), by decide +kernel, by decide +kernel⟩⟩
theorem myX3_arrivesToday : xMV yX3_arrivesToday cX3_arrivesToday 1 ((some FieldType.boolean)) 0 := ⟨(xw_at tW_12 18 rfl), (xw_at tW_12 19 rfl), ⟨(xw_at tW_1 8 rfl), (xw_at tW_12 20 rfl), by decide +kernel, by decide +kernel⟩⟩
theorem myX3_latestHand : xMV yX3_latestHand cX3_latestHand 1 ((some FieldType.int)) 0 := ⟨(xw_at tW_13 21 rfl), (xw_at tW_13 22 rfl), ⟨(xw_at tW_1 8 rfl), (xw_at tW_13 23 rfl), by decide +kernel, by decide +kernel⟩⟩
theorem myX3_sign : xMV yX3_sign cX3_sign 1 ((none : Option FieldType)) 0 := ⟨(xw_at tW_10 6 rfl), (xw_at tW_0 8 rfl), ⟨(xw_at tW_1 8 rfl), (xw_at tW_10 7 rfl), by decide +kernel, by decide +kernel⟩⟩
theorem myX4_init : xMI yX4_init cX4_init 1 0 := ⟨(xw_at tW_1 12 rfl), rfl, ⟨(xw_at tW_0 34 rfl), (xw_at tW_1 13 rfl), by decide +kernel, by decide +kernel⟩⟩
theorem myX4_post : xMV yX4_post cX4_post 1 ((some FieldType.int)) 0 := ⟨(xw_at tW_3 13 rfl), (xw_at tW_3 14 rfl), ⟨(xw_at tW_0 34 rfl), (xw_at tW_3 15 rfl), by decide +kernel, by decide +kernel⟩⟩
theorem myX4_rates : xMV yX4_rates cX4_rates 6 ((none : Option FieldType)) 4 := ⟨(xw_at tW_5 29 rfl), (xw_at tW_5 30 rfl), ⟨(xw_at tW_0 34 rfl), (xw_at tW_5 31 rfl), by decide +kernel, by decide +kernel⟩⟩
theorem myX4_due : xMV yX4_due cX4_due 6 ((some FieldType.int)) 3 := ⟨(xw_at tW_6 31 rfl), (xw_at tW_6 32 rfl), ⟨(xw_at tW_0 34 rfl), (xw_at tW_6 33 rfl), by decide +kernel, by decide +kernel⟩⟩
theorem myX4_charge : xMV yX4_charge cX4_charge 5 ((some FieldType.int)) 2 := ⟨(xw_at tW_6 38 rfl), (xw_at tW_6 39 rfl), ⟨(xw_at tW_0 34 rfl), (xw_at tW_7 0 rfl), by decide +kernel, by decide +kernel⟩⟩
theorem myX4_coupon : xMV yX4_coupon cX4_coupon 5 ((some FieldType.int)) 2 := ⟨(xw_at tW_7 5 rfl), (xw_at tW_7 6 rfl), ⟨(xw_at tW_0 34 rfl), (xw_at tW_7 7 rfl), by decide +kernel, by decide +kernel⟩⟩
theorem myX4_strike : xMV yX4_strike cX4_strike 5 ((some FieldType.boolean)) 2 := ⟨(xw_at tW_7 12 rfl), (xw_at tW_7 13 rfl), ⟨(xw_at tW_0 34 rfl), (xw_at tW_7 14 rfl), by decide +kernel, by decide +kernel⟩⟩
theorem myX4_leg : xMV yX4_leg cX4_leg 7 ((some FieldType.int)) 3 := ⟨(xw_at tW_7 19 rfl), (xw_at tW_7 20 rfl), ⟨(xw_at tW_0 34 rfl), (xw_at tW_7 21 rfl), by decide +kernel, by decide +kernel⟩⟩
theorem myX4_close : xMV yX4_close cX4_close 4 ((some FieldType.boolean)) 2 := ⟨(xw_at tW_8 10 rfl), (xw_at tW_8 11 rfl), ⟨(xw_at tW_0 34 rfl), (xw_at tW_8 12 rfl), by decide +kernel, by decide +kernel⟩⟩
theorem myX4_days : xMV yX4_days cX4_days 3 ((some FieldType.int)) 2 := ⟨(xw_at tW_8 25 rfl), (xw_at tW_8 26 rfl), ⟨(xw_at tW_0 34 rfl), (xw_at tW_8 27 rfl), by decide +kernel, by decide +kernel⟩⟩
theorem myX4_daysAnew : xMV yX4_daysAnew cX4_daysAnew 3 ((some FieldType.int)) 2 := ⟨(xw_at tW_8 39 rfl), (xw_at tW_9 0 rfl), ⟨(xw_at tW_0 34 rfl), (xw_at tW_9 1 rfl), by decide +kernel, by decide +kernel⟩⟩
theorem myX4_next : xMV yX4_next cX4_next 3 ((some FieldType.int)) 2 := ⟨(xw_at tW_9 13 rfl), (xw_at tW_9 14 rfl), ⟨(xw_at tW_0 34 rfl), (xw_at tW_9 15 rfl), by decide +kernel, by decide +kernel⟩⟩
theorem myX4_mail : xMV yX4_mail cX4_mail 10 ((some FieldType.int)) 6 := ⟨(xw_at tW_9 24 rfl), (xw_at tW_9 25 rfl), ⟨(xw_at tW_0 34 rfl), (xw_at tW_9 26 rfl), by decide +kernel, by decide +kernel⟩⟩
theorem myX4_redirect : xMV yX4_redirect cX4_redirect 6 ((some FieldType.int)) 2 := ⟨(xw_at tW_11 27 rfl), (xw_at tW_11 28 rfl), ⟨(xw_at tW_0 34 rfl), (xw_at tW_11 29 rfl), by decide +kernel, by decide +kernel⟩⟩
theorem myX4_refuse : xMV yX4_refuse cX4_refuse 5 ((some FieldType.boolean)) 2 := ⟨(xw_at tW_12 4 rfl), (xw_at tW_12 5 rfl), ⟨(xw_at tW_0 34 rfl), (xw_at tW_12 6 rfl), by decide +kernel, by decide +kernel⟩⟩
theorem myX4_go : xMV yX4_go cX4_go 4 ((some FieldType.int)) 1 := ⟨(xw_at tW_12 11 rfl), (xw_at tW_12 12 rfl), ⟨(xw_at tW_0 34 rfl), (xw_at tW_12 13 rfl), by decide +kernel, by decide +kernel⟩⟩
theorem myX4_lose : xMV yX4_lose cX4_lose 3 ((some FieldType.int)) 1 := ⟨(xw_at tW_13 17 rfl), (xw_at tW_13 18 rfl), ⟨(xw_at tW_0 34 rfl), (xw_at tW_13 19 rfl), by decide +kernel, by decide +kernel⟩⟩
theorem myX4_claim : xMV yX4_claim cX4_claim 4 ((some FieldType.int)) 1 := ⟨(xw_at tW_13 28 rfl), (xw_at tW_13 29 rfl), ⟨(xw_at tW_0 34 rfl), (xw_at tW_13 30 rfl), by decide +kernel, by decide +kernel⟩⟩
theorem myX4_sample : xMV yX4_sample cX4_sample 3 ((some FieldType.boolean)) 1 := ⟨(xw_at tW_3 5 rfl), (xw_at tW_3 6 rfl), ⟨(xw_at tW_0 34 rfl), (xw_at tW_3 7 rfl), by decide +kernel, by decide +kernel⟩⟩
theorem myX4_settle : xMV yX4_settle cX4_settle 6 ((some FieldType.long)) 1 := ⟨(xw_at tW_13 39 rfl), (xw_at tW_14 0 rfl), ⟨(xw_at tW_0 34 rfl), (xw_at tW_14 1 rfl), by decide +kernel, by decide +kernel⟩⟩
theorem myX4_rate : xMV yX4_rate cX4_rate 6 ((some FieldType.int)) 4 := ⟨(xw_at tW_14 9 rfl), (xw_at tW_14 10 rfl), ⟨(xw_at tW_0 34 rfl), (xw_at tW_14 11 rfl), by decide +kernel, by decide +kernel⟩⟩
theorem myX4_ofThing : xMV yX4_ofThing cX4_ofThing 4 ((some FieldType.long)) 2 := ⟨(xw_at tW_14 16 rfl), (xw_at tW_14 17 rfl), ⟨(xw_at tW_0 34 rfl), (xw_at tW_14 18 rfl), by decide +kernel, by decide +kernel⟩⟩
theorem myX4_hand : xMV yX4_hand cX4_hand 4 ((some FieldType.int)) 2 := ⟨(xw_at tW_14 23 rfl), (xw_at tW_14 24 rfl), ⟨(xw_at tW_0 34 rfl), (xw_at tW_14 25 rfl), by decide +kernel, by decide +kernel⟩⟩
theorem myX4_account : xMV yX4_account cX4_account 2 ((some FieldType.long)) 1 := ⟨(xw_at tW_14 30 rfl), (xw_at tW_14 31 rfl), ⟨(xw_at tW_0 34 rfl), (xw_at tW_14 32 rfl), by decide +kernel, by decide +kernel⟩⟩
theorem myX4_till : xMV yX4_till cX4_till 2 ((some FieldType.long)) 1 := ⟨(xw_at tW_14 37 rfl), (xw_at tW_14 38 rfl), ⟨(xw_at tW_0 34 rfl), (xw_at tW_14 39 rfl), by decide +kernel, by decide +kernel⟩⟩
theorem myX4_counted : xMV yX4_counted cX4_counted 5 ((some FieldType.long)) 2 := ⟨(xw_at tW_15 4 rfl), (xw_at tW_15 5 rfl), ⟨(xw_at tW_0 34 rfl), (xw_at tW_15 6 rfl), by decide +kernel, by decide +kernel⟩⟩
theorem myX4_gain : xMV yX4_gain cX4_gain 8 ((some FieldType.int)) 1 := ⟨(xw_at tW_15 11 rfl), (xw_at tW_15 12 rfl), ⟨(xw_at tW_0 34 rfl), (xw_at tW_15 13 rfl), by decide +kernel, by decide +kernel⟩⟩
theorem myX4_postOf : xMV yX4_postOf cX4_postOf 2 ((some (FieldType.object "Postunion$Post"))) 1 := ⟨(xw_at tW_5 33 rfl), (xw_at tW_0 7 rfl), ⟨(xw_at tW_0 34 rfl), (xw_at tW_5 34 rfl), by decide +kernel, by decide +kernel⟩⟩
theorem myX4_thingOf : xMV yX4_thingOf cX4_thingOf 2 ((some (FieldType.object "Postunion$Thing"))) 1 := ⟨(xw_at tW_11 31 rfl), (xw_at tW_0 9 rfl), ⟨(xw_at tW_0 34 rfl), (xw_at tW_11 32 rfl), by decide +kernel, by decide +kernel⟩⟩
theorem myX4_demandWithin : xMS yX4_demandWithin cX4_demandWithin 3 ((none : Option FieldType)) 3 := ⟨(xw_at tW_6 12 rfl), ⟨(xw_at tW_0 34 rfl), (xw_at tW_6 13 rfl), by decide +kernel, by decide +kernel⟩⟩
theorem myX4_demandKind : xMS yX4_demandKind cX4_demandKind 1 ((none : Option FieldType)) 1 := ⟨(xw_at tW_6 9 rfl), ⟨(xw_at tW_0 34 rfl), (xw_at tW_6 10 rfl), by decide +kernel, by decide +kernel⟩⟩
theorem myX4_demandGrams : xMS yX4_demandGrams cX4_demandGrams 2 ((none : Option FieldType)) 2 := ⟨(xw_at tW_9 28 rfl), ⟨(xw_at tW_0 34 rfl), (xw_at tW_9 29 rfl), by decide +kernel, by decide +kernel⟩⟩
theorem myX4_demandChangeable : xMS yX4_demandChangeable cX4_demandChangeable 1 ((none : Option FieldType)) 1 := ⟨(xw_at tW_11 34 rfl), ⟨(xw_at tW_0 34 rfl), (xw_at tW_11 35 rfl), by decide +kernel, by decide +kernel⟩⟩
theorem myX4_moveThoseThatTravel : xMV yX4_moveThoseThatTravel cX4_moveThoseThatTravel 4 ((some FieldType.int)) 0 := ⟨(xw_at tW_12 15 rfl), (xw_at tW_0 10 rfl), ⟨(xw_at tW_0 34 rfl), (xw_at tW_12 16 rfl), by decide +kernel, by decide +kernel⟩⟩
theorem myX4_endAtTarget : xMV yX4_endAtTarget cX4_endAtTarget 4 ((none : Option FieldType)) 1 := ⟨(xw_at tW_12 22 rfl), (xw_at tW_0 11 rfl), ⟨(xw_at tW_0 34 rfl), (xw_at tW_12 23 rfl), by decide +kernel, by decide +kernel⟩⟩
theorem myX4_oweDue : xMV yX4_oweDue cX4_oweDue 3 ((none : Option FieldType)) 1 := ⟨(xw_at tW_12 30 rfl), (xw_at tW_0 12 rfl), ⟨(xw_at tW_0 34 rfl), (xw_at tW_12 31 rfl), by decide +kernel, by decide +kernel⟩⟩
theorem myX4_sendThoseThatWait : xMV yX4_sendThoseThatWait cX4_sendThoseThatWait 3 ((none : Option FieldType)) 0 := ⟨(xw_at tW_12 36 rfl), (xw_at tW_0 13 rfl), ⟨(xw_at tW_0 34 rfl), (xw_at tW_12 37 rfl), by decide +kernel, by decide +kernel⟩⟩
theorem myX4_sendOn : xMV yX4_sendOn cX4_sendOn 3 ((none : Option FieldType)) 1 := ⟨(xw_at tW_12 39 rfl), (xw_at tW_0 14 rfl), ⟨(xw_at tW_0 34 rfl), (xw_at tW_13 0 rfl), by decide +kernel, by decide +kernel⟩⟩
theorem myX4_pay : xMS yX4_pay cX4_pay 4 ((none : Option FieldType)) 3 := ⟨(xw_at tW_12 33 rfl), ⟨(xw_at tW_0 34 rfl), (xw_at tW_12 34 rfl), by decide +kernel, by decide +kernel⟩⟩
theorem myX4_payClaim : xMS yX4_payClaim cX4_payClaim 3 ((some FieldType.int)) 3 := ⟨(xw_at tW_13 33 rfl), ⟨(xw_at tW_0 34 rfl), (xw_at tW_13 34 rfl), by decide +kernel, by decide +kernel⟩⟩
theorem myX4_settlePair : xMS yX4_settlePair cX4_settlePair 5 ((some FieldType.long)) 3 := ⟨(xw_at tW_14 3 rfl), ⟨(xw_at tW_0 34 rfl), (xw_at tW_14 4 rfl), by decide +kernel, by decide +kernel⟩⟩
theorem myX4_gainOf : xMS yX4_gainOf cX4_gainOf 2 ((some FieldType.int)) 2 := ⟨(xw_at tW_15 15 rfl), ⟨(xw_at tW_0 34 rfl), (xw_at tW_15 16 rfl), by decide +kernel, by decide +kernel⟩⟩
theorem myX4_begunParts : xMS yX4_begunParts cX4_begunParts 2 ((some FieldType.int)) 2 := ⟨(xw_at tW_9 35 rfl), ⟨(xw_at tW_0 34 rfl), (xw_at tW_9 36 rfl), by decide +kernel, by decide +kernel⟩⟩
theorem myX5_init : xMI yX5_init cX5_init 1 0 := ⟨(xw_at tW_15 20 rfl), rfl, ⟨(xw_at tW_0 39 rfl), (xw_at tW_15 21 rfl), by decide +kernel, by decide +kernel⟩⟩
theorem myX5_thrown : xMV yX5_thrown cX5_thrown 1 ((some FieldType.int)) 0 := ⟨(xw_at tW_17 24 rfl), (xw_at tW_17 25 rfl), ⟨(xw_at tW_0 39 rfl), (xw_at tW_17 26 rfl), by decide +kernel, by decide +kernel⟩⟩
theorem myX5_fails : xMV yX5_fails cX5_fails 2 ((some FieldType.int)) 1 := ⟨(xw_at tW_18 12 rfl), (xw_at tW_0 17 rfl), ⟨(xw_at tW_0 39 rfl), (xw_at tW_18 13 rfl), by decide +kernel, by decide +kernel⟩⟩
theorem myX5_asks : xMV yX5_asks cX5_asks 2 ((some FieldType.boolean)) 1 := ⟨(xw_at tW_17 32 rfl), (xw_at tW_0 15 rfl), ⟨(xw_at tW_0 39 rfl), (xw_at tW_17 33 rfl), by decide +kernel, by decide +kernel⟩⟩
theorem myX5_in : xMS yX5_in cX5_in 3 ((some FieldType.boolean)) 3 := ⟨(xw_at tW_18 2 rfl), ⟨(xw_at tW_0 39 rfl), (xw_at tW_18 3 rfl), by decide +kernel, by decide +kernel⟩⟩
theorem myX5_isPost : xMV yX5_isPost cX5_isPost 2 ((some FieldType.boolean)) 1 := ⟨(xw_at tW_17 39 rfl), (xw_at tW_0 16 rfl), ⟨(xw_at tW_0 39 rfl), (xw_at tW_18 0 rfl), by decide +kernel, by decide +kernel⟩⟩
theorem myX5_isKind : xMS yX5_isKind cX5_isKind 1 ((some FieldType.boolean)) 1 := ⟨(xw_at tW_18 5 rfl), ⟨(xw_at tW_0 39 rfl), (xw_at tW_18 6 rfl), by decide +kernel, by decide +kernel⟩⟩
theorem myX5_areGrams : xMS yX5_areGrams cX5_areGrams 2 ((some FieldType.boolean)) 2 := ⟨(xw_at tW_19 27 rfl), ⟨(xw_at tW_0 39 rfl), (xw_at tW_19 28 rfl), by decide +kernel, by decide +kernel⟩⟩
theorem myX5_post : xMV yX5_post cX5_post 1 ((some FieldType.int)) 0 := ⟨(xw_at tW_17 28 rfl), (xw_at tW_17 29 rfl), ⟨(xw_at tW_0 39 rfl), (xw_at tW_17 30 rfl), by decide +kernel, by decide +kernel⟩⟩
theorem myX5_rates : xMV yX5_rates cX5_rates 5 ((none : Option FieldType)) 4 := ⟨(xw_at tW_17 35 rfl), (xw_at tW_17 36 rfl), ⟨(xw_at tW_0 39 rfl), (xw_at tW_17 37 rfl), by decide +kernel, by decide +kernel⟩⟩
theorem myX5_due : xMV yX5_due cX5_due 5 ((some FieldType.int)) 3 := ⟨(xw_at tW_18 8 rfl), (xw_at tW_18 9 rfl), ⟨(xw_at tW_0 39 rfl), (xw_at tW_18 10 rfl), by decide +kernel, by decide +kernel⟩⟩
theorem myX5_charge : xMV yX5_charge cX5_charge 4 ((some FieldType.int)) 2 := ⟨(xw_at tW_18 15 rfl), (xw_at tW_18 16 rfl), ⟨(xw_at tW_0 39 rfl), (xw_at tW_18 17 rfl), by decide +kernel, by decide +kernel⟩⟩
theorem myX5_coupon : xMV yX5_coupon cX5_coupon 4 ((some FieldType.int)) 2 := ⟨(xw_at tW_18 19 rfl), (xw_at tW_18 20 rfl), ⟨(xw_at tW_0 39 rfl), (xw_at tW_18 21 rfl), by decide +kernel, by decide +kernel⟩⟩
theorem myX5_strike : xMV yX5_strike cX5_strike 4 ((some FieldType.boolean)) 2 := ⟨(xw_at tW_18 23 rfl), (xw_at tW_18 24 rfl), ⟨(xw_at tW_0 39 rfl), (xw_at tW_18 25 rfl), by decide +kernel, by decide +kernel⟩⟩
theorem myX5_leg : xMV yX5_leg cX5_leg 4 ((some FieldType.int)) 3 := ⟨(xw_at tW_18 27 rfl), (xw_at tW_18 28 rfl), ⟨(xw_at tW_0 39 rfl), (xw_at tW_18 29 rfl), by decide +kernel, by decide +kernel⟩⟩
theorem myX5_close : xMV yX5_close cX5_close 4 ((some FieldType.boolean)) 2 := ⟨(xw_at tW_18 31 rfl), (xw_at tW_18 32 rfl), ⟨(xw_at tW_0 39 rfl), (xw_at tW_18 33 rfl), by decide +kernel, by decide +kernel⟩⟩
theorem myX5_across : xMV yX5_across cX5_across 3 ((some FieldType.int)) 2 := ⟨(xw_at tW_19 20 rfl), (xw_at tW_0 22 rfl), ⟨(xw_at tW_0 39 rfl), (xw_at tW_19 21 rfl), by decide +kernel, by decide +kernel⟩⟩
theorem myX5_ends : xMV yX5_ends cX5_ends 3 ((some FieldType.boolean)) 2 := ⟨(xw_at tW_19 17 rfl), (xw_at tW_0 21 rfl), ⟨(xw_at tW_0 39 rfl), (xw_at tW_19 18 rfl), by decide +kernel, by decide +kernel⟩⟩
theorem myX5_measures : xMV yX5_measures cX5_measures 6 ((none : Option FieldType)) 1 := ⟨(xw_at tW_19 2 rfl), (xw_at tW_0 19 rfl), ⟨(xw_at tW_0 39 rfl), (xw_at tW_19 3 rfl), by decide +kernel, by decide +kernel⟩⟩
theorem myX5_daysTold : xMV yX5_daysTold cX5_daysTold 3 ((some FieldType.int)) 2 := ⟨(xw_at tW_18 39 rfl), (xw_at tW_0 18 rfl), ⟨(xw_at tW_0 39 rfl), (xw_at tW_19 0 rfl), by decide +kernel, by decide +kernel⟩⟩
theorem myX5_days : xMV yX5_days cX5_days 3 ((some FieldType.int)) 2 := ⟨(xw_at tW_18 35 rfl), (xw_at tW_18 36 rfl), ⟨(xw_at tW_0 39 rfl), (xw_at tW_18 37 rfl), by decide +kernel, by decide +kernel⟩⟩
theorem myX5_daysAnew : xMV yX5_daysAnew cX5_daysAnew 3 ((some FieldType.int)) 2 := ⟨(xw_at tW_19 6 rfl), (xw_at tW_19 7 rfl), ⟨(xw_at tW_0 39 rfl), (xw_at tW_19 8 rfl), by decide +kernel, by decide +kernel⟩⟩
theorem myX5_nextOf : xMV yX5_nextOf cX5_nextOf 7 ((some FieldType.int)) 2 := ⟨(xw_at tW_19 14 rfl), (xw_at tW_0 20 rfl), ⟨(xw_at tW_0 39 rfl), (xw_at tW_19 15 rfl), by decide +kernel, by decide +kernel⟩⟩
theorem myX5_next : xMV yX5_next cX5_next 3 ((some FieldType.int)) 2 := ⟨(xw_at tW_19 10 rfl), (xw_at tW_19 11 rfl), ⟨(xw_at tW_0 39 rfl), (xw_at tW_19 12 rfl), by decide +kernel, by decide +kernel⟩⟩
theorem myX5_rateOf : xMV yX5_rateOf cX5_rateOf 6 ((some FieldType.int)) 4 := ⟨(xw_at tW_19 31 rfl), (xw_at tW_0 23 rfl), ⟨(xw_at tW_0 39 rfl), (xw_at tW_19 32 rfl), by decide +kernel, by decide +kernel⟩⟩
theorem myX5_signs : xMV yX5_signs cX5_signs 3 ((none : Option FieldType)) 2 := ⟨(xw_at tW_19 34 rfl), (xw_at tW_0 24 rfl), ⟨(xw_at tW_0 39 rfl), (xw_at tW_19 35 rfl), by decide +kernel, by decide +kernel⟩⟩
theorem myX5_mail : xMV yX5_mail cX5_mail 9 ((some FieldType.int)) 6 := ⟨(xw_at tW_19 23 rfl), (xw_at tW_19 24 rfl), ⟨(xw_at tW_0 39 rfl), (xw_at tW_19 25 rfl), by decide +kernel, by decide +kernel⟩⟩
theorem myX5_isThing : xMV yX5_isThing cX5_isThing 2 ((some FieldType.boolean)) 1 := ⟨(xw_at tW_20 1 rfl), (xw_at tW_0 25 rfl), ⟨(xw_at tW_0 39 rfl), (xw_at tW_20 2 rfl), by decide +kernel, by decide +kernel⟩⟩
theorem myX5_isUnderWay : xMV yX5_isUnderWay cX5_isUnderWay 2 ((some FieldType.boolean)) 1 := ⟨(xw_at tW_20 4 rfl), (xw_at tW_0 26 rfl), ⟨(xw_at tW_0 39 rfl), (xw_at tW_20 5 rfl), by decide +kernel, by decide +kernel⟩⟩
theorem myX5_redirect : xMV yX5_redirect cX5_redirect 4 ((some FieldType.int)) 2 := ⟨(xw_at tW_19 37 rfl), (xw_at tW_19 38 rfl), ⟨(xw_at tW_0 39 rfl), (xw_at tW_19 39 rfl), by decide +kernel, by decide +kernel⟩⟩
theorem myX5_refuse : xMV yX5_refuse cX5_refuse 4 ((some FieldType.boolean)) 2 := ⟨(xw_at tW_20 7 rfl), (xw_at tW_20 8 rfl), ⟨(xw_at tW_0 39 rfl), (xw_at tW_20 9 rfl), by decide +kernel, by decide +kernel⟩⟩
theorem myX5_taxOf : xMV yX5_taxOf cX5_taxOf 5 ((some FieldType.long)) 1 := ⟨(xw_at tW_20 21 rfl), (xw_at tW_0 29 rfl), ⟨(xw_at tW_0 39 rfl), (xw_at tW_20 22 rfl), by decide +kernel, by decide +kernel⟩⟩
theorem myX5_pays : xMV yX5_pays cX5_pays 5 ((none : Option FieldType)) 3 := ⟨(xw_at tW_20 25 rfl), (xw_at tW_0 30 rfl), ⟨(xw_at tW_0 39 rfl), (xw_at tW_20 26 rfl), by decide +kernel, by decide +kernel⟩⟩
theorem myX5_comes : xMV yX5_comes cX5_comes 5 ((some FieldType.int)) 1 := ⟨(xw_at tW_20 18 rfl), (xw_at tW_0 28 rfl), ⟨(xw_at tW_0 39 rfl), (xw_at tW_20 19 rfl), by decide +kernel, by decide +kernel⟩⟩
theorem myX5_travels : xMV yX5_travels cX5_travels 2 ((some FieldType.int)) 1 := ⟨(xw_at tW_20 15 rfl), (xw_at tW_0 27 rfl), ⟨(xw_at tW_0 39 rfl), (xw_at tW_20 16 rfl), by decide +kernel, by decide +kernel⟩⟩
theorem myX5_leaves : xMV yX5_leaves cX5_leaves 4 ((none : Option FieldType)) 1 := ⟨(xw_at tW_20 28 rfl), (xw_at tW_0 31 rfl), ⟨(xw_at tW_0 39 rfl), (xw_at tW_20 29 rfl), by decide +kernel, by decide +kernel⟩⟩
theorem myX5_go : xMV yX5_go cX5_go 5 ((some FieldType.int)) 1 := ⟨(xw_at tW_20 11 rfl), (xw_at tW_20 12 rfl), ⟨(xw_at tW_0 39 rfl), (xw_at tW_20 13 rfl), by decide +kernel, by decide +kernel⟩⟩
theorem myX5_lose : xMV yX5_lose cX5_lose 2 ((some FieldType.int)) 1 := ⟨(xw_at tW_20 31 rfl), (xw_at tW_20 32 rfl), ⟨(xw_at tW_0 39 rfl), (xw_at tW_20 33 rfl), by decide +kernel, by decide +kernel⟩⟩
theorem myX5_paysFor : xMV yX5_paysFor cX5_paysFor 4 ((some FieldType.int)) 3 := ⟨(xw_at tW_21 0 rfl), (xw_at tW_0 32 rfl), ⟨(xw_at tW_0 39 rfl), (xw_at tW_21 1 rfl), by decide +kernel, by decide +kernel⟩⟩
theorem myX5_claim : xMV yX5_claim cX5_claim 2 ((some FieldType.int)) 1 := ⟨(xw_at tW_20 35 rfl), (xw_at tW_20 36 rfl), ⟨(xw_at tW_0 39 rfl), (xw_at tW_20 37 rfl), by decide +kernel, by decide +kernel⟩⟩
theorem myX5_sample : xMV yX5_sample cX5_sample 3 ((some FieldType.boolean)) 1 := ⟨(xw_at tW_21 3 rfl), (xw_at tW_21 4 rfl), ⟨(xw_at tW_0 39 rfl), (xw_at tW_21 5 rfl), by decide +kernel, by decide +kernel⟩⟩
theorem myX5_settle : xMV yX5_settle cX5_settle 7 ((some FieldType.long)) 1 := ⟨(xw_at tW_21 7 rfl), (xw_at tW_21 8 rfl), ⟨(xw_at tW_0 39 rfl), (xw_at tW_21 9 rfl), by decide +kernel, by decide +kernel⟩⟩
theorem myX5_rate : xMV yX5_rate cX5_rate 5 ((some FieldType.int)) 4 := ⟨(xw_at tW_21 11 rfl), (xw_at tW_21 12 rfl), ⟨(xw_at tW_0 39 rfl), (xw_at tW_21 13 rfl), by decide +kernel, by decide +kernel⟩⟩
theorem myX5_ofThing : xMV yX5_ofThing cX5_ofThing 3 ((some FieldType.long)) 2 := ⟨(xw_at tW_21 15 rfl), (xw_at tW_21 16 rfl), ⟨(xw_at tW_0 39 rfl), (xw_at tW_21 17 rfl), by decide +kernel, by decide +kernel⟩⟩
theorem myX5_hand : xMV yX5_hand cX5_hand 5 ((some FieldType.int)) 2 := ⟨(xw_at tW_21 19 rfl), (xw_at tW_21 20 rfl), ⟨(xw_at tW_0 39 rfl), (xw_at tW_21 21 rfl), by decide +kernel, by decide +kernel⟩⟩
theorem myX5_account : xMV yX5_account cX5_account 2 ((some FieldType.long)) 1 := ⟨(xw_at tW_21 23 rfl), (xw_at tW_21 24 rfl), ⟨(xw_at tW_0 39 rfl), (xw_at tW_21 25 rfl), by decide +kernel, by decide +kernel⟩⟩
theorem myX5_till : xMV yX5_till cX5_till 2 ((some FieldType.long)) 1 := ⟨(xw_at tW_21 27 rfl), (xw_at tW_21 28 rfl), ⟨(xw_at tW_0 39 rfl), (xw_at tW_21 29 rfl), by decide +kernel, by decide +kernel⟩⟩
theorem myX5_counted : xMV yX5_counted cX5_counted 3 ((some FieldType.long)) 2 := ⟨(xw_at tW_21 31 rfl), (xw_at tW_21 32 rfl), ⟨(xw_at tW_0 39 rfl), (xw_at tW_21 33 rfl), by decide +kernel, by decide +kernel⟩⟩
theorem myX5_gain : xMV yX5_gain cX5_gain 5 ((some FieldType.int)) 1 := ⟨(xw_at tW_21 35 rfl), (xw_at tW_21 36 rfl), ⟨(xw_at tW_0 39 rfl), (xw_at tW_21 37 rfl), by decide +kernel, by decide +kernel⟩⟩
theorem hinX0 : ∀ w ∈ wsX00, w ∈ BG := by
  intro w hw
  obtain ⟨j, hj, rfl⟩ := List.mem_map.mp hw
  have hj := List.mem_range.mp hj
  match j, hj with
  | 0, _ => exact xw_at tW_8 2 rfl
  | 1, _ => exact xw_at tW_8 3 rfl
  | 2, _ => exact xw_at tW_8 4 rfl
  | 3, _ => exact xw_at tW_8 5 rfl
  | j + 4, hj => exact absurd hj (by omega)
theorem hinX1 : ∀ w ∈ wsX10, w ∈ BG := by
  intro w hw
  obtain ⟨j, hj, rfl⟩ := List.mem_map.mp hw
  have hj := List.mem_range.mp hj
  match j, hj with
  | 0, _ => exact xw_at tW_5 12 rfl
  | 1, _ => exact xw_at tW_5 13 rfl
  | 2, _ => exact xw_at tW_5 14 rfl
  | 3, _ => exact xw_at tW_5 15 rfl
  | 4, _ => exact xw_at tW_5 16 rfl
  | 5, _ => exact xw_at tW_5 17 rfl
  | 6, _ => exact xw_at tW_5 18 rfl
  | 7, _ => exact xw_at tW_5 19 rfl
  | 8, _ => exact xw_at tW_5 20 rfl
  | 9, _ => exact xw_at tW_5 21 rfl
  | j + 10, hj => exact absurd hj (by omega)
theorem hinX2 : ∀ w ∈ wsX20, w ∈ BG := by
  intro w hw
  obtain ⟨j, hj, rfl⟩ := List.mem_map.mp hw
  have hj := List.mem_range.mp hj
  match j, hj with
  | 0, _ => exact xw_at tW_2 26 rfl
  | 1, _ => exact xw_at tW_2 27 rfl
  | 2, _ => exact xw_at tW_2 28 rfl
  | 3, _ => exact xw_at tW_2 29 rfl
  | 4, _ => exact xw_at tW_2 30 rfl
  | j + 5, hj => exact absurd hj (by omega)
theorem hinX3 : ∀ w ∈ wsX30, w ∈ BG := by
  intro w hw
  obtain ⟨j, hj, rfl⟩ := List.mem_map.mp hw
  have hj := List.mem_range.mp hj
  match j, hj with
  | 0, _ => exact xw_at tW_11 8 rfl
  | 1, _ => exact xw_at tW_11 9 rfl
  | 2, _ => exact xw_at tW_11 10 rfl
  | 3, _ => exact xw_at tW_11 11 rfl
  | 4, _ => exact xw_at tW_11 12 rfl
  | 5, _ => exact xw_at tW_11 13 rfl
  | 6, _ => exact xw_at tW_11 14 rfl
  | 7, _ => exact xw_at tW_11 15 rfl
  | 8, _ => exact xw_at tW_11 16 rfl
  | 9, _ => exact xw_at tW_11 17 rfl
  | 10, _ => exact xw_at tW_11 18 rfl
  | 11, _ => exact xw_at tW_11 19 rfl
  | 12, _ => exact xw_at tW_11 20 rfl
  | 13, _ => exact xw_at tW_11 21 rfl
  | 14, _ => exact xw_at tW_11 22 rfl
  | j + 15, hj => exact absurd hj (by omega)
theorem hinX4 : ∀ w ∈ wsX40, w ∈ BG := by
  intro w hw
  obtain ⟨j, hj, rfl⟩ := List.mem_map.mp hw
  have hj := List.mem_range.mp hj
  match j, hj with
  | 0, _ => exact xw_at tW_2 38 rfl
  | 1, _ => exact xw_at tW_2 39 rfl
  | 2, _ => exact xw_at tW_3 0 rfl
  | 3, _ => exact xw_at tW_3 1 rfl
  | 4, _ => exact xw_at tW_3 2 rfl
  | 5, _ => exact xw_at tW_3 3 rfl
  | j + 6, hj => exact absurd hj (by omega)
theorem hinX5 : ∀ w ∈ wsX50, w ∈ BG := by
  intro w hw
  obtain ⟨j, hj, rfl⟩ := List.mem_map.mp hw
  have hj := List.mem_range.mp hj
  match j, hj with
  | 0, _ => exact xw_at tW_16 23 rfl
  | 1, _ => exact xw_at tW_16 24 rfl
  | 2, _ => exact xw_at tW_16 25 rfl
  | 3, _ => exact xw_at tW_16 26 rfl
  | 4, _ => exact xw_at tW_16 27 rfl
  | 5, _ => exact xw_at tW_16 28 rfl
  | 6, _ => exact xw_at tW_16 29 rfl
  | 7, _ => exact xw_at tW_16 30 rfl
  | 8, _ => exact xw_at tW_16 31 rfl
  | 9, _ => exact xw_at tW_16 32 rfl
  | 10, _ => exact xw_at tW_16 33 rfl
  | 11, _ => exact xw_at tW_16 34 rfl
  | 12, _ => exact xw_at tW_16 35 rfl
  | 13, _ => exact xw_at tW_16 36 rfl
  | 14, _ => exact xw_at tW_16 37 rfl
  | 15, _ => exact xw_at tW_16 38 rfl
  | 16, _ => exact xw_at tW_16 39 rfl
  | 17, _ => exact xw_at tW_17 0 rfl
  | 18, _ => exact xw_at tW_17 1 rfl
  | 19, _ => exact xw_at tW_17 2 rfl
  | 20, _ => exact xw_at tW_17 3 rfl
  | 21, _ => exact xw_at tW_17 4 rfl
  | 22, _ => exact xw_at tW_17 5 rfl
  | 23, _ => exact xw_at tW_17 6 rfl
  | 24, _ => exact xw_at tW_17 7 rfl
  | 25, _ => exact xw_at tW_17 8 rfl
  | 26, _ => exact xw_at tW_17 9 rfl
  | 27, _ => exact xw_at tW_17 10 rfl
  | 28, _ => exact xw_at tW_17 11 rfl
  | 29, _ => exact xw_at tW_17 12 rfl
  | 30, _ => exact xw_at tW_17 13 rfl
  | 31, _ => exact xw_at tW_17 14 rfl
  | 32, _ => exact xw_at tW_17 15 rfl
  | 33, _ => exact xw_at tW_17 16 rfl
  | 34, _ => exact xw_at tW_17 17 rfl
  | 35, _ => exact xw_at tW_17 18 rfl
  | 36, _ => exact xw_at tW_17 19 rfl
  | 37, _ => exact xw_at tW_17 20 rfl
  | 38, _ => exact xw_at tW_17 21 rfl
  | j + 39, hj => exact absurd hj (by omega)
end
section
abbrev ix (x : Int32) : Nat := x.toNatClampNeg
abbrev Mu : Type := (Nat → Nat → Int32) × (Nat → Nat → Int64)
def up2 {α : Type} (f : Nat → Nat → α) (j i : Nat) (v : α) : Nat → Nat → α := fun a b => if a = j ∧ b = i then v else f a b
def mSc : Nat → Bool := fun j => match j with | 0 => true | 10 => true | 16 => true | 30 => true | 36 => true | 38 => true | _ => false
def mLen : Nat → Nat := fun j => match j with | 1 => 24 | 2 => 24 | 3 => 24 | 4 => 8 | 5 => 8 | 6 => 8 | 7 => 8 | 8 => 8 | 9 => 64 | 11 => 20 | 12 => 20 | 13 => 20 | 14 => 20 | 15 => 8 | 17 => 40 | 18 => 40 | 19 => 40 | 20 => 40 | 21 => 40 | 22 => 40 | 23 => 40 | 24 => 40 | 25 => 40 | 26 => 40 | 27 => 40 | 28 => 40 | 29 => 40 | 31 => 80000 | 32 => 80000 | 33 => 40 | 34 => 40 | 35 => 40 | 37 => 3 | _ => 0
def mTy : Nat → Nat := fun j => match j with | 6 => 2 | 7 => 1 | 8 => 1 | 9 => 1 | 14 => 2 | 21 => 2 | 27 => 2 | 28 => 2 | 29 => 2 | _ => 0
def mIx : Nat → Nat := fun j => match j with | 0 => 116 | 1 => 7 | 2 => 13 | 3 => 16 | 4 => 19 | 5 => 22 | 6 => 25 | 7 => 29 | 8 => 33 | 9 => 36 | 10 => 138 | 11 => 39 | 12 => 42 | 13 => 45 | 14 => 48 | 15 => 51 | 16 => 167 | 17 => 54 | 18 => 57 | 19 => 60 | 20 => 63 | 21 => 66 | 22 => 69 | 23 => 72 | 24 => 75 | 25 => 78 | 26 => 81 | 27 => 84 | 28 => 87 | 29 => 90 | 30 => 160 | 31 => 94 | 32 => 97 | 33 => 100 | 34 => 103 | 35 => 106 | 36 => 194 | 37 => 109 | 38 => 112 | _ => 0
theorem mLk : ∀ j, j < 39 → Cond.fieldLink RX5 (mIx j) "PostunionModel" (TX5 j).2.1 (TX5 j).2.2.1 ∈ BG := by
  intro j hj
  match j, hj with
  | 0, _ => exact xw_at tW_15 24 rfl
  | 1, _ => exact xw_at tW_15 25 rfl
  | 2, _ => exact xw_at tW_15 26 rfl
  | 3, _ => exact xw_at tW_15 27 rfl
  | 4, _ => exact xw_at tW_15 28 rfl
  | 5, _ => exact xw_at tW_15 29 rfl
  | 6, _ => exact xw_at tW_15 30 rfl
  | 7, _ => exact xw_at tW_15 31 rfl
  | 8, _ => exact xw_at tW_15 32 rfl
  | 9, _ => exact xw_at tW_15 33 rfl
  | 10, _ => exact xw_at tW_15 34 rfl
  | 11, _ => exact xw_at tW_15 35 rfl
  | 12, _ => exact xw_at tW_15 36 rfl
  | 13, _ => exact xw_at tW_15 37 rfl
  | 14, _ => exact xw_at tW_15 38 rfl
  | 15, _ => exact xw_at tW_15 39 rfl
  | 16, _ => exact xw_at tW_16 0 rfl
  | 17, _ => exact xw_at tW_16 1 rfl
  | 18, _ => exact xw_at tW_16 2 rfl
  | 19, _ => exact xw_at tW_16 3 rfl
  | 20, _ => exact xw_at tW_16 4 rfl
  | 21, _ => exact xw_at tW_16 5 rfl
  | 22, _ => exact xw_at tW_16 6 rfl
  | 23, _ => exact xw_at tW_16 7 rfl
  | 24, _ => exact xw_at tW_16 8 rfl
  | 25, _ => exact xw_at tW_16 9 rfl
  | 26, _ => exact xw_at tW_16 10 rfl
  | 27, _ => exact xw_at tW_16 11 rfl
  | 28, _ => exact xw_at tW_16 12 rfl
  | 29, _ => exact xw_at tW_16 13 rfl
  | 30, _ => exact xw_at tW_16 14 rfl
  | 31, _ => exact xw_at tW_16 15 rfl
  | 32, _ => exact xw_at tW_16 16 rfl
  | 33, _ => exact xw_at tW_16 17 rfl
  | 34, _ => exact xw_at tW_16 18 rfl
  | 35, _ => exact xw_at tW_16 19 rfl
  | 36, _ => exact xw_at tW_16 20 rfl
  | 37, _ => exact xw_at tW_16 21 rfl
  | 38, _ => exact xw_at tW_16 22 rfl
  | j + 39, hj => exact absurd hj (by omega)
theorem mRf : ∀ j, j < 39 → "PostunionModel" = (TX5 j).1 := by decide +kernel
theorem mFin : ∀ j, j < 39 → mSc j = true → (TX5 j).2.2.2 = false := by decide +kernel
theorem mFinA : ∀ j, j < 39 → mSc j = false → (TX5 j).2.2.2 = true := by decide +kernel
theorem mTyS : ∀ j, j < 39 → mSc j = true → j ≠ 36 → tyX5 j = .int := by decide +kernel
theorem mLen31 : ∀ j, mLen j < 2 ^ 31 := by
  intro j
  unfold mLen
  split <;> decide
def fM (lay : xK → Nat) (μ : Mu) : Nat → Value := fun j => if mSc j = true then .int (μ.1 j 0) else .ref (lay (100, j + 1))
def aM (Z : xZ) (μ : Mu) (j : Nat) : xE := if mTy j = 1 then .inl (Z.2 1, mLen j, .inr (.inl (μ.2 j))) else if mTy j = 2 then .inl (Z.2 2, mLen j, .inl (μ.1 j)) else .inl (Z.2 0, mLen j, .inl (μ.1 j))
/-- the reference's cells beside others -/
def cM (Z : xZ) (lay : xK → Nat) (μ : Mu) (r : xK → Option xE) : xK → Option xE := fun k => if k.1 = 100 then (if k.2 = 0 then some (.inr (5, fM lay μ)) else if k.2 ≤ 39 ∧ mSc (k.2 - 1) = false then some (aM Z μ (k.2 - 1)) else none) else r k
theorem cM_0 {Z : xZ} {lay : xK → Nat} {μ : Mu} {r : xK → Option xE} : cM Z lay μ r (100, 0) = some (.inr (5, fM lay μ)) := rfl
theorem cM_a {Z : xZ} {lay : xK → Nat} {μ : Mu} {r : xK → Option xE} {j : Nat} (hj : j < 39) (hs : mSc j = false) : cM Z lay μ r (100, j + 1) = some (aM Z μ j) := by
  unfold cM
  rw [if_pos rfl, if_neg (Nat.succ_ne_zero j), if_pos ⟨by show j + 1 ≤ 39; omega, by rw [Nat.add_sub_cancel]; exact hs⟩, Nat.add_sub_cancel]
theorem cM_i {Z : xZ} {lay : xK → Nat} {μ : Mu} {r : xK → Option xE} {j : Nat} (hj : j < 39) (hs : mSc j = false) (ht : mTy j = 0) : cM Z lay μ r (100, j + 1) = some (.inl (Z.2 0, mLen j, .inl (μ.1 j))) := by
  rw [cM_a hj hs, aM, if_neg (by rw [ht]; decide), if_neg (by rw [ht]; decide)]
theorem cM_z {Z : xZ} {lay : xK → Nat} {μ : Mu} {r : xK → Option xE} {j : Nat} (hj : j < 39) (hs : mSc j = false) (ht : mTy j = 2) : cM Z lay μ r (100, j + 1) = some (.inl (Z.2 2, mLen j, .inl (μ.1 j))) := by
  rw [cM_a hj hs, aM, if_neg (by rw [ht]; decide), if_pos ht]
theorem cM_l {Z : xZ} {lay : xK → Nat} {μ : Mu} {r : xK → Option xE} {j : Nat} (hj : j < 39) (hs : mSc j = false) (ht : mTy j = 1) : cM Z lay μ r (100, j + 1) = some (.inl (Z.2 1, mLen j, .inr (.inl (μ.2 j)))) := by
  rw [cM_a hj hs, aM, if_pos ht]
/-- a row of the reference written -/
theorem cM_upA {Z : xZ} {lay : xK → Nat} {μ μ' : Mu} {r : xK → Option xE} {j : Nat} {e : xE} (hj : j < 39) (hs : mSc j = false) (he : aM Z μ' j = e) (h1 : ∀ a, a ≠ j → μ'.1 a = μ.1 a) (h2 : ∀ a, a ≠ j → μ'.2 a = μ.2 a) : ∀ k, cM Z lay μ' r k = xup (cM Z lay μ r) (100, j + 1) e k := by
  rintro ⟨a, b⟩
  by_cases ha : a = 100
  · subst ha
    by_cases hb : b = 0
    · subst hb
      have hne : ((100, 0) : xK) ≠ (100, j + 1) := fun q => by cases q
      rw [xup, if_neg hne, cM_0, cM_0]
      congr 3
      funext i
      unfold fM
      by_cases hi : mSc i = true
      · rw [if_pos hi, if_pos hi, h1 i (fun q => by rw [q, hs] at hi; cases hi)]
      · rw [if_neg hi, if_neg hi]
    · by_cases hbj : b = j + 1
      · subst hbj
        rw [xup, if_pos rfl, cM_a hj hs, he]
      · have hne : ((100, b) : xK) ≠ (100, j + 1) := fun q => hbj (by injection q)
        rw [xup, if_neg hne]
        unfold cM
        rw [if_pos rfl, if_pos rfl, if_neg hb, if_neg hb]
        have h3 : b - 1 ≠ j := by omega
        unfold aM
        rw [h1 _ h3, h2 _ h3]
  · have hne : ((a, b) : xK) ≠ (100, j + 1) := fun q => ha (by injection q)
    rw [xup, if_neg hne]
    unfold cM
    rw [if_neg ha, if_neg ha]
theorem cM_upS {Z : xZ} {lay : xK → Nat} {μ : Mu} {r : xK → Option xE} {j : Nat} {v : Int32} (hj : j < 39) (hs : mSc j = true) : ∀ k, cM Z lay (up2 μ.1 j 0 v, μ.2) r k = xup (cM Z lay μ r) (100, 0) (.inr (5, updV (fM lay μ) j (.int v))) k := by
  rintro ⟨a, b⟩
  by_cases ha : a = 100
  · subst ha
    by_cases hb : b = 0
    · subst hb
      rw [xup, if_pos rfl, cM_0]
      congr 3
      funext i
      unfold fM updV up2
      by_cases hi : i = j
      · subst hi
        simp [hs]
      · simp [hi]
    · have hne : ((100, b) : xK) ≠ (100, 0) := fun q => hb (by injection q)
      rw [xup, if_neg hne]
      unfold cM
      rw [if_pos rfl, if_pos rfl, if_neg hb, if_neg hb]
      by_cases hm : b ≤ 39 ∧ mSc (b - 1) = false
      · rw [if_pos hm, if_pos hm]
        have h3 : b - 1 ≠ j := fun q => by rw [q, hs] at hm; exact absurd hm.2 (by decide)
        have h4 : up2 μ.1 j 0 v (b - 1) = μ.1 (b - 1) := by funext i; simp [up2, h3]
        unfold aM
        simp only [h4]
      · rw [if_neg hm, if_neg hm]
  · have hne : ((a, b) : xK) ≠ (100, 0) := fun q => ha (by injection q)
    rw [xup, if_neg hne]
    unfold cM
    rw [if_neg ha, if_neg ha]
theorem up2_row {α : Type} (f : Nat → Nat → α) (j i : Nat) (v : α) : up2 f j i v j = fun b => if b = i then v else f j b := by funext b; simp [up2]
theorem up2_ne {α : Type} (f : Nat → Nat → α) (j i : Nat) (v : α) (a : Nat) (h : a ≠ j) : up2 f j i v a = f a := by funext b; simp [up2, h]
section XM
variable {p : Program} {l : Launch} {e : Env} {R : Room} {s : State} {m : MethodId} {args : Array Value} {below : List Frame} {meth : Method} {c : Code} {Q : State → Prop} {Z : xZ} {B0 nL : Nat} {lay : xK → Nat} {μ : Mu} {r : xK → Option xE} {cells slots pc : Nat} {lv : List (Option Value)} {rest : List Value} {cc : ByteArray}
theorem r_S (X : Cx p m meth c cc nL s args RX5 Z B0) (j : Nat) (hj : j < 39) (hs : mSc j = true) {i : Nat} (hi : mIx j = i) {v : Int32} (hdg : decode cc pc = .ok (.getfield i, 3)) (hv : μ.1 j 0 = v) (kk : V p l e R s m args below meth c Q Z B0 nL lay (cM Z lay μ r) cells slots (pc + 3) lv (.int v :: rest)) : V p l e R s m args below meth c Q Z B0 nL lay (cM Z lay μ r) cells slots pc lv (.ref (lay (100, 0)) :: rest) := by
  subst hi
  subst hv
  exact x_get X hinX5 (100, 0) cM_0 rfl j hj (mLk j hj) (mRf j hj) rfl (if_pos hs) hdg kk
theorem r_A (X : Cx p m meth c cc nL s args RX5 Z B0) (j : Nat) (hj : j < 39) (hs : mSc j = false) {i : Nat} (hi : mIx j = i) (hdg : decode cc pc = .ok (.getfield i, 3)) (kk : V p l e R s m args below meth c Q Z B0 nL lay (cM Z lay μ r) cells slots (pc + 3) lv (.ref (lay (100, j + 1)) :: rest)) : V p l e R s m args below meth c Q Z B0 nL lay (cM Z lay μ r) cells slots pc lv (.ref (lay (100, 0)) :: rest) := by
  subst hi
  exact x_get X hinX5 (100, 0) cM_0 rfl j hj (mLk j hj) (mRf j hj) rfl (if_neg (by rw [hs]; decide)) hdg kk
theorem r_PS (X : Cx p m meth c cc nL s args RX5 Z B0) (j : Nat) (hj : j < 39) (hs : mSc j = true) (h36 : j ≠ 36) {i : Nat} (hi : mIx j = i) {v : Int32} (hdg : decode cc pc = .ok (.putfield i, 3)) (kk : V p l e R s m args below meth c Q Z B0 nL lay (cM Z lay (up2 μ.1 j 0 v, μ.2) r) cells slots (pc + 3) lv rest) : V p l e R s m args below meth c Q Z B0 nL lay (cM Z lay μ r) cells slots pc lv (.int v :: .ref (lay (100, 0)) :: rest) := by
  subst hi
  exact x_put X hinX5 tyX5 tyX5_ok nmX5 (100, 0) cM_0 rfl j hj (mLk j hj) (mRf j hj) (mFin j hj hs) (by rw [mTyS j hj hs h36]; rfl) (by rw [mTyS j hj hs h36]; rfl) rfl (cM_upS hj hs) hdg kk
theorem r_PB (X : Cx p m meth c cc nL s args RX5 Z B0) {v : Int32} (hb : v = 0 ∨ v = 1) (hdg : decode cc pc = .ok (.putfield (mIx 36), 3)) (kk : V p l e R s m args below meth c Q Z B0 nL lay (cM Z lay (up2 μ.1 36 0 v, μ.2) r) cells slots (pc + 3) lv rest) : V p l e R s m args below meth c Q Z B0 nL lay (cM Z lay μ r) cells slots pc lv (.int v :: .ref (lay (100, 0)) :: rest) :=
  x_put X hinX5 tyX5 tyX5_ok nmX5 (100, 0) cM_0 rfl 36 (by decide) (mLk 36 (by decide)) (mRf 36 (by decide)) (mFin 36 (by decide) rfl) (by rcases hb with rfl | rfl <;> rfl) (by rcases hb with rfl | rfl <;> rfl) rfl (cM_upS (by decide) rfl) hdg kk
theorem r_I (X : Cx p m meth c cc nL s args RX5 Z B0) (j : Nat) (hj : j < 39) (hs : mSc j = false) (ht : mTy j = 0) {x : Int32} (hin : vp_in x (mLen j)) {v : Int32} (hdg : decode cc pc = .ok (.iaload, 1)) (hv : μ.1 j (ix x) = v) (kk : V p l e R s m args below meth c Q Z B0 nL lay (cM Z lay μ r) cells slots (pc + 1) lv (.int v :: rest)) : V p l e R s m args below meth c Q Z B0 nL lay (cM Z lay μ r) cells slots pc lv (.int x :: .ref (lay (100, j + 1)) :: rest) :=
  x_iald X (100, j + 1) (cM_i hj hs ht) hin rfl hv hdg kk
theorem r_In (X : Cx p m meth c cc nL s args RX5 Z B0) (j : Nat) (hj : j < 39) (hs : mSc j = false) (ht : mTy j = 0) {x : Nat} (hin : x < mLen j) {v : Int32} (hdg : decode cc pc = .ok (.iaload, 1)) (hv : μ.1 j x = v) (kk : V p l e R s m args below meth c Q Z B0 nL lay (cM Z lay μ r) cells slots (pc + 1) lv (.int v :: rest)) : V p l e R s m args below meth c Q Z B0 nL lay (cM Z lay μ r) cells slots pc lv (.int (nI x) :: .ref (lay (100, j + 1)) :: rest) :=
  x_iald X (100, j + 1) (cM_i hj hs ht) (vp_in_nI hin (mLen31 j)) rfl (by rw [nI_clamp (Nat.lt_trans hin (mLen31 j))]; exact hv) hdg kk
theorem r_PI (X : Cx p m meth c cc nL s args RX5 Z B0) (j : Nat) (hj : j < 39) (hs : mSc j = false) (ht : mTy j = 0) {x : Int32} {v : Int32} (hin : vp_in x (mLen j)) (hdg : decode cc pc = .ok (.iastore, 1)) (kk : V p l e R s m args below meth c Q Z B0 nL lay (cM Z lay (up2 μ.1 j (ix x) v, μ.2) r) cells slots (pc + 1) lv rest) : V p l e R s m args below meth c Q Z B0 nL lay (cM Z lay μ r) cells slots pc lv (.int v :: .int x :: .ref (lay (100, j + 1)) :: rest) :=
  x_iast X (100, j + 1) (cM_i hj hs ht) hin rfl (cM_upA (μ' := (up2 μ.1 j (ix x) v, μ.2)) hj hs (by rw [aM, if_neg (by rw [ht]; decide), if_neg (by rw [ht]; decide)]; exact congrArg (fun f : Nat → Int32 => (Sum.inl (Z.2 0, (mLen j, Sum.inl f)) : xE)) (funext fun b => by simp [up2, upd])) (fun a h => up2_ne _ _ _ _ a h) (fun _ _ => rfl)) hdg kk
theorem r_PIn (X : Cx p m meth c cc nL s args RX5 Z B0) (j : Nat) (hj : j < 39) (hs : mSc j = false) (ht : mTy j = 0) {x : Nat} {v : Int32} (hin : x < mLen j) (hdg : decode cc pc = .ok (.iastore, 1)) (kk : V p l e R s m args below meth c Q Z B0 nL lay (cM Z lay (up2 μ.1 j x v, μ.2) r) cells slots (pc + 1) lv rest) : V p l e R s m args below meth c Q Z B0 nL lay (cM Z lay μ r) cells slots pc lv (.int v :: .int (nI x) :: .ref (lay (100, j + 1)) :: rest) := by
  refine r_PI X j hj hs ht (vp_in_nI hin (mLen31 j)) hdg ?_
  rw [ix, nI_clamp (Nat.lt_trans hin (mLen31 j))]
  exact kk
theorem r_Z (X : Cx p m meth c cc nL s args RX5 Z B0) (j : Nat) (hj : j < 39) (hs : mSc j = false) (ht : mTy j = 2) {x : Int32} (hin : vp_in x (mLen j)) {v : Int32} (hdg : decode cc pc = .ok (.baload, 1)) (hv : μ.1 j (ix x) = v) (kk : V p l e R s m args below meth c Q Z B0 nL lay (cM Z lay μ r) cells slots (pc + 1) lv (.int v :: rest)) : V p l e R s m args below meth c Q Z B0 nL lay (cM Z lay μ r) cells slots pc lv (.int x :: .ref (lay (100, j + 1)) :: rest) :=
  x_zald X (100, j + 1) (cM_z hj hs ht) hin rfl hv hdg kk
theorem r_Zn (X : Cx p m meth c cc nL s args RX5 Z B0) (j : Nat) (hj : j < 39) (hs : mSc j = false) (ht : mTy j = 2) {x : Nat} (hin : x < mLen j) {v : Int32} (hdg : decode cc pc = .ok (.baload, 1)) (hv : μ.1 j x = v) (kk : V p l e R s m args below meth c Q Z B0 nL lay (cM Z lay μ r) cells slots (pc + 1) lv (.int v :: rest)) : V p l e R s m args below meth c Q Z B0 nL lay (cM Z lay μ r) cells slots pc lv (.int (nI x) :: .ref (lay (100, j + 1)) :: rest) :=
  x_zald X (100, j + 1) (cM_z hj hs ht) (vp_in_nI hin (mLen31 j)) rfl (by rw [nI_clamp (Nat.lt_trans hin (mLen31 j))]; exact hv) hdg kk
theorem r_PZ (X : Cx p m meth c cc nL s args RX5 Z B0) (j : Nat) (hj : j < 39) (hs : mSc j = false) (ht : mTy j = 2) {x : Int32} {v : Int32} (hb : v = 0 ∨ v = 1) (hin : vp_in x (mLen j)) (hdg : decode cc pc = .ok (.bastore, 1)) (kk : V p l e R s m args below meth c Q Z B0 nL lay (cM Z lay (up2 μ.1 j (ix x) v, μ.2) r) cells slots (pc + 1) lv rest) : V p l e R s m args below meth c Q Z B0 nL lay (cM Z lay μ r) cells slots pc lv (.int v :: .int x :: .ref (lay (100, j + 1)) :: rest) :=
  x_zast X (100, j + 1) (cM_z hj hs ht) hin rfl (cM_upA (μ' := (up2 μ.1 j (ix x) v, μ.2)) hj hs (by rw [aM, if_neg (by rw [ht]; decide), if_pos ht]; exact congrArg (fun f : Nat → Int32 => (Sum.inl (Z.2 2, (mLen j, Sum.inl f)) : xE)) (funext fun b => by rcases hb with rfl | rfl <;> (simp [up2, upd]; try rfl))) (fun a h => up2_ne _ _ _ _ a h) (fun _ _ => rfl)) hdg kk
theorem r_PZn (X : Cx p m meth c cc nL s args RX5 Z B0) (j : Nat) (hj : j < 39) (hs : mSc j = false) (ht : mTy j = 2) {x : Nat} {v : Int32} (hb : v = 0 ∨ v = 1) (hin : x < mLen j) (hdg : decode cc pc = .ok (.bastore, 1)) (kk : V p l e R s m args below meth c Q Z B0 nL lay (cM Z lay (up2 μ.1 j x v, μ.2) r) cells slots (pc + 1) lv rest) : V p l e R s m args below meth c Q Z B0 nL lay (cM Z lay μ r) cells slots pc lv (.int v :: .int (nI x) :: .ref (lay (100, j + 1)) :: rest) := by
  refine r_PZ X j hj hs ht hb (vp_in_nI hin (mLen31 j)) hdg ?_
  rw [ix, nI_clamp (Nat.lt_trans hin (mLen31 j))]
  exact kk
theorem r_L (X : Cx p m meth c cc nL s args RX5 Z B0) (j : Nat) (hj : j < 39) (hs : mSc j = false) (ht : mTy j = 1) {x : Int32} (hin : vp_in x (mLen j)) {v : Int64} (hdg : decode cc pc = .ok (.laload, 1)) (hv : μ.2 j (ix x) = v) (kk : V p l e R s m args below meth c Q Z B0 nL lay (cM Z lay μ r) cells slots (pc + 1) lv (.long v :: rest)) : V p l e R s m args below meth c Q Z B0 nL lay (cM Z lay μ r) cells slots pc lv (.int x :: .ref (lay (100, j + 1)) :: rest) :=
  x_lald X (100, j + 1) (cM_l hj hs ht) hin rfl hv hdg kk
theorem r_Ln (X : Cx p m meth c cc nL s args RX5 Z B0) (j : Nat) (hj : j < 39) (hs : mSc j = false) (ht : mTy j = 1) {x : Nat} (hin : x < mLen j) {v : Int64} (hdg : decode cc pc = .ok (.laload, 1)) (hv : μ.2 j x = v) (kk : V p l e R s m args below meth c Q Z B0 nL lay (cM Z lay μ r) cells slots (pc + 1) lv (.long v :: rest)) : V p l e R s m args below meth c Q Z B0 nL lay (cM Z lay μ r) cells slots pc lv (.int (nI x) :: .ref (lay (100, j + 1)) :: rest) :=
  x_lald X (100, j + 1) (cM_l hj hs ht) (vp_in_nI hin (mLen31 j)) rfl (by rw [nI_clamp (Nat.lt_trans hin (mLen31 j))]; exact hv) hdg kk
theorem r_PL (X : Cx p m meth c cc nL s args RX5 Z B0) (j : Nat) (hj : j < 39) (hs : mSc j = false) (ht : mTy j = 1) {x : Int32} {v : Int64} (hin : vp_in x (mLen j)) (hdg : decode cc pc = .ok (.lastore, 1)) (kk : V p l e R s m args below meth c Q Z B0 nL lay (cM Z lay (μ.1, up2 μ.2 j (ix x) v) r) cells slots (pc + 1) lv rest) : V p l e R s m args below meth c Q Z B0 nL lay (cM Z lay μ r) cells slots pc lv (.long v :: .int x :: .ref (lay (100, j + 1)) :: rest) :=
  x_last X (100, j + 1) (cM_l hj hs ht) hin rfl (cM_upA (μ' := (μ.1, up2 μ.2 j (ix x) v)) hj hs (by rw [aM, if_pos ht]; exact congrArg (fun f : Nat → Int64 => (Sum.inl (Z.2 1, (mLen j, Sum.inr (Sum.inl f))) : xE)) (funext fun b => by simp [up2, vp_updL])) (fun _ _ => rfl) (fun a h => up2_ne _ _ _ _ a h)) hdg kk
theorem r_PLn (X : Cx p m meth c cc nL s args RX5 Z B0) (j : Nat) (hj : j < 39) (hs : mSc j = false) (ht : mTy j = 1) {x : Nat} {v : Int64} (hin : x < mLen j) (hdg : decode cc pc = .ok (.lastore, 1)) (kk : V p l e R s m args below meth c Q Z B0 nL lay (cM Z lay (μ.1, up2 μ.2 j x v) r) cells slots (pc + 1) lv rest) : V p l e R s m args below meth c Q Z B0 nL lay (cM Z lay μ r) cells slots pc lv (.long v :: .int (nI x) :: .ref (lay (100, j + 1)) :: rest) := by
  refine r_PL X j hj hs ht (vp_in_nI hin (mLen31 j)) hdg ?_
  rw [ix, nI_clamp (Nat.lt_trans hin (mLen31 j))]
  exact kk
theorem v_cutJ {lay' : xK → Nat} {C C' : xK → Option xE} {pc' : Nat} {lv' : List (Option Value)} {st st' : List Value} (J : V p l e R s m args below meth c Q Z B0 nL lay' C' cells slots pc' lv' st') (k : V p l e R s m args below meth c Q Z B0 nL lay' C' cells slots pc' lv' st' → V p l e R s m args below meth c Q Z B0 nL lay C cells slots pc lv st) : V p l e R s m args below meth c Q Z B0 nL lay C cells slots pc lv st := k J
theorem v_st {C : xK → Option xE} {st st' : List Value} (h : st = st') (k : V p l e R s m args below meth c Q Z B0 nL lay C cells slots pc lv st') : V p l e R s m args below meth c Q Z B0 nL lay C cells slots pc lv st := h ▸ k
theorem v_C {C C' : xK → Option xE} {st : List Value} (h : C = C') (k : V p l e R s m args below meth c Q Z B0 nL lay C' cells slots pc lv st) : V p l e R s m args below meth c Q Z B0 nL lay C cells slots pc lv st := h ▸ k
theorem v_mu {μ' : Mu} {st : List Value} (h : μ = μ') (k : V p l e R s m args below meth c Q Z B0 nL lay (cM Z lay μ' r) cells slots pc lv st) : V p l e R s m args below meth c Q Z B0 nL lay (cM Z lay μ r) cells slots pc lv st := h ▸ k
end XM
end
section
/-! what each method of the reference does, as a function of its state: M_<method> -/
abbrev inR (v a b : Int32) : Prop := a ≤ v ∧ v ≤ b
abbrev isP (μ : Mu) (p : Int32) : Prop := inR p 0 (μ.1 0 0 - 1)
abbrev isT (μ : Mu) (t : Int32) : Prop := inR t 0 (μ.1 16 0 - 1)
abbrev isK (k : Int32) : Prop := inR k 0 2
abbrev arG (k g : Int32) : Prop := inR g 1 (if k = 1 then 20 else 2000)
abbrev undW (μ : Mu) (t : Nat) : Prop := μ.1 23 t = 0 ∨ μ.1 23 t = 1
abbrev th (μ : Mu) (k : Int32) : Mu := (up2 μ.1 38 0 k, μ.2)
def M_post (μ : Mu) : Int32 × Mu := if 8 ≤ μ.1 0 0 then (0, th μ 1) else (μ.1 0 0 + 1 - 1, (up2 (up2 μ.1 38 0 0) 0 0 (μ.1 0 0 + 1), μ.2))
def M_rates (μ : Mu) (p k f g : Int32) : Mu := if isP μ p then (if isK k ∧ inR f 0 10000 ∧ inR g 0 10000 then (up2 (up2 (up2 μ.1 38 0 0) 1 (ix (3 * p + k)) f) 2 (ix (3 * p + k)) g, μ.2) else th (th μ 0) 2) else th μ 1
def M_due (μ : Mu) (p k c : Int32) : Int32 × Mu := if isP μ p then (if isK k ∧ inR c 0 10000 then (μ.1 3 (ix (3 * p + k)), (up2 (up2 μ.1 38 0 0) 3 (ix (3 * p + k)) c, μ.2)) else (0, th (th μ 0) 2)) else (0, th μ 1)
def M_charge (μ : Mu) (p c : Int32) : Int32 × Mu := if isP μ p then (if inR c 0 1000 then (μ.1 4 (ix p), (up2 (up2 μ.1 38 0 0) 4 (ix p) c, μ.2)) else (0, th (th μ 0) 2)) else (0, th μ 1)
def M_coupon (μ : Mu) (p c : Int32) : Int32 × Mu := if isP μ p then (if inR c 0 10000 then (μ.1 5 (ix p), (up2 (up2 μ.1 38 0 0) 5 (ix p) c, μ.2)) else (0, th (th μ 0) 2)) else (0, th μ 1)
def M_strike (μ : Mu) (p c : Int32) : Int32 × Mu := if isP μ p then (μ.1 6 (ix p), (up2 (up2 μ.1 38 0 0) 6 (ix p) c, μ.2)) else (0, th μ 1)
def M_leg (μ : Mu) (a b d : Int32) : Int32 × Mu := if isP μ a ∧ isP μ b then (if a = b ∨ ¬ inR d 1 100 then (0, th (th μ 0) 2) else if μ.1 10 0 = 20 then (0, th (th μ 0) 3) else (μ.1 10 0 + 1 - 1, (up2 (up2 (up2 (up2 (up2 μ.1 38 0 0) 11 (ix (μ.1 10 0)) a) 12 (ix (μ.1 10 0)) b) 13 (ix (μ.1 10 0)) d) 10 0 (μ.1 10 0 + 1), μ.2))) else (0, th μ 1)
def M_close (μ : Mu) (g c : Int32) : Int32 × Mu := if inR g 0 (μ.1 10 0 - 1) then (μ.1 14 (ix g), (up2 (up2 μ.1 38 0 0) 14 (ix g) c, μ.2)) else (0, th μ 1)
def M_across (A : Nat → Nat → Int32) (g : Nat) (e : Int32) : Int32 := if A 11 g = e then A 12 g else A 11 g
def M_m1 (to : Int32) : Nat → (Nat → Nat → Int32) → (Nat → Nat → Int32)
  | 0, A => A
  | n + 1, A => up2 (M_m1 to n A) 15 n (if nI n = to then 0 else 1000000)
def M_m2a (A : Nat → Nat → Int32) (g : Nat) : Nat → Nat → Int32 := up2 A 15 (ix (A 12 g)) (if A 14 g = 0 ∧ ¬ A 15 (ix (A 12 g)) ≤ A 15 (ix (A 11 g)) + A 13 g then A 15 (ix (A 11 g)) + A 13 g else A 15 (ix (A 12 g)))
def M_m2 (A : Nat → Nat → Int32) (g : Nat) : Nat → Nat → Int32 := up2 (M_m2a A g) 15 (ix (A 11 g)) (if A 14 g = 0 ∧ ¬ M_m2a A g 15 (ix (A 11 g)) ≤ A 15 (ix (A 12 g)) + A 13 g then A 15 (ix (A 12 g)) + A 13 g else M_m2a A g 15 (ix (A 11 g)))
def M_m3 : Nat → (Nat → Nat → Int32) → (Nat → Nat → Int32)
  | 0, A => A
  | n + 1, A => M_m2 (M_m3 n A) n
def M_m4 (legs : Nat) : Nat → (Nat → Nat → Int32) → (Nat → Nat → Int32)
  | 0, A => A
  | n + 1, A => M_m3 legs (M_m4 legs n A)
def M_meas (μ : Mu) (to : Int32) : Mu := (M_m4 (ix (μ.1 10 0)) 8 (M_m1 to 8 μ.1), μ.2)
def M_told (μ : Mu) (a b : Int32) : Int32 × Mu := if isP μ a ∧ isP μ b then (if (M_meas (th μ 0) b).1 15 (ix a) < 1000000 then (M_meas (th μ 0) b).1 15 (ix a) else (-1), M_meas (th μ 0) b) else (0, th μ 1)
def M_nxs (A : Nat → Nat → Int32) (fr : Int32) (g : Nat) (fd : Int32) : Int32 := if A 14 g = 0 ∧ (A 11 g = fr ∨ A 12 g = fr) then (if A 13 g + A 15 (ix (M_across A g fr)) = A 15 (ix fr) ∧ (fd = -1 ∨ ¬ M_across A (ix fd) fr < M_across A g fr) then nI g else fd) else fd
def M_nx (A : Nat → Nat → Int32) (fr : Int32) : Nat → Int32 → Int32
  | 0, fd => fd
  | n + 1, fd => M_nx A fr n (M_nxs A fr n fd)
def M_nextOf (μ : Mu) (a b : Int32) : Int32 × Mu := (if ¬ a = b ∧ ¬ 1000000 ≤ (M_meas μ b).1 15 (ix a) then M_nx (M_meas μ b).1 a (ix (μ.1 10 0)) (-1) else (-1), M_meas μ b)
def M_next (μ : Mu) (a b : Int32) : Int32 × Mu := if isP μ a ∧ isP μ b then M_nextOf (th μ 0) a b else (0, th μ 1)
def M_rateOf (μ : Mu) (k p g b : Int32) : Int32 := μ.1 1 (ix (3 * p + k)) + μ.1 2 (ix (3 * p + k)) * ((g - 1) / 20) + (if b = 0 then 0 else 50)
def M_signs (μ : Mu) (t : Nat) (at' : Int32) : Mu :=
  if μ.1 21 t = 0 ∨ 80000 ≤ μ.1 30 0 then μ else
  let A := up2 (up2 μ.1 31 (ix (μ.1 30 0)) at') 32 (ix (μ.1 30 0)) (-1)
  let B := if μ.1 35 t = 0 then up2 A 33 t (μ.1 30 0) else up2 A 32 (ix (μ.1 34 t)) (μ.1 30 0)
  (up2 (up2 (up2 B 34 t (μ.1 30 0)) 35 t (μ.1 35 t + 1)) 30 0 (μ.1 30 0 + 1), μ.2)
def M_mailS (μ : Mu) (k a b g pd rg : Int32) : Mu :=
  let t := ix (μ.1 16 0)
  let rate := M_rateOf μ k a g rg
  let A := up2 (up2 (up2 (up2 (up2 (up2 (up2 (up2 (up2 μ.1 17 t k) 18 t a) 19 t b) 20 t g) 21 t rg) 22 t (if rate ≤ pd then 0 else rate - pd)) 23 t 0) 24 t a) 25 t (-1)
  let μ' := M_signs (A, up2 μ.2 8 (ix a) (μ.2 8 (ix a) + pd.toInt64)) t a
  (up2 μ'.1 16 0 (μ'.1 16 0 + 1), μ'.2)
def M_mail (μ : Mu) (k a b g pd rg : Int32) : Int32 × Mu := if isP μ a ∧ isP μ b then (if ¬ isK k ∨ ¬ arG k g ∨ ¬ inR pd 0 100000 ∨ a = b then (0, th (th μ 0) 2) else if μ.1 16 0 = 40 then (0, th (th μ 0) 3) else (μ.1 16 0, M_mailS (th μ 0) k a b g pd rg)) else (0, th μ 1)
def M_redirect (μ : Mu) (t b : Int32) : Int32 × Mu := if isT μ t ∧ isP μ b then (if μ.1 23 (ix t) = 0 ∧ μ.1 24 (ix t) = b then (0, th (th μ 0) 2) else if ¬ undW μ (ix t) ∨ ¬ μ.1 27 (ix t) = 0 then (0, th (th μ 0) 3) else (μ.1 19 (ix t), (up2 (up2 μ.1 38 0 0) 19 (ix t) b, μ.2))) else (0, th μ 1)
def M_refuse (μ : Mu) (t c : Int32) : Int32 × Mu := if isT μ t then (if ¬ undW μ (ix t) ∨ ¬ μ.1 27 (ix t) = 0 then (0, th (th μ 0) 2) else (μ.1 28 (ix t), (up2 (up2 μ.1 38 0 0) 28 (ix t) c, μ.2))) else (0, th μ 1)
def M_taxOf (μ : Mu) (t : Nat) : Int64 := if μ.1 1 (ix (3 * μ.1 18 t)) = 0 then 2 * (μ.1 22 t).toInt64 else 2 * (μ.1 22 t).toInt64 * (μ.1 1 (ix (3 * μ.1 19 t))).toInt64 / (μ.1 1 (ix (3 * μ.1 18 t))).toInt64
def M_pays (μ : Mu) (a b : Nat) (c : Int64) : Mu := (μ.1, up2 (up2 μ.2 7 a (μ.2 7 a - c)) 7 b (up2 μ.2 7 a (μ.2 7 a - c) 7 b + c))
def M_comes (μ : Mu) (t : Nat) : Int32 × Mu :=
  if μ.1 27 t = 0 ∧ ¬ μ.1 28 t = 0 ∧ ¬ lg_cmp (M_taxOf μ t) 0 ≤ 0 ∧ ¬ μ.1 19 t = μ.1 18 t then (0, (up2 (up2 μ.1 27 t 1) 19 t (μ.1 18 t), μ.2)) else
  if μ.1 27 t = 0 then
    let ow := if μ.1 19 t = μ.1 18 t then (0 : Int32) else μ.1 3 (ix (3 * μ.1 19 t + μ.1 17 t))
    let μ' : Mu := (up2 μ.1 23 t 2, up2 μ.2 8 (ix (μ.1 19 t)) (μ.2 8 (ix (μ.1 19 t)) + M_taxOf μ t))
    (1, if ¬ μ.1 21 t = 0 then M_pays μ' (ix (μ.1 18 t)) (ix (μ.1 19 t)) ow.toInt64 else if ¬ μ.1 36 0 = 0 then (μ'.1, up2 μ'.2 9 (ix (8 * μ.1 18 t + μ.1 19 t)) (μ'.2 9 (ix (8 * μ.1 18 t + μ.1 19 t)) + ow.toInt64)) else μ')
  else (1, (up2 μ.1 23 t 2, μ.2))
def M_travels (μ : Mu) (t : Nat) : Int32 × Mu :=
  if ¬ μ.1 26 t - 1 ≤ 0 then (0, (up2 μ.1 26 t (μ.1 26 t - 1), μ.2)) else
  let μ' := M_signs (up2 (up2 (up2 μ.1 26 t (μ.1 26 t - 1)) 23 t 0) 25 t (-1), μ.2) t (μ.1 24 t)
  if μ'.1 24 t = μ'.1 19 t then M_comes μ' t else (0, μ')
def M_leaves (μ : Mu) (t : Nat) : Mu :=
  if ¬ μ.1 6 (ix (μ.1 24 t)) = 0 then μ else
  let g := (M_nextOf μ (μ.1 24 t) (μ.1 19 t)).1
  let μ1 := (M_nextOf μ (μ.1 24 t) (μ.1 19 t)).2
  if g = -1 then μ1 else
  let μ2 : Mu := (up2 (up2 (up2 (up2 μ1.1 23 t 1) 25 t g) 26 t (μ1.1 13 (ix g))) 24 t (M_across μ1.1 (ix g) (μ.1 24 t)), μ1.2)
  if μ.1 24 t = μ1.1 18 t then μ2 else M_pays μ2 (ix (μ1.1 18 t)) (ix (μ.1 24 t)) ((μ1.1 4 (ix (μ.1 24 t))).toInt64 * ((μ1.1 20 t + 9) / 10).toInt64)
def M_g1 (tn : Nat) : Nat → Int32 × Mu → Int32 × Mu
  | 0, q => q
  | n + 1, q => let q' := M_g1 tn n q; if q'.2.1 23 n = 1 then (q'.1 + (M_travels q'.2 n).1, (M_travels q'.2 n).2) else (q'.1 + 0, q'.2)
def M_g2 : Nat → Mu → Mu
  | 0, μ => μ
  | n + 1, μ => let μ' := M_g2 n μ; if μ'.1 23 n = 0 then M_leaves μ' n else μ'
def M_day (q : Int32 × Mu) : Int32 × Mu := ((M_g1 (ix (q.2.1 16 0)) (ix (q.2.1 16 0)) q).1, M_g2 (ix (q.2.1 16 0)) (M_g1 (ix (q.2.1 16 0)) (ix (q.2.1 16 0)) q).2)
def M_days : Nat → Int32 × Mu → Int32 × Mu
  | 0, q => q
  | n + 1, q => M_day (M_days n q)
def M_go (μ : Mu) (d : Int32) : Int32 × Mu := if inR d 1 200 then M_days (ix d) (0, th μ 0) else (0, th μ 1)
def M_lose (μ : Mu) (t : Int32) : Int32 × Mu := if isT μ t then (if undW μ (ix t) then (if μ.1 35 (ix t) = 0 then -1 else μ.1 31 (ix (μ.1 34 (ix t))), (up2 (up2 (up2 μ.1 38 0 0) 23 (ix t) 3) 26 (ix t) 0, μ.2)) else (0, th (th μ 0) 2)) else (0, th μ 1)
def M_paysFor (μ : Mu) (t : Nat) (a c : Int32) : Int32 × Mu := if a = μ.1 18 t then (0, μ) else (c, M_pays μ (ix a) (ix (μ.1 18 t)) c.toInt64)
def M_claimS (μ : Mu) (t : Nat) : Int32 × Mu :=
  let μ1 : Mu := (up2 μ.1 29 t 1, up2 μ.2 8 (ix (μ.1 18 t)) (μ.2 8 (ix (μ.1 18 t)) - 4000))
  if μ.1 25 t = -1 then M_paysFor μ1 t (μ.1 24 t) 4000 else
  let q1 := M_paysFor μ1 t (μ.1 11 (ix (μ.1 25 t))) 2000
  let q2 := M_paysFor q1.2 t (q1.2.1 12 (ix (q1.2.1 25 t))) 2000
  (q1.1 + q2.1, q2.2)
def M_claim (μ : Mu) (t : Int32) : Int32 × Mu := if isT μ t then (if ¬ μ.1 23 (ix t) = 3 ∨ μ.1 21 (ix t) = 0 ∨ ¬ μ.1 29 (ix t) = 0 then (0, th (th μ 0) 2) else M_claimS (th μ 0) (ix t)) else (0, th μ 1)
def M_sample (μ : Mu) (c : Int32) : Int32 × Mu := (μ.1 36 0, (up2 (up2 μ.1 38 0 0) 36 0 c, μ.2))
def M_st1 (f : Int32) : Nat → Int64 × Mu → Int64 × Mu
  | 0, q => q
  | n + 1, q => let q' := M_st1 f n q
    (q'.1 + q'.2.2 9 n * f.toInt64, ((M_pays q'.2 (n / 8) (n % 8) (q'.2.2 9 n * f.toInt64)).1, up2 (M_pays q'.2 (n / 8) (n % 8) (q'.2.2 9 n * f.toInt64)).2 9 n 0))
def M_settle (μ : Mu) (f : Int32) : Int64 × Mu := if inR f 1 1000 then M_st1 f 64 (0, th μ 0) else (0, th μ 1)
def M_rate (μ : Mu) (k p g b : Int32) : Int32 × Mu := if isP μ p then (if isK k ∧ arG k g then (M_rateOf μ k p g b, th μ 0) else (0, th (th μ 0) 2)) else (0, th μ 1)
def M_ofThing (μ : Mu) (t w : Int32) : Int64 × Mu := if isT μ t then
  (if w = 0 then ((μ.1 23 (ix t)).toInt64, th μ 0) else if w = 1 then ((μ.1 24 (ix t)).toInt64, th μ 0) else if w = 2 then ((μ.1 26 (ix t)).toInt64, th μ 0) else if w = 3 then ((μ.1 19 (ix t)).toInt64, th μ 0) else if w = 4 then (M_taxOf μ (ix t), th μ 0) else if w = 5 then (if μ.1 27 (ix t) = 0 then 0 else 1, th μ 0) else if w = 6 then ((μ.1 35 (ix t)).toInt64, th μ 0) else (0, th (th μ 0) 2)) else (0, th μ 1)
def M_hd (A : Nat → Nat → Int32) (k : Int32) : Nat → Int32
  | 0 => k
  | n + 1 => A 32 (ix (M_hd A k n))
def M_hand (μ : Mu) (t n : Int32) : Int32 × Mu := if isT μ t ∧ ¬ n < 0 ∧ ¬ μ.1 35 (ix t) ≤ n then (μ.1 31 (ix (M_hd μ.1 (μ.1 33 (ix t)) (ix n))), th μ 0) else (0, th μ 1)
def M_account (μ : Mu) (p : Int32) : Int64 × Mu := if isP μ p then (μ.2 7 (ix p), th μ 0) else (0, th μ 1)
def M_till (μ : Mu) (p : Int32) : Int64 × Mu := if isP μ p then (μ.2 8 (ix p), th μ 0) else (0, th μ 1)
def M_counted (μ : Mu) (a b : Int32) : Int64 × Mu := if isP μ a ∧ isP μ b then (μ.2 9 (ix (8 * a + b)), th μ 0) else (0, th μ 1)
def M_gs (a b : Nat) (A : Nat → Nat → Int32) : Nat → Nat → Int32 := if ¬ a = b ∧ ¬ A 5 a ≤ 0 ∧ ¬ A 1 (3 * b) - A 5 a ≤ A 37 0 then up2 (up2 (up2 A 37 0 (A 1 (3 * b) - A 5 a)) 37 1 (nI a)) 37 2 (nI b) else A
def M_g3 (a : Nat) : Nat → (Nat → Nat → Int32) → (Nat → Nat → Int32)
  | 0, A => A
  | n + 1, A => M_gs a n (M_g3 a n A)
def M_g4 (nP : Nat) : Nat → (Nat → Nat → Int32) → (Nat → Nat → Int32)
  | 0, A => A
  | n + 1, A => M_g3 n nP (M_g4 nP n A)
def M_gain (μ : Mu) (w : Int32) : Int32 × Mu := if inR w 0 2 then
  let A := M_g4 (ix (μ.1 0 0)) (ix (μ.1 0 0)) (up2 (up2 μ.1 38 0 0) 37 0 0)
  (if A 37 0 = 0 then -1 else A 37 (ix w), (A, μ.2)) else (0, th μ 1)
end
section
/-! what holds of the reference's state at any time, as far as its places go; plain facts of ints -/
theorem inR_of {p : Int32} {n : Nat} (hn : n < 2 ^ 31) (h : inR p 0 (nI n - 1)) : ∃ j, j < n ∧ p = nI j := by
  obtain ⟨h1, h2⟩ := h
  obtain ⟨j, hj, rfl⟩ := nI_of (Int32.not_lt.mpr h1)
  refine ⟨j, ?_, rfl⟩
  cases n with
  | zero =>
    exfalso
    have e : nI 0 - 1 = -1 := by decide
    rw [e] at h2
    have h3 : (0 : Int32) ≤ -1 := Int32.le_trans h1 h2
    exact absurd h3 (by decide)
  | succ n =>
    rw [nI_pred] at h2
    have := (nI_leI hj (by omega)).mp h2
    omega
theorem inR_to {j n : Nat} (hn : n < 2 ^ 31) (h : j < n) : inR (nI j) 0 (nI n - 1) := by
  cases n with
  | zero => omega
  | succ n =>
    rw [nI_pred]
    exact ⟨nI_pos' (by omega), (nI_leI (by omega) (by omega)).mpr (by omega)⟩
theorem inR_k {a : Nat} {p : Int32} (ha : a < 2 ^ 31) (h : inR p 0 (nI a)) : ∃ j, j ≤ a ∧ p = nI j := by
  obtain ⟨h1, h2⟩ := h
  obtain ⟨j, hj, rfl⟩ := nI_of (Int32.not_lt.mpr h1)
  exact ⟨j, (nI_leI hj ha).mp h2, rfl⟩
theorem ix_nI {n : Nat} (h : n < 2 ^ 31) : ix (nI n) = n := nI_clamp h
theorem n3 : (3 : Int32) = nI 3 := by decide
theorem n8 : (8 : Int32) = nI 8 := by decide
theorem n2 : (2 : Int32) = nI 2 := by decide
theorem in_of {x : Int32} {n : Nat} (h : vp_in x n) (hn : n < 2 ^ 31) : ∃ j, j < n ∧ x = nI j ∧ ix x = j := by
  obtain ⟨j, hj, rfl⟩ := vp_in_of h hn
  exact ⟨j, hj, rfl, ix_nI (by omega)⟩
theorem in_ix {x : Int32} {n : Nat} (h : vp_in x n) : ix x < n := Nat.not_le.mp fun q => h (Or.inr q)
theorem in_eq {x : Int32} {n : Nat} (h : vp_in x n) (hn : n < 2 ^ 31) : nI (ix x) = x := by
  obtain ⟨j, -, rfl, e⟩ := in_of h hn
  rw [e]
theorem in_3k {p k : Int32} (hp : vp_in p 8) (hk : vp_in k 3) : vp_in (3 * p + k) 24 ∧ ix (3 * p + k) = 3 * ix p + ix k := by
  obtain ⟨j, hj, rfl, e1⟩ := in_of hp (by decide)
  obtain ⟨i, hi, rfl, e2⟩ := in_of hk (by decide)
  rw [n3, pk_mul, nI_add, e1, e2]
  exact ⟨vp_in_nI (by omega) (by decide), ix_nI (by omega)⟩
theorem in_8k {p k : Int32} (hp : vp_in p 8) (hk : vp_in k 8) : vp_in (8 * p + k) 64 ∧ ix (8 * p + k) = 8 * ix p + ix k := by
  obtain ⟨j, hj, rfl, e1⟩ := in_of hp (by decide)
  obtain ⟨i, hi, rfl, e2⟩ := in_of hk (by decide)
  rw [n8, pk_mul, nI_add, e1, e2]
  exact ⟨vp_in_nI (by omega) (by decide), ix_nI (by omega)⟩
theorem in_3 {p : Int32} (hp : vp_in p 8) : vp_in (3 * p) 24 ∧ ix (3 * p) = 3 * ix p := by
  obtain ⟨j, hj, rfl, e1⟩ := in_of hp (by decide)
  rw [n3, pk_mul, e1]
  exact ⟨vp_in_nI (by omega) (by decide), ix_nI (by omega)⟩
theorem isK_in {k : Int32} (h : isK k) : vp_in k 3 := by
  obtain ⟨j, hj, rfl⟩ := inR_k (a := 2) (by decide) (by rw [← n2]; exact h)
  exact vp_in_nI (by omega) (by decide)
/-- counts and places of the reference -/
def RI (μ : Mu) : Prop := (∃ n, n ≤ 8 ∧ μ.1 0 0 = nI n) ∧ (∃ n, n ≤ 20 ∧ μ.1 10 0 = nI n) ∧ (∃ n, n ≤ 40 ∧ μ.1 16 0 = nI n) ∧ (∃ n, n ≤ 80000 ∧ μ.1 30 0 = nI n) ∧ (∀ g, g < 20 → vp_in (μ.1 11 g) 8 ∧ vp_in (μ.1 12 g) 8) ∧ (∀ t, t < 40 → vp_in (μ.1 17 t) 3 ∧ vp_in (μ.1 18 t) 8 ∧ vp_in (μ.1 19 t) 8 ∧ vp_in (μ.1 24 t) 8 ∧ (μ.1 25 t = -1 ∨ vp_in (μ.1 25 t) 20) ∧ vp_in (μ.1 33 t) 80000 ∧ vp_in (μ.1 34 t) 80000) ∧ (∀ j i, mTy j = 2 ∨ j = 36 → μ.1 j i = 0 ∨ μ.1 j i = 1)
theorem RI.P {μ : Mu} (h : RI μ) {p : Int32} (hp : isP μ p) : vp_in p 8 := by
  obtain ⟨n, hn, e⟩ := h.1
  unfold isP at hp
  rw [e] at hp
  obtain ⟨j, hj, rfl⟩ := inR_of (by omega) hp
  exact vp_in_nI (by omega) (by decide)
theorem RI.T {μ : Mu} (h : RI μ) {p : Int32} (hp : isT μ p) : vp_in p 40 := by
  obtain ⟨n, hn, e⟩ := h.2.2.1
  unfold isT at hp
  rw [e] at hp
  obtain ⟨j, hj, rfl⟩ := inR_of (by omega) hp
  exact vp_in_nI (by omega) (by decide)
theorem RI.L {μ : Mu} (h : RI μ) {p : Int32} (hp : inR p 0 (μ.1 10 0 - 1)) : vp_in p 20 := by
  obtain ⟨n, hn, e⟩ := h.2.1
  rw [e] at hp
  obtain ⟨j, hj, rfl⟩ := inR_of (by omega) hp
  exact vp_in_nI (by omega) (by decide)
theorem RI.PK {μ : Mu} (h : RI μ) {p k : Int32} (hp : isP μ p) (hk : isK k) : vp_in (3 * p + k) 24 := (in_3k (h.P hp) (isK_in hk)).1
theorem RI.PP {μ : Mu} (h : RI μ) {p k : Int32} (hp : isP μ p) (hk : isP μ k) : vp_in (8 * p + k) 64 := (in_8k (h.P hp) (h.P hk)).1
theorem RI.l {μ : Mu} (h : RI μ) (hl : ¬ μ.1 10 0 = 20) : vp_in (μ.1 10 0) 20 := by
  obtain ⟨n, hn, e⟩ := h.2.1
  rw [e] at hl ⊢
  refine vp_in_nI (Nat.lt_of_le_of_ne hn fun q => hl ?_) (by decide)
  rw [q]; decide
theorem RI.t {μ : Mu} (h : RI μ) (hl : ¬ μ.1 16 0 = 40) : vp_in (μ.1 16 0) 40 := by
  obtain ⟨n, hn, e⟩ := h.2.2.1
  rw [e] at hl ⊢
  refine vp_in_nI (Nat.lt_of_le_of_ne hn fun q => hl ?_) (by decide)
  rw [q]; decide
theorem nb01 {x : Int32} (h : x = 0 ∨ x = 1) : narrow .boolean (.int x) = .int x := by rcases h with rfl | rfl <;> rfl
theorem RI.B {μ : Mu} (h : RI μ) {j i : Nat} (hj : mTy j = 2 ∨ j = 36) : narrow .boolean (.int (μ.1 j i)) = .int (μ.1 j i) := nb01 (h.2.2.2.2.2.2 j i hj)
theorem RI.b {μ : Mu} (h : RI μ) {j i : Nat} (hj : mTy j = 2 ∨ j = 36) : μ.1 j i = 0 ∨ μ.1 j i = 1 := h.2.2.2.2.2.2 j i hj
theorem RI.or {μ : Mu} (h : RI μ) {t : Nat} (ht : t < 40) : vp_in (μ.1 18 t) 8 := (h.2.2.2.2.2.1 t ht).2.1
theorem RI.kd {μ : Mu} (h : RI μ) {t : Nat} (ht : t < 40) : vp_in (μ.1 17 t) 3 := (h.2.2.2.2.2.1 t ht).1
theorem RI.ta {μ : Mu} (h : RI μ) {t : Nat} (ht : t < 40) : vp_in (μ.1 19 t) 8 := (h.2.2.2.2.2.1 t ht).2.2.1
theorem RI.at {μ : Mu} (h : RI μ) {t : Nat} (ht : t < 40) : vp_in (μ.1 24 t) 8 := (h.2.2.2.2.2.1 t ht).2.2.2.1
theorem RI.on {μ : Mu} (h : RI μ) {t : Nat} (ht : t < 40) : μ.1 25 t = -1 ∨ vp_in (μ.1 25 t) 20 := (h.2.2.2.2.2.1 t ht).2.2.2.2.1
theorem RI.fh {μ : Mu} (h : RI μ) {t : Nat} (ht : t < 40) : vp_in (μ.1 33 t) 80000 := (h.2.2.2.2.2.1 t ht).2.2.2.2.2.1
theorem RI.lh {μ : Mu} (h : RI μ) {t : Nat} (ht : t < 40) : vp_in (μ.1 34 t) 80000 := (h.2.2.2.2.2.1 t ht).2.2.2.2.2.2
theorem RI.o1 {μ : Mu} (h : RI μ) {g : Nat} (hg : g < 20) : vp_in (μ.1 11 g) 8 := (h.2.2.2.2.1 g hg).1
theorem RI.o2 {μ : Mu} (h : RI μ) {g : Nat} (hg : g < 20) : vp_in (μ.1 12 g) 8 := (h.2.2.2.2.1 g hg).2
theorem RI.sg {μ : Mu} (h : RI μ) (hs : ¬ (80000 : Int32) ≤ μ.1 30 0) : vp_in (μ.1 30 0) 80000 := by
  obtain ⟨n, hn, e⟩ := h.2.2.2.1
  rw [e] at hs ⊢
  refine vp_in_nI (Nat.lt_of_le_of_ne hn fun q => hs ?_) (by decide)
  rw [q]; decide
theorem tab_out_le {x : Int32} {k : Nat} (hk : k < 2 ^ 31) (h : ∀ i, i ≤ k → ¬ x = nI i) : x.toInt < 0 ∨ (k : Int) < x.toInt := by
  rcases Int.lt_or_le x.toInt 0 with q | q
  · exact Or.inl q
  · right
    have h0 : ¬ x < 0 := by
      rw [Int32.lt_iff_toInt_lt]
      have : (0 : Int32).toInt = 0 := rfl
      omega
    obtain ⟨j, hj, rfl⟩ := nI_of h0
    rw [nI_toInt hj]
    rcases Nat.lt_or_ge k j with z | z
    · omega
    · exact absurd rfl (h j z)
end
section
/-! the reference's counts and places stay; the loop rule -/
def okUp (j : Nat) (v : Int32) : Prop := (j = 0 → ∃ n, n ≤ 8 ∧ v = nI n) ∧ (j = 10 → ∃ n, n ≤ 20 ∧ v = nI n) ∧ (j = 16 → ∃ n, n ≤ 40 ∧ v = nI n) ∧ (j = 30 → ∃ n, n ≤ 80000 ∧ v = nI n) ∧ (j = 11 ∨ j = 12 → vp_in v 8) ∧ (j = 17 → vp_in v 3) ∧ (j = 18 ∨ j = 19 ∨ j = 24 → vp_in v 8) ∧ (j = 25 → v = -1 ∨ vp_in v 20) ∧ (j = 33 ∨ j = 34 → vp_in v 80000) ∧ (mTy j = 2 ∨ j = 36 → v = 0 ∨ v = 1)
theorem up2_at {α : Type} (f : Nat → Nat → α) (j i : Nat) (v : α) (a b : Nat) : up2 f j i v a b = if a = j ∧ b = i then v else f a b := rfl
theorem up2_P {A : Nat → Nat → Int32} {j i : Nat} {v : Int32} {a b : Nat} {P : Int32 → Prop} (h1 : a = j → P v) (h2 : P (A a b)) : P (up2 A j i v a b) := by
  rw [up2_at]
  split
  · next q => exact h1 q.1
  · exact h2
theorem RI_up {A : Nat → Nat → Int32} {J : Nat → Nat → Int64} (h : RI (A, J)) {j i : Nat} {v : Int32} (hv : okUp j v) : RI (up2 A j i v, J) := by
  obtain ⟨h0, h10, h16, h30, hg, ht, hb⟩ := h
  obtain ⟨v0, v10, v16, v30, vg, v17, v18, v25, v33, vb⟩ := hv
  refine ⟨up2_P (P := fun x => ∃ n, n ≤ 8 ∧ x = nI n) (fun q => v0 q.symm) h0, up2_P (P := fun x => ∃ n, n ≤ 20 ∧ x = nI n) (fun q => v10 q.symm) h10, up2_P (P := fun x => ∃ n, n ≤ 40 ∧ x = nI n) (fun q => v16 q.symm) h16, up2_P (P := fun x => ∃ n, n ≤ 80000 ∧ x = nI n) (fun q => v30 q.symm) h30, fun g hg9 => ⟨up2_P (P := fun x => vp_in x 8) (fun q => vg (Or.inl q.symm)) (hg g hg9).1, up2_P (P := fun x => vp_in x 8) (fun q => vg (Or.inr q.symm)) (hg g hg9).2⟩, fun t ht9 => ?_, fun a b hab => up2_P (P := fun x => x = 0 ∨ x = 1) (fun q => vb (q ▸ hab)) (hb a b hab)⟩
  obtain ⟨a1, a2, a3, a4, a5, a6, a7⟩ := ht t ht9
  exact ⟨up2_P (P := fun x => vp_in x 3) (fun q => v17 q.symm) a1, up2_P (P := fun x => vp_in x 8) (fun q => v18 (Or.inl q.symm)) a2, up2_P (P := fun x => vp_in x 8) (fun q => v18 (Or.inr (Or.inl q.symm))) a3, up2_P (P := fun x => vp_in x 8) (fun q => v18 (Or.inr (Or.inr q.symm))) a4, up2_P (P := fun x => x = -1 ∨ vp_in x 20) (fun q => v25 q.symm) a5, up2_P (P := fun x => vp_in x 80000) (fun q => v33 (Or.inl q.symm)) a6, up2_P (P := fun x => vp_in x 80000) (fun q => v33 (Or.inr q.symm)) a7⟩
theorem RI_J {A : Nat → Nat → Int32} {J J' : Nat → Nat → Int64} (h : RI (A, J)) : RI (A, J') := h
def frj (j : Nat) : Bool := !(j == 0 || j == 10 || j == 16 || j == 30 || j == 11 || j == 12 || j == 17 || j == 18 || j == 19 || j == 24 || j == 25 || j == 33 || j == 34 || j == 36 || mTy j == 2)
theorem okF {j : Nat} (hj : frj j = true) (v : Int32) : okUp j v := by
  simp only [frj, Bool.not_eq_true', Bool.or_eq_false_iff, beq_eq_false_iff_ne] at hj
  obtain ⟨⟨⟨⟨⟨⟨⟨⟨⟨⟨⟨⟨⟨⟨h0, h10⟩, h16⟩, h30⟩, h11⟩, h12⟩, h17⟩, h18⟩, h19⟩, h24⟩, h25⟩, h33⟩, h34⟩, h36⟩, hb⟩ := hj
  exact ⟨fun q => absurd q h0, fun q => absurd q h10, fun q => absurd q h16, fun q => absurd q h30, fun q => q.elim (fun z => absurd z h11) (fun z => absurd z h12), fun q => absurd q h17, fun q => q.elim (fun z => absurd z h18) (fun z => z.elim (fun y => absurd y h19) (fun y => absurd y h24)), fun q => absurd q h25, fun q => q.elim (fun z => absurd z h33) (fun z => absurd z h34), fun q => q.elim (fun z => absurd z hb) (fun z => absurd z h36)⟩
theorem RI_F {A : Nat → Nat → Int32} {J : Nat → Nat → Int64} (h : RI (A, J)) {j : Nat} (hj : frj j = true) (i : Nat) (v : Int32) : RI (up2 A j i v, J) := RI_up h (okF hj v)
theorem RI_th {μ : Mu} (h : RI μ) (k : Int32) : RI (th μ k) := RI_F (A := μ.1) (J := μ.2) h rfl 0 k
theorem ok8 {j : Nat} (hj : j = 18 ∨ j = 19 ∨ j = 24 ∨ j = 11 ∨ j = 12) {v : Int32} (h : vp_in v 8) : okUp j v := by
  rcases hj with rfl | rfl | rfl | rfl | rfl <;> simp [okUp, mTy, h]
theorem okb {j : Nat} (hj : j = 6 ∨ j = 14 ∨ j = 21 ∨ j = 27 ∨ j = 28 ∨ j = 29 ∨ j = 36) {v : Int32} (h : v = 0 ∨ v = 1) : okUp j v := by
  rcases hj with rfl | rfl | rfl | rfl | rfl | rfl | rfl <;> simp [okUp, mTy, h]
theorem ok25 {v : Int32} (h : v = -1 ∨ vp_in v 20) : okUp 25 v := by simp [okUp, mTy, h]
theorem ok17 {v : Int32} (h : vp_in v 3) : okUp 17 v := by simp [okUp, mTy, h]
theorem ok80 {j : Nat} (hj : j = 33 ∨ j = 34) {v : Int32} (h : vp_in v 80000) : okUp j v := by
  rcases hj with rfl | rfl <;> simp [okUp, mTy, h]
theorem okC {j M : Nat} (hj : (j = 0 ∧ M = 8) ∨ (j = 10 ∧ M = 20) ∨ (j = 16 ∧ M = 40) ∨ (j = 30 ∧ M = 80000)) {n : Nat} (h : n ≤ M) : okUp j (nI n) := by
  rcases hj with ⟨rfl, rfl⟩ | ⟨rfl, rfl⟩ | ⟨rfl, rfl⟩ | ⟨rfl, rfl⟩ <;> simp [okUp, mTy] <;> exact ⟨n, h, rfl⟩
theorem RI_signs {μ : Mu} (h : RI μ) (t : Nat) (a : Int32) : RI (M_signs μ t a) := by
  unfold M_signs
  by_cases q : μ.1 21 t = 0 ∨ 80000 ≤ μ.1 30 0
  · rw [if_pos q]; exact h
  · rw [if_neg q]
    have hs := h.sg (fun z => q (Or.inr z))
    obtain ⟨n, hn, hsn, -⟩ := in_of hs (by decide)
    have e : μ.1 30 0 + 1 = nI (n + 1) := by rw [hsn, nI_1]
    have h1 : RI (up2 (up2 μ.1 31 (ix (μ.1 30 0)) a) 32 (ix (μ.1 30 0)) (-1), μ.2) := RI_F (RI_F (A := μ.1) (J := μ.2) h rfl _ _) rfl _ _
    dsimp only
    rw [e]
    refine RI_up (RI_F (RI_up ?_ (ok80 (Or.inr rfl) hs)) rfl _ _) (okC (M := 80000) (Or.inr (Or.inr (Or.inr ⟨rfl, rfl⟩))) (by omega))
    split
    · exact RI_up h1 (ok80 (Or.inl rfl) hs)
    · exact RI_F h1 rfl _ _
section XF
variable {p : Program} {l : Launch} {e : Env} {R : Room} {s : State} {m : MethodId} {args : Array Value} {below : List Frame} {meth : Method} {c : Code} {Q : State → Prop} {Z : xZ} {B0 nL : Nat} {lay : xK → Nat} {cells slots : Nat} {rest : List Value}
/-- a counted loop: n turns from the head on, then what is behind it -/
theorem v_for (n : Nat) (Cf : Nat → xK → Option xE) (lvf : Nat → List (Option Value)) (head : Nat) (st : List Value) (step : ∀ i, i < n → V p l e R s m args below meth c Q Z B0 nL lay (Cf (i + 1)) cells slots head (lvf (i + 1)) st → V p l e R s m args below meth c Q Z B0 nL lay (Cf i) cells slots head (lvf i) st) (ex : V p l e R s m args below meth c Q Z B0 nL lay (Cf n) cells slots head (lvf n) st) : V p l e R s m args below meth c Q Z B0 nL lay (Cf 0) cells slots head (lvf 0) st := by
  have key : ∀ d i, i + d = n → V p l e R s m args below meth c Q Z B0 nL lay (Cf i) cells slots head (lvf i) st := by
    intro d
    induction d with
    | zero => intro i hi; rw [show i = n by omega]; exact ex
    | succ d ih => intro i hi; exact step i (by omega) (ih (i + 1) (by omega))
  exact key n 0 (by omega)
end XF
theorem M_m1_ne (to : Int32) (n : Nat) (A : Nat → Nat → Int32) {j : Nat} (h : j ≠ 15) : M_m1 to n A j = A j := by
  induction n with
  | zero => rfl
  | succ n ih => rw [M_m1, up2_ne _ _ _ _ _ h, ih]
theorem M_m2_ne (A : Nat → Nat → Int32) (g : Nat) {j : Nat} (h : j ≠ 15) : M_m2 A g j = A j := by
  rw [M_m2, up2_ne _ _ _ _ _ h, M_m2a, up2_ne _ _ _ _ _ h]
theorem M_m3_ne (n : Nat) (A : Nat → Nat → Int32) {j : Nat} (h : j ≠ 15) : M_m3 n A j = A j := by
  induction n with
  | zero => rfl
  | succ n ih => rw [M_m3, M_m2_ne _ _ h, ih]
theorem M_m4_ne (g n : Nat) (A : Nat → Nat → Int32) {j : Nat} (h : j ≠ 15) : M_m4 g n A j = A j := by
  induction n with
  | zero => rfl
  | succ n ih => rw [M_m4, M_m3_ne _ _ h, ih]
theorem M_meas_ne (μ : Mu) (to : Int32) {j : Nat} (h : j ≠ 15) : (M_meas μ to).1 j = μ.1 j := by
  show M_m4 (ix (μ.1 10 0)) 8 (M_m1 to 8 μ.1) j = μ.1 j
  rw [M_m4_ne _ _ _ h, M_m1_ne _ _ _ h]
theorem M_meas_2 (μ : Mu) (to : Int32) : (M_meas μ to).2 = μ.2 := rfl
theorem RI_same {μ μ' : Mu} (h : RI μ) (e : ∀ j, j ≠ 15 → μ'.1 j = μ.1 j) : RI μ' := by
  unfold RI at h ⊢
  rw [e 0 (by decide), e 10 (by decide), e 16 (by decide), e 30 (by decide), e 11 (by decide), e 12 (by decide), e 17 (by decide), e 18 (by decide), e 19 (by decide), e 24 (by decide), e 25 (by decide), e 33 (by decide), e 34 (by decide)]
  refine ⟨h.1, h.2.1, h.2.2.1, h.2.2.2.1, h.2.2.2.2.1, h.2.2.2.2.2.1, fun j i q => ?_⟩
  rw [e j (by rintro rfl; revert q; decide)]
  exact h.2.2.2.2.2.2 j i q
theorem RI_meas {μ : Mu} (h : RI μ) (to : Int32) : RI (M_meas μ to) := RI_same h fun _ q => M_meas_ne μ to q
end
section
set_option maxRecDepth 100000 in
set_option maxHeartbeats 4000000 in
theorem c_in (l : Launch) (Z : xZ) (B0 : Nat) (lay : xK → Nat) (C : xK → Option xE) (a b c : Int32) : YM l yX5_in cX5_in 3 ((some FieldType.boolean)) 0 0 0 0 Z B0 [.int a, .int b, .int c] lay C (fun v lay' C' => lay = lay' ∧ C = C' ∧ ((v = some (.int 1) ∧ inR a b c) ∨ (v = some (.int 0) ∧ ¬ inR a b c))) := by
  refine YM_of myX5_in.2 RX5 rfl [some (.int a), some (.int b), some (.int c)] rfl (Nat.le_of_ble_eq_true rfl) ?_
  intro P1 P2 P3 P4 P5 P6 P7 P8 X hr hnm
  refine v_iload_n X (xdec_at tX5_in_0 0 rfl) rfl rfl ?_
  refine v_iload_n X (xdec_at tX5_in_0 1 rfl) rfl rfl ?_
  refine v_icmp_lt (tgt := 14) X (xdec_at tX5_in_0 2 rfl) (by decide) (fun c_2 => ?_) (fun c_2 => ?_)
  · refine v_iconst (v := 0) X (xdec_at tX5_in_0 8 rfl) (by decide) ?_
    exact v_zret X hr (xdec_at tX5_in_0 9 rfl) (Nat.le_of_ble_eq_true rfl) (Nat.le_of_ble_eq_true rfl) (by rfl) ⟨rfl, rfl, Or.inr ⟨rfl, by exact fun q => absurd q.1 (Int32.not_le.mpr c_2)⟩⟩
  · refine v_iload_n X (xdec_at tX5_in_0 3 rfl) rfl rfl ?_
    refine v_iload_n X (xdec_at tX5_in_0 4 rfl) rfl rfl ?_
    refine v_icmp_gt (tgt := 14) X (xdec_at tX5_in_0 5 rfl) (by decide) (fun c_7 => ?_) (fun c_7 => ?_)
    · refine v_iconst (v := 0) X (xdec_at tX5_in_0 8 rfl) (by decide) ?_
      exact v_zret X hr (xdec_at tX5_in_0 9 rfl) (Nat.le_of_ble_eq_true rfl) (Nat.le_of_ble_eq_true rfl) (by rfl) ⟨rfl, rfl, Or.inr ⟨rfl, by exact fun q => absurd q.2 (Int32.not_le.mpr c_7)⟩⟩
    · refine v_iconst (v := 1) X (xdec_at tX5_in_0 6 rfl) (by decide) ?_
      refine v_goto (tgt := 15) X (xdec_at tX5_in_0 7 rfl) (by decide) ?_
      exact v_zret X hr (xdec_at tX5_in_0 9 rfl) (Nat.le_of_ble_eq_true rfl) (Nat.le_of_ble_eq_true rfl) (by rfl) ⟨rfl, rfl, Or.inl ⟨rfl, by exact ⟨Int32.not_lt.mp c_2, Int32.not_lt.mp c_7⟩⟩⟩
set_option maxRecDepth 100000 in
set_option maxHeartbeats 4000000 in
theorem c_isPost (l : Launch) (Z : xZ) (B0 : Nat) (lay : xK → Nat) (μ : Mu) (r : xK → Option xE) (a : Int32) : YM l yX5_isPost cX5_isPost 2 ((some FieldType.boolean)) 1 22 0 0 Z B0 [.ref (lay (100, 0)), .int a] lay (cM Z lay μ r) (fun v lay' C' => lay = lay' ∧ C' = cM Z lay μ r ∧ ((v = some (.int 1) ∧ isP μ a) ∨ (v = some (.int 0) ∧ ¬ isP μ a))) := by
  refine YM_of myX5_isPost.2.2 RX5 rfl [some (.ref (lay (100, 0))), some (.int a)] rfl (Nat.le_of_ble_eq_true rfl) ?_
  intro P1 P2 P3 P4 P5 P6 P7 P8 X hr hnm
  refine v_iload_n X (xdec_at tX5_isPost_0 0 rfl) rfl rfl ?_
  refine v_iconst (v := 0) X (xdec_at tX5_isPost_0 1 rfl) (by decide) ?_
  refine v_aload_n X (xdec_at tX5_isPost_0 2 rfl) rfl rfl ?_
  refine r_S (v := (μ.1 0 0)) X 0 (by decide) rfl rfl (xdec_at tX5_isPost_0 3 rfl) rfl ?_
  refine v_iconst (v := 1) X (xdec_at tX5_isPost_0 4 rfl) (by decide) ?_
  refine v_isub X (xdec_at tX5_isPost_0 5 rfl) ?_
  refine v_callS X myX5_in [.int a, .int 0, .int ((μ.1 0 0) - 1)] [] (c_in l Z B0 lay (cM Z lay μ r) a 0 ((μ.1 0 0) - 1)) (xw_at tW_18 1 rfl) rfl rfl (by rfl) (Nat.le_of_ble_eq_true rfl) (xdec_at tX5_isPost_0 6 rfl) ⟨(Nat.le_of_ble_eq_true rfl), (Nat.le_of_ble_eq_true rfl)⟩ ⟨(Nat.le_of_ble_eq_true rfl), (Nat.le_of_ble_eq_true rfl)⟩ ?_
  rintro v9 lay9 C9 ⟨rfl, rfl, ⟨rfl, q_8⟩ | ⟨rfl, q_8⟩⟩
  · exact v_zret X hr (xdec_at tX5_isPost_0 7 rfl) (Nat.le_of_ble_eq_true rfl) (Nat.le_of_ble_eq_true rfl) (by rfl) ⟨rfl, rfl, Or.inl ⟨rfl, q_8⟩⟩
  · exact v_zret X hr (xdec_at tX5_isPost_0 7 rfl) (Nat.le_of_ble_eq_true rfl) (Nat.le_of_ble_eq_true rfl) (by rfl) ⟨rfl, rfl, Or.inr ⟨rfl, q_8⟩⟩
set_option maxRecDepth 100000 in
set_option maxHeartbeats 4000000 in
theorem c_isThing (l : Launch) (Z : xZ) (B0 : Nat) (lay : xK → Nat) (μ : Mu) (r : xK → Option xE) (a : Int32) : YM l yX5_isThing cX5_isThing 2 ((some FieldType.boolean)) 1 22 0 0 Z B0 [.ref (lay (100, 0)), .int a] lay (cM Z lay μ r) (fun v lay' C' => lay = lay' ∧ C' = cM Z lay μ r ∧ ((v = some (.int 1) ∧ isT μ a) ∨ (v = some (.int 0) ∧ ¬ isT μ a))) := by
  refine YM_of myX5_isThing.2.2 RX5 rfl [some (.ref (lay (100, 0))), some (.int a)] rfl (Nat.le_of_ble_eq_true rfl) ?_
  intro P1 P2 P3 P4 P5 P6 P7 P8 X hr hnm
  refine v_iload_n X (xdec_at tX5_isThing_0 0 rfl) rfl rfl ?_
  refine v_iconst (v := 0) X (xdec_at tX5_isThing_0 1 rfl) (by decide) ?_
  refine v_aload_n X (xdec_at tX5_isThing_0 2 rfl) rfl rfl ?_
  refine r_S (v := (μ.1 16 0)) X 16 (by decide) rfl rfl (xdec_at tX5_isThing_0 3 rfl) rfl ?_
  refine v_iconst (v := 1) X (xdec_at tX5_isThing_0 4 rfl) (by decide) ?_
  refine v_isub X (xdec_at tX5_isThing_0 5 rfl) ?_
  refine v_callS X myX5_in [.int a, .int 0, .int ((μ.1 16 0) - 1)] [] (c_in l Z B0 lay (cM Z lay μ r) a 0 ((μ.1 16 0) - 1)) (xw_at tW_18 1 rfl) rfl rfl (by rfl) (Nat.le_of_ble_eq_true rfl) (xdec_at tX5_isThing_0 6 rfl) ⟨(Nat.le_of_ble_eq_true rfl), (Nat.le_of_ble_eq_true rfl)⟩ ⟨(Nat.le_of_ble_eq_true rfl), (Nat.le_of_ble_eq_true rfl)⟩ ?_
  rintro v9 lay9 C9 ⟨rfl, rfl, ⟨rfl, q_8⟩ | ⟨rfl, q_8⟩⟩
  · exact v_zret X hr (xdec_at tX5_isThing_0 7 rfl) (Nat.le_of_ble_eq_true rfl) (Nat.le_of_ble_eq_true rfl) (by rfl) ⟨rfl, rfl, Or.inl ⟨rfl, q_8⟩⟩
  · exact v_zret X hr (xdec_at tX5_isThing_0 7 rfl) (Nat.le_of_ble_eq_true rfl) (Nat.le_of_ble_eq_true rfl) (by rfl) ⟨rfl, rfl, Or.inr ⟨rfl, q_8⟩⟩
set_option maxRecDepth 100000 in
set_option maxHeartbeats 4000000 in
theorem c_isKind (l : Launch) (Z : xZ) (B0 : Nat) (lay : xK → Nat) (C : xK → Option xE) (a : Int32) : YM l yX5_isKind cX5_isKind 1 ((some FieldType.boolean)) 1 22 0 0 Z B0 [.int a] lay C (fun v lay' C' => lay = lay' ∧ C = C' ∧ ((v = some (.int 1) ∧ isK a) ∨ (v = some (.int 0) ∧ ¬ isK a))) := by
  refine YM_of myX5_isKind.2 RX5 rfl [some (.int a)] rfl (Nat.le_of_ble_eq_true rfl) ?_
  intro P1 P2 P3 P4 P5 P6 P7 P8 X hr hnm
  refine v_iload_n X (xdec_at tX5_isKind_0 0 rfl) rfl rfl ?_
  refine v_iconst (v := 0) X (xdec_at tX5_isKind_0 1 rfl) (by decide) ?_
  refine v_iconst (v := 2) X (xdec_at tX5_isKind_0 2 rfl) (by decide) ?_
  refine v_callS X myX5_in [.int a, .int 0, .int 2] [] (c_in l Z B0 lay C a 0 2) (xw_at tW_18 1 rfl) rfl rfl (by rfl) (Nat.le_of_ble_eq_true rfl) (xdec_at tX5_isKind_0 3 rfl) ⟨(Nat.le_of_ble_eq_true rfl), (Nat.le_of_ble_eq_true rfl)⟩ ⟨(Nat.le_of_ble_eq_true rfl), (Nat.le_of_ble_eq_true rfl)⟩ ?_
  rintro v9 lay9 C9 ⟨rfl, rfl, ⟨rfl, q_3⟩ | ⟨rfl, q_3⟩⟩
  · exact v_zret X hr (xdec_at tX5_isKind_0 4 rfl) (Nat.le_of_ble_eq_true rfl) (Nat.le_of_ble_eq_true rfl) (by rfl) ⟨rfl, rfl, Or.inl ⟨rfl, q_3⟩⟩
  · exact v_zret X hr (xdec_at tX5_isKind_0 4 rfl) (Nat.le_of_ble_eq_true rfl) (Nat.le_of_ble_eq_true rfl) (by rfl) ⟨rfl, rfl, Or.inr ⟨rfl, q_3⟩⟩
set_option maxRecDepth 100000 in
set_option maxHeartbeats 4000000 in
theorem c_areGrams (l : Launch) (Z : xZ) (B0 : Nat) (lay : xK → Nat) (C : xK → Option xE) (a b : Int32) : YM l yX5_areGrams cX5_areGrams 2 ((some FieldType.boolean)) 1 22 0 0 Z B0 [.int a, .int b] lay C (fun v lay' C' => lay = lay' ∧ C = C' ∧ ((v = some (.int 1) ∧ arG a b) ∨ (v = some (.int 0) ∧ ¬ arG a b))) := by
  refine YM_of myX5_areGrams.2 RX5 rfl [some (.int a), some (.int b)] rfl (Nat.le_of_ble_eq_true rfl) ?_
  intro P1 P2 P3 P4 P5 P6 P7 P8 X hr hnm
  refine v_iload_n X (xdec_at tX5_areGrams_0 0 rfl) rfl rfl ?_
  refine v_iconst (v := 1) X (xdec_at tX5_areGrams_0 1 rfl) (by decide) ?_
  refine v_iload_n X (xdec_at tX5_areGrams_0 2 rfl) rfl rfl ?_
  refine v_iconst (v := 1) X (xdec_at tX5_areGrams_0 3 rfl) (by decide) ?_
  refine v_icmp_ne (tgt := 12) X (xdec_at tX5_areGrams_0 4 rfl) (by decide) (fun c_4 => ?_) (fun c_4 => ?_)
  · refine v_sipush (v := 2000) X (xdec_at tX5_areGrams_0 7 rfl) (by decide) ?_
    refine v_callS X myX5_in [.int b, .int 1, .int 2000] [] (c_in l Z B0 lay C b 1 2000) (xw_at tW_18 1 rfl) rfl rfl (by rfl) (Nat.le_of_ble_eq_true rfl) (xdec_at tX5_areGrams_0 8 rfl) ⟨(Nat.le_of_ble_eq_true rfl), (Nat.le_of_ble_eq_true rfl)⟩ ⟨(Nat.le_of_ble_eq_true rfl), (Nat.le_of_ble_eq_true rfl)⟩ ?_
    rintro v9 lay9 C9 ⟨rfl, rfl, ⟨rfl, q_15⟩ | ⟨rfl, q_15⟩⟩
    · exact v_zret X hr (xdec_at tX5_areGrams_0 9 rfl) (Nat.le_of_ble_eq_true rfl) (Nat.le_of_ble_eq_true rfl) (by rfl) ⟨rfl, rfl, Or.inl ⟨rfl, by simpa [arG, c_4] using q_15⟩⟩
    · exact v_zret X hr (xdec_at tX5_areGrams_0 9 rfl) (Nat.le_of_ble_eq_true rfl) (Nat.le_of_ble_eq_true rfl) (by rfl) ⟨rfl, rfl, Or.inr ⟨rfl, by simpa [arG, c_4] using q_15⟩⟩
  · refine v_bipush (v := 20) X (xdec_at tX5_areGrams_0 5 rfl) (by decide) ?_
    refine v_goto (tgt := 15) X (xdec_at tX5_areGrams_0 6 rfl) (by decide) ?_
    refine v_callS X myX5_in [.int b, .int 1, .int 20] [] (c_in l Z B0 lay C b 1 20) (xw_at tW_18 1 rfl) rfl rfl (by rfl) (Nat.le_of_ble_eq_true rfl) (xdec_at tX5_areGrams_0 8 rfl) ⟨(Nat.le_of_ble_eq_true rfl), (Nat.le_of_ble_eq_true rfl)⟩ ⟨(Nat.le_of_ble_eq_true rfl), (Nat.le_of_ble_eq_true rfl)⟩ ?_
    rintro v9 lay9 C9 ⟨rfl, rfl, ⟨rfl, q_15⟩ | ⟨rfl, q_15⟩⟩
    · exact v_zret X hr (xdec_at tX5_areGrams_0 9 rfl) (Nat.le_of_ble_eq_true rfl) (Nat.le_of_ble_eq_true rfl) (by rfl) ⟨rfl, rfl, Or.inl ⟨rfl, by simpa [arG, (eq_true c_4)] using q_15⟩⟩
    · exact v_zret X hr (xdec_at tX5_areGrams_0 9 rfl) (Nat.le_of_ble_eq_true rfl) (Nat.le_of_ble_eq_true rfl) (by rfl) ⟨rfl, rfl, Or.inr ⟨rfl, by simpa [arG, (eq_true c_4)] using q_15⟩⟩
set_option maxRecDepth 100000 in
set_option maxHeartbeats 4000000 in
theorem c_thrown (l : Launch) (Z : xZ) (B0 : Nat) (lay : xK → Nat) (μ : Mu) (r : xK → Option xE)  : YM l yX5_thrown cX5_thrown 1 ((some FieldType.int)) 0 0 0 0 Z B0 [.ref (lay (100, 0))] lay (cM Z lay μ r) (fun v lay' C' => lay = lay' ∧ v = some (.int (μ.1 38 0)) ∧ C' = cM Z lay μ r) := by
  refine YM_of myX5_thrown.2.2 RX5 rfl [some (.ref (lay (100, 0)))] rfl (Nat.le_of_ble_eq_true rfl) ?_
  intro P1 P2 P3 P4 P5 P6 P7 P8 X hr hnm
  refine v_aload_n X (xdec_at tX5_thrown_0 0 rfl) rfl rfl ?_
  refine r_S (v := (μ.1 38 0)) X 38 (by decide) rfl rfl (xdec_at tX5_thrown_0 1 rfl) rfl ?_
  exact v_iret X hr (xdec_at tX5_thrown_0 2 rfl) (Nat.le_of_ble_eq_true rfl) (Nat.le_of_ble_eq_true rfl) ⟨rfl, rfl, rfl⟩
set_option maxRecDepth 100000 in
set_option maxHeartbeats 4000000 in
theorem c_fails (l : Launch) (Z : xZ) (B0 : Nat) (lay : xK → Nat) (μ : Mu) (r : xK → Option xE) (k : Int32) : YM l yX5_fails cX5_fails 2 ((some FieldType.int)) 0 0 0 0 Z B0 [.ref (lay (100, 0)), .int k] lay (cM Z lay μ r) (fun v lay' C' => lay = lay' ∧ v = some (.int 0) ∧ C' = cM Z lay (th μ k) r) := by
  refine YM_of myX5_fails.2.2 RX5 rfl [some (.ref (lay (100, 0))), some (.int k)] rfl (Nat.le_of_ble_eq_true rfl) ?_
  intro P1 P2 P3 P4 P5 P6 P7 P8 X hr hnm
  refine v_aload_n X (xdec_at tX5_fails_0 0 rfl) rfl rfl ?_
  refine v_iload_n X (xdec_at tX5_fails_0 1 rfl) rfl rfl ?_
  refine r_PS X 38 (by decide) rfl (by decide) rfl (xdec_at tX5_fails_0 2 rfl) ?_
  refine v_iconst (v := 0) X (xdec_at tX5_fails_0 3 rfl) (by decide) ?_
  exact v_iret X hr (xdec_at tX5_fails_0 4 rfl) (Nat.le_of_ble_eq_true rfl) (Nat.le_of_ble_eq_true rfl) ⟨rfl, rfl, rfl⟩
set_option maxRecDepth 100000 in
set_option maxHeartbeats 4000000 in
theorem c_asks1 (l : Launch) (Z : xZ) (B0 : Nat) (lay : xK → Nat) (μ : Mu) (r : xK → Option xE)  : YM l yX5_asks cX5_asks 2 ((some FieldType.boolean)) 0 0 0 0 Z B0 [.ref (lay (100, 0)), .int 1] lay (cM Z lay μ r) (fun v lay' C' => lay = lay' ∧ v = some (.int 1) ∧ C' = cM Z lay (th μ 0) r) := by
  refine YM_of myX5_asks.2.2 RX5 rfl [some (.ref (lay (100, 0))), some (.int 1)] rfl (Nat.le_of_ble_eq_true rfl) ?_
  intro P1 P2 P3 P4 P5 P6 P7 P8 X hr hnm
  refine v_aload_n X (xdec_at tX5_asks_0 0 rfl) rfl rfl ?_
  refine v_iload_n X (xdec_at tX5_asks_0 1 rfl) rfl rfl ?_
  refine v_if_eq (tgt := 9) X (xdec_at tX5_asks_0 2 rfl) (by decide) (fun h9 => absurd h9 (by decide)) (fun _ => ?_)
  refine v_iconst (v := 0) X (xdec_at tX5_asks_0 3 rfl) (by decide) ?_
  refine v_goto (tgt := 10) X (xdec_at tX5_asks_0 4 rfl) (by decide) ?_
  refine r_PS X 38 (by decide) rfl (by decide) rfl (xdec_at tX5_asks_0 6 rfl) ?_
  refine v_iload_n X (xdec_at tX5_asks_0 7 rfl) rfl rfl ?_
  exact v_zret X hr (xdec_at tX5_asks_0 8 rfl) (Nat.le_of_ble_eq_true rfl) (Nat.le_of_ble_eq_true rfl) (by rfl) ⟨rfl, rfl, rfl⟩
set_option maxRecDepth 100000 in
set_option maxHeartbeats 4000000 in
theorem c_asks0 (l : Launch) (Z : xZ) (B0 : Nat) (lay : xK → Nat) (μ : Mu) (r : xK → Option xE)  : YM l yX5_asks cX5_asks 2 ((some FieldType.boolean)) 0 0 0 0 Z B0 [.ref (lay (100, 0)), .int 0] lay (cM Z lay μ r) (fun v lay' C' => lay = lay' ∧ v = some (.int 0) ∧ C' = cM Z lay (th μ 1) r) := by
  refine YM_of myX5_asks.2.2 RX5 rfl [some (.ref (lay (100, 0))), some (.int 0)] rfl (Nat.le_of_ble_eq_true rfl) ?_
  intro P1 P2 P3 P4 P5 P6 P7 P8 X hr hnm
  refine v_aload_n X (xdec_at tX5_asks_0 0 rfl) rfl rfl ?_
  refine v_iload_n X (xdec_at tX5_asks_0 1 rfl) rfl rfl ?_
  refine v_if_eq (tgt := 9) X (xdec_at tX5_asks_0 2 rfl) (by decide) (fun _ => ?_) (fun h9 => absurd h9 (by decide))
  refine v_iconst (v := 1) X (xdec_at tX5_asks_0 5 rfl) (by decide) ?_
  refine r_PS X 38 (by decide) rfl (by decide) rfl (xdec_at tX5_asks_0 6 rfl) ?_
  refine v_iload_n X (xdec_at tX5_asks_0 7 rfl) rfl rfl ?_
  exact v_zret X hr (xdec_at tX5_asks_0 8 rfl) (Nat.le_of_ble_eq_true rfl) (Nat.le_of_ble_eq_true rfl) (by rfl) ⟨rfl, rfl, rfl⟩
end
section
set_option maxRecDepth 100000 in
set_option maxHeartbeats 4000000 in
theorem c_post (l : Launch) (Z : xZ) (B0 : Nat) (lay : xK → Nat) (μ : Mu) (r : xK → Option xE)  (hI : RI μ) : YM l yX5_post cX5_post 1 ((some FieldType.int)) 1 21 0 0 Z B0 [.ref (lay (100, 0))] lay (cM Z lay μ r) (fun v lay' C' => lay = lay' ∧ v = some (.int (M_post μ).1) ∧ C' = cM Z lay (M_post μ).2 r) := by
  refine YM_of myX5_post.2.2 RX5 rfl [some (.ref (lay (100, 0)))] rfl (Nat.le_of_ble_eq_true rfl) ?_
  intro P1 P2 P3 P4 P5 P6 P7 P8 X hr hnm
  refine v_aload_n X (xdec_at tX5_post_0 0 rfl) rfl rfl ?_
  refine v_aload_n X (xdec_at tX5_post_0 1 rfl) rfl rfl ?_
  refine r_S (v := (μ.1 0 0)) X 0 (by decide) rfl rfl (xdec_at tX5_post_0 2 rfl) rfl ?_
  refine v_bipush (v := 8) X (xdec_at tX5_post_0 3 rfl) (by decide) ?_
  refine v_icmp_ge (tgt := 14) X (xdec_at tX5_post_0 4 rfl) (by decide) (fun c_7 => ?_) (fun c_7 => ?_)
  · refine v_iconst (v := 0) X (xdec_at tX5_post_0 7 rfl) (by decide) ?_
    refine v_callV X myX5_asks [.int 0] [] (c_asks0 l Z B0 lay μ r) (xw_at tW_17 31 rfl) (100, 0) cM_0 rfl rfl rfl rfl (by rfl) (Nat.le_of_ble_eq_true rfl) (xdec_at tX5_post_0 8 rfl) ⟨(Nat.le_of_ble_eq_true rfl), (Nat.le_of_ble_eq_true rfl)⟩ ⟨(Nat.le_of_ble_eq_true rfl), (Nat.le_of_ble_eq_true rfl)⟩ ?_
    rintro v9 lay9 C9 ⟨rfl, rfl, rfl⟩
    refine v_if_ne (tgt := 23) X (xdec_at tX5_post_0 9 rfl) (by decide) (fun h9 => absurd h9 (by decide)) (fun _ => ?_)
    refine v_iconst (v := 0) X (xdec_at tX5_post_0 10 rfl) (by decide) ?_
    have e9 : M_post μ = (0, ((up2 μ.1 38 0 1), μ.2)) := by simp [M_post, up2_at, c_7]
    exact v_iret X hr (xdec_at tX5_post_0 11 rfl) (Nat.le_of_ble_eq_true rfl) (Nat.le_of_ble_eq_true rfl) ⟨rfl, by rw [e9], by rw [e9]⟩
  · refine v_iconst (v := 1) X (xdec_at tX5_post_0 5 rfl) (by decide) ?_
    refine v_goto (tgt := 15) X (xdec_at tX5_post_0 6 rfl) (by decide) ?_
    refine v_callV X myX5_asks [.int 1] [] (c_asks1 l Z B0 lay μ r) (xw_at tW_17 31 rfl) (100, 0) cM_0 rfl rfl rfl rfl (by rfl) (Nat.le_of_ble_eq_true rfl) (xdec_at tX5_post_0 8 rfl) ⟨(Nat.le_of_ble_eq_true rfl), (Nat.le_of_ble_eq_true rfl)⟩ ⟨(Nat.le_of_ble_eq_true rfl), (Nat.le_of_ble_eq_true rfl)⟩ ?_
    rintro v9 lay9 C9 ⟨rfl, rfl, rfl⟩
    refine v_if_ne (tgt := 23) X (xdec_at tX5_post_0 9 rfl) (by decide) (fun _ => ?_) (fun h9 => absurd h9 (by decide))
    refine v_aload_n X (xdec_at tX5_post_0 12 rfl) rfl rfl ?_
    refine v_dup X (xdec_at tX5_post_0 13 rfl) rfl ?_
    refine r_S (v := (μ.1 0 0)) X 0 (by decide) rfl rfl (xdec_at tX5_post_0 14 rfl) rfl ?_
    refine v_iconst (v := 1) X (xdec_at tX5_post_0 15 rfl) (by decide) ?_
    refine v_iadd X (xdec_at tX5_post_0 16 rfl) ?_
    refine r_PS X 0 (by decide) rfl (by decide) rfl (xdec_at tX5_post_0 17 rfl) ?_
    refine v_aload_n X (xdec_at tX5_post_0 18 rfl) rfl rfl ?_
    refine r_S (v := ((μ.1 0 0) + 1)) X 0 (by decide) rfl rfl (xdec_at tX5_post_0 19 rfl) rfl ?_
    refine v_iconst (v := 1) X (xdec_at tX5_post_0 20 rfl) (by decide) ?_
    refine v_isub X (xdec_at tX5_post_0 21 rfl) ?_
    have e9 : M_post μ = ((((μ.1 0 0) + 1) - 1), ((up2 (up2 μ.1 38 0 0) 0 0 ((μ.1 0 0) + 1)), μ.2)) := by simp [M_post, up2_at, c_7]
    exact v_iret X hr (xdec_at tX5_post_0 22 rfl) (Nat.le_of_ble_eq_true rfl) (Nat.le_of_ble_eq_true rfl) ⟨rfl, by rw [e9], by rw [e9]⟩
set_option maxRecDepth 100000 in
set_option maxHeartbeats 4000000 in
theorem c_rates (l : Launch) (Z : xZ) (B0 : Nat) (lay : xK → Nat) (μ : Mu) (r : xK → Option xE) (p k f g : Int32) (hI : RI μ) : YM l yX5_rates cX5_rates 5 ((none : Option FieldType)) 2 43 0 0 Z B0 [.ref (lay (100, 0)), .int p, .int k, .int f, .int g] lay (cM Z lay μ r) (fun v lay' C' => lay = lay' ∧ v = none ∧ C' = cM Z lay (M_rates μ p k f g) r) := by
  refine YM_of myX5_rates.2.2 RX5 rfl [some (.ref (lay (100, 0))), some (.int p), some (.int k), some (.int f), some (.int g)] rfl (Nat.le_of_ble_eq_true rfl) ?_
  intro P1 P2 P3 P4 P5 P6 P7 P8 X hr hnm
  refine v_aload_n X (xdec_at tX5_rates_0 0 rfl) rfl rfl ?_
  refine v_aload_n X (xdec_at tX5_rates_0 1 rfl) rfl rfl ?_
  refine v_iload_n X (xdec_at tX5_rates_0 2 rfl) rfl rfl ?_
  refine v_callV X myX5_isPost [.int p] [.ref (lay (100, 0))] (c_isPost l Z B0 lay μ r p) (xw_at tW_17 38 rfl) (100, 0) cM_0 rfl rfl rfl rfl (by rfl) (Nat.le_of_ble_eq_true rfl) (xdec_at tX5_rates_0 3 rfl) ⟨(Nat.le_of_ble_eq_true rfl), (Nat.le_of_ble_eq_true rfl)⟩ ⟨(Nat.le_of_ble_eq_true rfl), (Nat.le_of_ble_eq_true rfl)⟩ ?_
  rintro v9 lay9 C9 ⟨rfl, rfl, ⟨rfl, q_3⟩ | ⟨rfl, q_3⟩⟩
  · refine v_callV X myX5_asks [.int 1] [] (c_asks1 l Z B0 lay μ r) (xw_at tW_17 31 rfl) (100, 0) cM_0 rfl rfl rfl rfl (by rfl) (Nat.le_of_ble_eq_true rfl) (xdec_at tX5_rates_0 4 rfl) ⟨(Nat.le_of_ble_eq_true rfl), (Nat.le_of_ble_eq_true rfl)⟩ ⟨(Nat.le_of_ble_eq_true rfl), (Nat.le_of_ble_eq_true rfl)⟩ ?_
    rintro v9 lay9 C9 ⟨rfl, rfl, rfl⟩
    refine v_if_ne (tgt := 13) X (xdec_at tX5_rates_0 5 rfl) (by decide) (fun _ => ?_) (fun h9 => absurd h9 (by decide))
    refine v_iload_n X (xdec_at tX5_rates_0 7 rfl) rfl rfl ?_
    refine v_callS X myX5_isKind [.int k] [] (c_isKind l Z B0 lay (cM Z lay ((up2 μ.1 38 0 0), μ.2) r) k) (xw_at tW_18 4 rfl) rfl rfl (by rfl) (Nat.le_of_ble_eq_true rfl) (xdec_at tX5_rates_0 8 rfl) ⟨(Nat.le_of_ble_eq_true rfl), (Nat.le_of_ble_eq_true rfl)⟩ ⟨(Nat.le_of_ble_eq_true rfl), (Nat.le_of_ble_eq_true rfl)⟩ ?_
    rintro v9 lay9 C9 ⟨rfl, rfl, ⟨rfl, q_14⟩ | ⟨rfl, q_14⟩⟩
    · refine v_if_eq (tgt := 43) X (xdec_at tX5_rates_0 9 rfl) (by decide) (fun h9 => absurd h9 (by decide)) (fun _ => ?_)
      refine v_iload_n X (xdec_at tX5_rates_0 10 rfl) rfl rfl ?_
      refine v_iconst (v := 0) X (xdec_at tX5_rates_0 11 rfl) (by decide) ?_
      refine v_sipush (v := 10000) X (xdec_at tX5_rates_0 12 rfl) (by decide) ?_
      refine v_callS X myX5_in [.int f, .int 0, .int 10000] [] (c_in l Z B0 lay (cM Z lay ((up2 μ.1 38 0 0), μ.2) r) f 0 10000) (xw_at tW_18 1 rfl) rfl rfl (by rfl) (Nat.le_of_ble_eq_true rfl) (xdec_at tX5_rates_0 13 rfl) ⟨(Nat.le_of_ble_eq_true rfl), (Nat.le_of_ble_eq_true rfl)⟩ ⟨(Nat.le_of_ble_eq_true rfl), (Nat.le_of_ble_eq_true rfl)⟩ ?_
      rintro v9 lay9 C9 ⟨rfl, rfl, ⟨rfl, q_25⟩ | ⟨rfl, q_25⟩⟩
      · refine v_if_eq (tgt := 43) X (xdec_at tX5_rates_0 14 rfl) (by decide) (fun h9 => absurd h9 (by decide)) (fun _ => ?_)
        refine v_iload X (xdec_at tX5_rates_0 15 rfl) rfl ?_
        refine v_iconst (v := 0) X (xdec_at tX5_rates_0 16 rfl) (by decide) ?_
        refine v_sipush (v := 10000) X (xdec_at tX5_rates_0 17 rfl) (by decide) ?_
        refine v_callS X myX5_in [.int g, .int 0, .int 10000] [] (c_in l Z B0 lay (cM Z lay ((up2 μ.1 38 0 0), μ.2) r) g 0 10000) (xw_at tW_18 1 rfl) rfl rfl (by rfl) (Nat.le_of_ble_eq_true rfl) (xdec_at tX5_rates_0 18 rfl) ⟨(Nat.le_of_ble_eq_true rfl), (Nat.le_of_ble_eq_true rfl)⟩ ⟨(Nat.le_of_ble_eq_true rfl), (Nat.le_of_ble_eq_true rfl)⟩ ?_
        rintro v9 lay9 C9 ⟨rfl, rfl, ⟨rfl, q_37⟩ | ⟨rfl, q_37⟩⟩
        · refine v_if_ne (tgt := 49) X (xdec_at tX5_rates_0 19 rfl) (by decide) (fun _ => ?_) (fun h9 => absurd h9 (by decide))
          refine v_aload_n X (xdec_at tX5_rates_0 24 rfl) rfl rfl ?_
          refine r_A X 1 (by decide) rfl rfl (xdec_at tX5_rates_0 25 rfl) ?_
          refine v_iconst (v := 3) X (xdec_at tX5_rates_0 26 rfl) (by decide) ?_
          refine v_iload_n X (xdec_at tX5_rates_0 27 rfl) rfl rfl ?_
          refine v_imul X (xdec_at tX5_rates_0 28 rfl) ?_
          refine v_iload_n X (xdec_at tX5_rates_0 29 rfl) rfl rfl ?_
          refine v_iadd X (xdec_at tX5_rates_0 30 rfl) ?_
          refine v_iload_n X (xdec_at tX5_rates_0 31 rfl) rfl rfl ?_
          refine r_PI X 1 (by decide) rfl rfl (hI.PK (by assumption) (by assumption)) (xdec_at tX5_rates_0 32 rfl) ?_
          refine v_aload_n X (xdec_at tX5_rates_0 33 rfl) rfl rfl ?_
          refine r_A X 2 (by decide) rfl rfl (xdec_at tX5_rates_0 34 rfl) ?_
          refine v_iconst (v := 3) X (xdec_at tX5_rates_0 35 rfl) (by decide) ?_
          refine v_iload_n X (xdec_at tX5_rates_0 36 rfl) rfl rfl ?_
          refine v_imul X (xdec_at tX5_rates_0 37 rfl) ?_
          refine v_iload_n X (xdec_at tX5_rates_0 38 rfl) rfl rfl ?_
          refine v_iadd X (xdec_at tX5_rates_0 39 rfl) ?_
          refine v_iload X (xdec_at tX5_rates_1 0 rfl) rfl ?_
          refine r_PI X 2 (by decide) rfl rfl (hI.PK (by assumption) (by assumption)) (xdec_at tX5_rates_1 1 rfl) ?_
          have e9 : M_rates μ p k f g = ((up2 (up2 (up2 μ.1 38 0 0) 1 (ix ((3 * p) + k)) f) 2 (ix ((3 * p) + k)) g), μ.2) := by simp [M_rates, up2_at, (eq_true q_3), (eq_true q_14), (eq_true q_25), (eq_true q_37)]
          exact v_vret X hr (xdec_at tX5_rates_1 2 rfl) (Nat.le_of_ble_eq_true rfl) (Nat.le_of_ble_eq_true rfl) ⟨rfl, rfl, by rw [e9]⟩
        · refine v_if_ne (tgt := 49) X (xdec_at tX5_rates_0 19 rfl) (by decide) (fun h9 => absurd h9 (by decide)) (fun _ => ?_)
          refine v_aload_n X (xdec_at tX5_rates_0 20 rfl) rfl rfl ?_
          refine v_iconst (v := 2) X (xdec_at tX5_rates_0 21 rfl) (by decide) ?_
          refine r_PS X 38 (by decide) rfl (by decide) rfl (xdec_at tX5_rates_0 22 rfl) ?_
          have e9 : M_rates μ p k f g = ((up2 (up2 μ.1 38 0 0) 38 0 2), μ.2) := by simp [M_rates, up2_at, (eq_true q_3), (eq_true q_14), (eq_true q_25), q_37]
          exact v_vret X hr (xdec_at tX5_rates_0 23 rfl) (Nat.le_of_ble_eq_true rfl) (Nat.le_of_ble_eq_true rfl) ⟨rfl, rfl, by rw [e9]⟩
      · refine v_if_eq (tgt := 43) X (xdec_at tX5_rates_0 14 rfl) (by decide) (fun _ => ?_) (fun h9 => absurd h9 (by decide))
        refine v_aload_n X (xdec_at tX5_rates_0 20 rfl) rfl rfl ?_
        refine v_iconst (v := 2) X (xdec_at tX5_rates_0 21 rfl) (by decide) ?_
        refine r_PS X 38 (by decide) rfl (by decide) rfl (xdec_at tX5_rates_0 22 rfl) ?_
        have e9 : M_rates μ p k f g = ((up2 (up2 μ.1 38 0 0) 38 0 2), μ.2) := by simp [M_rates, up2_at, (eq_true q_3), (eq_true q_14), q_25]
        exact v_vret X hr (xdec_at tX5_rates_0 23 rfl) (Nat.le_of_ble_eq_true rfl) (Nat.le_of_ble_eq_true rfl) ⟨rfl, rfl, by rw [e9]⟩
    · refine v_if_eq (tgt := 43) X (xdec_at tX5_rates_0 9 rfl) (by decide) (fun _ => ?_) (fun h9 => absurd h9 (by decide))
      refine v_aload_n X (xdec_at tX5_rates_0 20 rfl) rfl rfl ?_
      refine v_iconst (v := 2) X (xdec_at tX5_rates_0 21 rfl) (by decide) ?_
      refine r_PS X 38 (by decide) rfl (by decide) rfl (xdec_at tX5_rates_0 22 rfl) ?_
      have e9 : M_rates μ p k f g = ((up2 (up2 μ.1 38 0 0) 38 0 2), μ.2) := by simp [M_rates, up2_at, (eq_true q_3), q_14]
      exact v_vret X hr (xdec_at tX5_rates_0 23 rfl) (Nat.le_of_ble_eq_true rfl) (Nat.le_of_ble_eq_true rfl) ⟨rfl, rfl, by rw [e9]⟩
  · refine v_callV X myX5_asks [.int 0] [] (c_asks0 l Z B0 lay μ r) (xw_at tW_17 31 rfl) (100, 0) cM_0 rfl rfl rfl rfl (by rfl) (Nat.le_of_ble_eq_true rfl) (xdec_at tX5_rates_0 4 rfl) ⟨(Nat.le_of_ble_eq_true rfl), (Nat.le_of_ble_eq_true rfl)⟩ ⟨(Nat.le_of_ble_eq_true rfl), (Nat.le_of_ble_eq_true rfl)⟩ ?_
    rintro v9 lay9 C9 ⟨rfl, rfl, rfl⟩
    refine v_if_ne (tgt := 13) X (xdec_at tX5_rates_0 5 rfl) (by decide) (fun h9 => absurd h9 (by decide)) (fun _ => ?_)
    have e9 : M_rates μ p k f g = ((up2 μ.1 38 0 1), μ.2) := by simp [M_rates, up2_at, q_3]
    exact v_vret X hr (xdec_at tX5_rates_0 6 rfl) (Nat.le_of_ble_eq_true rfl) (Nat.le_of_ble_eq_true rfl) ⟨rfl, rfl, by rw [e9]⟩
set_option maxRecDepth 100000 in
set_option maxHeartbeats 4000000 in
theorem c_due (l : Launch) (Z : xZ) (B0 : Nat) (lay : xK → Nat) (μ : Mu) (r : xK → Option xE) (p k c : Int32) (hI : RI μ) : YM l yX5_due cX5_due 5 ((some FieldType.int)) 2 43 0 0 Z B0 [.ref (lay (100, 0)), .int p, .int k, .int c] lay (cM Z lay μ r) (fun v lay' C' => lay = lay' ∧ v = some (.int (M_due μ p k c).1) ∧ C' = cM Z lay (M_due μ p k c).2 r) := by
  refine YM_of myX5_due.2.2 RX5 rfl [some (.ref (lay (100, 0))), some (.int p), some (.int k), some (.int c), none] rfl (Nat.le_of_ble_eq_true rfl) ?_
  intro P1 P2 P3 P4 P5 P6 P7 P8 X hr hnm
  refine v_aload_n X (xdec_at tX5_due_0 0 rfl) rfl rfl ?_
  refine v_aload_n X (xdec_at tX5_due_0 1 rfl) rfl rfl ?_
  refine v_iload_n X (xdec_at tX5_due_0 2 rfl) rfl rfl ?_
  refine v_callV X myX5_isPost [.int p] [.ref (lay (100, 0))] (c_isPost l Z B0 lay μ r p) (xw_at tW_17 38 rfl) (100, 0) cM_0 rfl rfl rfl rfl (by rfl) (Nat.le_of_ble_eq_true rfl) (xdec_at tX5_due_0 3 rfl) ⟨(Nat.le_of_ble_eq_true rfl), (Nat.le_of_ble_eq_true rfl)⟩ ⟨(Nat.le_of_ble_eq_true rfl), (Nat.le_of_ble_eq_true rfl)⟩ ?_
  rintro v9 lay9 C9 ⟨rfl, rfl, ⟨rfl, q_3⟩ | ⟨rfl, q_3⟩⟩
  · refine v_callV X myX5_asks [.int 1] [] (c_asks1 l Z B0 lay μ r) (xw_at tW_17 31 rfl) (100, 0) cM_0 rfl rfl rfl rfl (by rfl) (Nat.le_of_ble_eq_true rfl) (xdec_at tX5_due_0 4 rfl) ⟨(Nat.le_of_ble_eq_true rfl), (Nat.le_of_ble_eq_true rfl)⟩ ⟨(Nat.le_of_ble_eq_true rfl), (Nat.le_of_ble_eq_true rfl)⟩ ?_
    rintro v9 lay9 C9 ⟨rfl, rfl, rfl⟩
    refine v_if_ne (tgt := 14) X (xdec_at tX5_due_0 5 rfl) (by decide) (fun _ => ?_) (fun h9 => absurd h9 (by decide))
    refine v_iload_n X (xdec_at tX5_due_0 8 rfl) rfl rfl ?_
    refine v_callS X myX5_isKind [.int k] [] (c_isKind l Z B0 lay (cM Z lay ((up2 μ.1 38 0 0), μ.2) r) k) (xw_at tW_18 4 rfl) rfl rfl (by rfl) (Nat.le_of_ble_eq_true rfl) (xdec_at tX5_due_0 9 rfl) ⟨(Nat.le_of_ble_eq_true rfl), (Nat.le_of_ble_eq_true rfl)⟩ ⟨(Nat.le_of_ble_eq_true rfl), (Nat.le_of_ble_eq_true rfl)⟩ ?_
    rintro v9 lay9 C9 ⟨rfl, rfl, ⟨rfl, q_15⟩ | ⟨rfl, q_15⟩⟩
    · refine v_if_eq (tgt := 32) X (xdec_at tX5_due_0 10 rfl) (by decide) (fun h9 => absurd h9 (by decide)) (fun _ => ?_)
      refine v_iload_n X (xdec_at tX5_due_0 11 rfl) rfl rfl ?_
      refine v_iconst (v := 0) X (xdec_at tX5_due_0 12 rfl) (by decide) ?_
      refine v_sipush (v := 10000) X (xdec_at tX5_due_0 13 rfl) (by decide) ?_
      refine v_callS X myX5_in [.int c, .int 0, .int 10000] [] (c_in l Z B0 lay (cM Z lay ((up2 μ.1 38 0 0), μ.2) r) c 0 10000) (xw_at tW_18 1 rfl) rfl rfl (by rfl) (Nat.le_of_ble_eq_true rfl) (xdec_at tX5_due_0 14 rfl) ⟨(Nat.le_of_ble_eq_true rfl), (Nat.le_of_ble_eq_true rfl)⟩ ⟨(Nat.le_of_ble_eq_true rfl), (Nat.le_of_ble_eq_true rfl)⟩ ?_
      rintro v9 lay9 C9 ⟨rfl, rfl, ⟨rfl, q_26⟩ | ⟨rfl, q_26⟩⟩
      · refine v_if_ne (tgt := 38) X (xdec_at tX5_due_0 15 rfl) (by decide) (fun _ => ?_) (fun h9 => absurd h9 (by decide))
        refine v_aload_n X (xdec_at tX5_due_0 20 rfl) rfl rfl ?_
        refine r_A X 3 (by decide) rfl rfl (xdec_at tX5_due_0 21 rfl) ?_
        refine v_iconst (v := 3) X (xdec_at tX5_due_0 22 rfl) (by decide) ?_
        refine v_iload_n X (xdec_at tX5_due_0 23 rfl) rfl rfl ?_
        refine v_imul X (xdec_at tX5_due_0 24 rfl) ?_
        refine v_iload_n X (xdec_at tX5_due_0 25 rfl) rfl rfl ?_
        refine v_iadd X (xdec_at tX5_due_0 26 rfl) ?_
        refine r_I (v := (μ.1 3 (ix ((3 * p) + k)))) X 3 (by decide) rfl rfl (hI.PK (by assumption) (by assumption)) (xdec_at tX5_due_0 27 rfl) rfl ?_
        refine v_istore (lv' := [some (.ref (lay (100, 0))), some (.int p), some (.int k), some (.int c), some (.int (μ.1 3 (ix ((3 * p) + k))))]) X (xdec_at tX5_due_0 28 rfl) (by decide) rfl ?_
        refine v_aload_n X (xdec_at tX5_due_0 29 rfl) rfl rfl ?_
        refine r_A X 3 (by decide) rfl rfl (xdec_at tX5_due_0 30 rfl) ?_
        refine v_iconst (v := 3) X (xdec_at tX5_due_0 31 rfl) (by decide) ?_
        refine v_iload_n X (xdec_at tX5_due_0 32 rfl) rfl rfl ?_
        refine v_imul X (xdec_at tX5_due_0 33 rfl) ?_
        refine v_iload_n X (xdec_at tX5_due_0 34 rfl) rfl rfl ?_
        refine v_iadd X (xdec_at tX5_due_0 35 rfl) ?_
        refine v_iload_n X (xdec_at tX5_due_0 36 rfl) rfl rfl ?_
        refine r_PI X 3 (by decide) rfl rfl (hI.PK (by assumption) (by assumption)) (xdec_at tX5_due_0 37 rfl) ?_
        refine v_iload X (xdec_at tX5_due_0 38 rfl) rfl ?_
        have e9 : M_due μ p k c = ((μ.1 3 (ix ((3 * p) + k))), ((up2 (up2 μ.1 38 0 0) 3 (ix ((3 * p) + k)) c), μ.2)) := by simp [M_due, up2_at, (eq_true q_3), (eq_true q_15), (eq_true q_26)]
        exact v_iret X hr (xdec_at tX5_due_0 39 rfl) (Nat.le_of_ble_eq_true rfl) (Nat.le_of_ble_eq_true rfl) ⟨rfl, by rw [e9], by rw [e9]⟩
      · refine v_if_ne (tgt := 38) X (xdec_at tX5_due_0 15 rfl) (by decide) (fun h9 => absurd h9 (by decide)) (fun _ => ?_)
        refine v_aload_n X (xdec_at tX5_due_0 16 rfl) rfl rfl ?_
        refine v_iconst (v := 2) X (xdec_at tX5_due_0 17 rfl) (by decide) ?_
        refine v_callV X myX5_fails [.int 2] [] (c_fails l Z B0 lay ((up2 μ.1 38 0 0), μ.2) r 2) (xw_at tW_18 11 rfl) (100, 0) cM_0 rfl rfl rfl rfl (by rfl) (Nat.le_of_ble_eq_true rfl) (xdec_at tX5_due_0 18 rfl) ⟨(Nat.le_of_ble_eq_true rfl), (Nat.le_of_ble_eq_true rfl)⟩ ⟨(Nat.le_of_ble_eq_true rfl), (Nat.le_of_ble_eq_true rfl)⟩ ?_
        rintro v9 lay9 C9 ⟨rfl, rfl, rfl⟩
        have e9 : M_due μ p k c = (0, ((up2 (up2 μ.1 38 0 0) 38 0 2), μ.2)) := by simp [M_due, up2_at, (eq_true q_3), (eq_true q_15), q_26]
        exact v_iret X hr (xdec_at tX5_due_0 19 rfl) (Nat.le_of_ble_eq_true rfl) (Nat.le_of_ble_eq_true rfl) ⟨rfl, by rw [e9], by rw [e9]⟩
    · refine v_if_eq (tgt := 32) X (xdec_at tX5_due_0 10 rfl) (by decide) (fun _ => ?_) (fun h9 => absurd h9 (by decide))
      refine v_aload_n X (xdec_at tX5_due_0 16 rfl) rfl rfl ?_
      refine v_iconst (v := 2) X (xdec_at tX5_due_0 17 rfl) (by decide) ?_
      refine v_callV X myX5_fails [.int 2] [] (c_fails l Z B0 lay ((up2 μ.1 38 0 0), μ.2) r 2) (xw_at tW_18 11 rfl) (100, 0) cM_0 rfl rfl rfl rfl (by rfl) (Nat.le_of_ble_eq_true rfl) (xdec_at tX5_due_0 18 rfl) ⟨(Nat.le_of_ble_eq_true rfl), (Nat.le_of_ble_eq_true rfl)⟩ ⟨(Nat.le_of_ble_eq_true rfl), (Nat.le_of_ble_eq_true rfl)⟩ ?_
      rintro v9 lay9 C9 ⟨rfl, rfl, rfl⟩
      have e9 : M_due μ p k c = (0, ((up2 (up2 μ.1 38 0 0) 38 0 2), μ.2)) := by simp [M_due, up2_at, (eq_true q_3), q_15]
      exact v_iret X hr (xdec_at tX5_due_0 19 rfl) (Nat.le_of_ble_eq_true rfl) (Nat.le_of_ble_eq_true rfl) ⟨rfl, by rw [e9], by rw [e9]⟩
  · refine v_callV X myX5_asks [.int 0] [] (c_asks0 l Z B0 lay μ r) (xw_at tW_17 31 rfl) (100, 0) cM_0 rfl rfl rfl rfl (by rfl) (Nat.le_of_ble_eq_true rfl) (xdec_at tX5_due_0 4 rfl) ⟨(Nat.le_of_ble_eq_true rfl), (Nat.le_of_ble_eq_true rfl)⟩ ⟨(Nat.le_of_ble_eq_true rfl), (Nat.le_of_ble_eq_true rfl)⟩ ?_
    rintro v9 lay9 C9 ⟨rfl, rfl, rfl⟩
    refine v_if_ne (tgt := 14) X (xdec_at tX5_due_0 5 rfl) (by decide) (fun h9 => absurd h9 (by decide)) (fun _ => ?_)
    refine v_iconst (v := 0) X (xdec_at tX5_due_0 6 rfl) (by decide) ?_
    have e9 : M_due μ p k c = (0, ((up2 μ.1 38 0 1), μ.2)) := by simp [M_due, up2_at, q_3]
    exact v_iret X hr (xdec_at tX5_due_0 7 rfl) (Nat.le_of_ble_eq_true rfl) (Nat.le_of_ble_eq_true rfl) ⟨rfl, by rw [e9], by rw [e9]⟩
set_option maxRecDepth 100000 in
set_option maxHeartbeats 4000000 in
theorem c_charge (l : Launch) (Z : xZ) (B0 : Nat) (lay : xK → Nat) (μ : Mu) (r : xK → Option xE) (p c : Int32) (hI : RI μ) : YM l yX5_charge cX5_charge 4 ((some FieldType.int)) 2 43 0 0 Z B0 [.ref (lay (100, 0)), .int p, .int c] lay (cM Z lay μ r) (fun v lay' C' => lay = lay' ∧ v = some (.int (M_charge μ p c).1) ∧ C' = cM Z lay (M_charge μ p c).2 r) := by
  refine YM_of myX5_charge.2.2 RX5 rfl [some (.ref (lay (100, 0))), some (.int p), some (.int c), none] rfl (Nat.le_of_ble_eq_true rfl) ?_
  intro P1 P2 P3 P4 P5 P6 P7 P8 X hr hnm
  refine v_aload_n X (xdec_at tX5_charge_0 0 rfl) rfl rfl ?_
  refine v_aload_n X (xdec_at tX5_charge_0 1 rfl) rfl rfl ?_
  refine v_iload_n X (xdec_at tX5_charge_0 2 rfl) rfl rfl ?_
  refine v_callV X myX5_isPost [.int p] [.ref (lay (100, 0))] (c_isPost l Z B0 lay μ r p) (xw_at tW_17 38 rfl) (100, 0) cM_0 rfl rfl rfl rfl (by rfl) (Nat.le_of_ble_eq_true rfl) (xdec_at tX5_charge_0 3 rfl) ⟨(Nat.le_of_ble_eq_true rfl), (Nat.le_of_ble_eq_true rfl)⟩ ⟨(Nat.le_of_ble_eq_true rfl), (Nat.le_of_ble_eq_true rfl)⟩ ?_
  rintro v9 lay9 C9 ⟨rfl, rfl, ⟨rfl, q_3⟩ | ⟨rfl, q_3⟩⟩
  · refine v_callV X myX5_asks [.int 1] [] (c_asks1 l Z B0 lay μ r) (xw_at tW_17 31 rfl) (100, 0) cM_0 rfl rfl rfl rfl (by rfl) (Nat.le_of_ble_eq_true rfl) (xdec_at tX5_charge_0 4 rfl) ⟨(Nat.le_of_ble_eq_true rfl), (Nat.le_of_ble_eq_true rfl)⟩ ⟨(Nat.le_of_ble_eq_true rfl), (Nat.le_of_ble_eq_true rfl)⟩ ?_
    rintro v9 lay9 C9 ⟨rfl, rfl, rfl⟩
    refine v_if_ne (tgt := 14) X (xdec_at tX5_charge_0 5 rfl) (by decide) (fun _ => ?_) (fun h9 => absurd h9 (by decide))
    refine v_iload_n X (xdec_at tX5_charge_0 8 rfl) rfl rfl ?_
    refine v_iconst (v := 0) X (xdec_at tX5_charge_0 9 rfl) (by decide) ?_
    refine v_sipush (v := 1000) X (xdec_at tX5_charge_0 10 rfl) (by decide) ?_
    refine v_callS X myX5_in [.int c, .int 0, .int 1000] [] (c_in l Z B0 lay (cM Z lay ((up2 μ.1 38 0 0), μ.2) r) c 0 1000) (xw_at tW_18 1 rfl) rfl rfl (by rfl) (Nat.le_of_ble_eq_true rfl) (xdec_at tX5_charge_0 11 rfl) ⟨(Nat.le_of_ble_eq_true rfl), (Nat.le_of_ble_eq_true rfl)⟩ ⟨(Nat.le_of_ble_eq_true rfl), (Nat.le_of_ble_eq_true rfl)⟩ ?_
    rintro v9 lay9 C9 ⟨rfl, rfl, ⟨rfl, q_19⟩ | ⟨rfl, q_19⟩⟩
    · refine v_if_ne (tgt := 31) X (xdec_at tX5_charge_0 12 rfl) (by decide) (fun _ => ?_) (fun h9 => absurd h9 (by decide))
      refine v_aload_n X (xdec_at tX5_charge_0 17 rfl) rfl rfl ?_
      refine r_A X 4 (by decide) rfl rfl (xdec_at tX5_charge_0 18 rfl) ?_
      refine v_iload_n X (xdec_at tX5_charge_0 19 rfl) rfl rfl ?_
      refine r_I (v := (μ.1 4 (ix p))) X 4 (by decide) rfl rfl (hI.P (by assumption)) (xdec_at tX5_charge_0 20 rfl) rfl ?_
      refine v_istore_n (lv' := [some (.ref (lay (100, 0))), some (.int p), some (.int c), some (.int (μ.1 4 (ix p)))]) X (xdec_at tX5_charge_0 21 rfl) rfl (by decide) rfl ?_
      refine v_aload_n X (xdec_at tX5_charge_0 22 rfl) rfl rfl ?_
      refine r_A X 4 (by decide) rfl rfl (xdec_at tX5_charge_0 23 rfl) ?_
      refine v_iload_n X (xdec_at tX5_charge_0 24 rfl) rfl rfl ?_
      refine v_iload_n X (xdec_at tX5_charge_0 25 rfl) rfl rfl ?_
      refine r_PI X 4 (by decide) rfl rfl (hI.P (by assumption)) (xdec_at tX5_charge_0 26 rfl) ?_
      refine v_iload_n X (xdec_at tX5_charge_0 27 rfl) rfl rfl ?_
      have e9 : M_charge μ p c = ((μ.1 4 (ix p)), ((up2 (up2 μ.1 38 0 0) 4 (ix p) c), μ.2)) := by simp [M_charge, up2_at, (eq_true q_3), (eq_true q_19)]
      exact v_iret X hr (xdec_at tX5_charge_0 28 rfl) (Nat.le_of_ble_eq_true rfl) (Nat.le_of_ble_eq_true rfl) ⟨rfl, by rw [e9], by rw [e9]⟩
    · refine v_if_ne (tgt := 31) X (xdec_at tX5_charge_0 12 rfl) (by decide) (fun h9 => absurd h9 (by decide)) (fun _ => ?_)
      refine v_aload_n X (xdec_at tX5_charge_0 13 rfl) rfl rfl ?_
      refine v_iconst (v := 2) X (xdec_at tX5_charge_0 14 rfl) (by decide) ?_
      refine v_callV X myX5_fails [.int 2] [] (c_fails l Z B0 lay ((up2 μ.1 38 0 0), μ.2) r 2) (xw_at tW_18 11 rfl) (100, 0) cM_0 rfl rfl rfl rfl (by rfl) (Nat.le_of_ble_eq_true rfl) (xdec_at tX5_charge_0 15 rfl) ⟨(Nat.le_of_ble_eq_true rfl), (Nat.le_of_ble_eq_true rfl)⟩ ⟨(Nat.le_of_ble_eq_true rfl), (Nat.le_of_ble_eq_true rfl)⟩ ?_
      rintro v9 lay9 C9 ⟨rfl, rfl, rfl⟩
      have e9 : M_charge μ p c = (0, ((up2 (up2 μ.1 38 0 0) 38 0 2), μ.2)) := by simp [M_charge, up2_at, (eq_true q_3), q_19]
      exact v_iret X hr (xdec_at tX5_charge_0 16 rfl) (Nat.le_of_ble_eq_true rfl) (Nat.le_of_ble_eq_true rfl) ⟨rfl, by rw [e9], by rw [e9]⟩
  · refine v_callV X myX5_asks [.int 0] [] (c_asks0 l Z B0 lay μ r) (xw_at tW_17 31 rfl) (100, 0) cM_0 rfl rfl rfl rfl (by rfl) (Nat.le_of_ble_eq_true rfl) (xdec_at tX5_charge_0 4 rfl) ⟨(Nat.le_of_ble_eq_true rfl), (Nat.le_of_ble_eq_true rfl)⟩ ⟨(Nat.le_of_ble_eq_true rfl), (Nat.le_of_ble_eq_true rfl)⟩ ?_
    rintro v9 lay9 C9 ⟨rfl, rfl, rfl⟩
    refine v_if_ne (tgt := 14) X (xdec_at tX5_charge_0 5 rfl) (by decide) (fun h9 => absurd h9 (by decide)) (fun _ => ?_)
    refine v_iconst (v := 0) X (xdec_at tX5_charge_0 6 rfl) (by decide) ?_
    have e9 : M_charge μ p c = (0, ((up2 μ.1 38 0 1), μ.2)) := by simp [M_charge, up2_at, q_3]
    exact v_iret X hr (xdec_at tX5_charge_0 7 rfl) (Nat.le_of_ble_eq_true rfl) (Nat.le_of_ble_eq_true rfl) ⟨rfl, by rw [e9], by rw [e9]⟩
set_option maxRecDepth 100000 in
set_option maxHeartbeats 4000000 in
theorem c_coupon (l : Launch) (Z : xZ) (B0 : Nat) (lay : xK → Nat) (μ : Mu) (r : xK → Option xE) (p c : Int32) (hI : RI μ) : YM l yX5_coupon cX5_coupon 4 ((some FieldType.int)) 2 43 0 0 Z B0 [.ref (lay (100, 0)), .int p, .int c] lay (cM Z lay μ r) (fun v lay' C' => lay = lay' ∧ v = some (.int (M_coupon μ p c).1) ∧ C' = cM Z lay (M_coupon μ p c).2 r) := by
  refine YM_of myX5_coupon.2.2 RX5 rfl [some (.ref (lay (100, 0))), some (.int p), some (.int c), none] rfl (Nat.le_of_ble_eq_true rfl) ?_
  intro P1 P2 P3 P4 P5 P6 P7 P8 X hr hnm
  refine v_aload_n X (xdec_at tX5_coupon_0 0 rfl) rfl rfl ?_
  refine v_aload_n X (xdec_at tX5_coupon_0 1 rfl) rfl rfl ?_
  refine v_iload_n X (xdec_at tX5_coupon_0 2 rfl) rfl rfl ?_
  refine v_callV X myX5_isPost [.int p] [.ref (lay (100, 0))] (c_isPost l Z B0 lay μ r p) (xw_at tW_17 38 rfl) (100, 0) cM_0 rfl rfl rfl rfl (by rfl) (Nat.le_of_ble_eq_true rfl) (xdec_at tX5_coupon_0 3 rfl) ⟨(Nat.le_of_ble_eq_true rfl), (Nat.le_of_ble_eq_true rfl)⟩ ⟨(Nat.le_of_ble_eq_true rfl), (Nat.le_of_ble_eq_true rfl)⟩ ?_
  rintro v9 lay9 C9 ⟨rfl, rfl, ⟨rfl, q_3⟩ | ⟨rfl, q_3⟩⟩
  · refine v_callV X myX5_asks [.int 1] [] (c_asks1 l Z B0 lay μ r) (xw_at tW_17 31 rfl) (100, 0) cM_0 rfl rfl rfl rfl (by rfl) (Nat.le_of_ble_eq_true rfl) (xdec_at tX5_coupon_0 4 rfl) ⟨(Nat.le_of_ble_eq_true rfl), (Nat.le_of_ble_eq_true rfl)⟩ ⟨(Nat.le_of_ble_eq_true rfl), (Nat.le_of_ble_eq_true rfl)⟩ ?_
    rintro v9 lay9 C9 ⟨rfl, rfl, rfl⟩
    refine v_if_ne (tgt := 14) X (xdec_at tX5_coupon_0 5 rfl) (by decide) (fun _ => ?_) (fun h9 => absurd h9 (by decide))
    refine v_iload_n X (xdec_at tX5_coupon_0 8 rfl) rfl rfl ?_
    refine v_iconst (v := 0) X (xdec_at tX5_coupon_0 9 rfl) (by decide) ?_
    refine v_sipush (v := 10000) X (xdec_at tX5_coupon_0 10 rfl) (by decide) ?_
    refine v_callS X myX5_in [.int c, .int 0, .int 10000] [] (c_in l Z B0 lay (cM Z lay ((up2 μ.1 38 0 0), μ.2) r) c 0 10000) (xw_at tW_18 1 rfl) rfl rfl (by rfl) (Nat.le_of_ble_eq_true rfl) (xdec_at tX5_coupon_0 11 rfl) ⟨(Nat.le_of_ble_eq_true rfl), (Nat.le_of_ble_eq_true rfl)⟩ ⟨(Nat.le_of_ble_eq_true rfl), (Nat.le_of_ble_eq_true rfl)⟩ ?_
    rintro v9 lay9 C9 ⟨rfl, rfl, ⟨rfl, q_19⟩ | ⟨rfl, q_19⟩⟩
    · refine v_if_ne (tgt := 31) X (xdec_at tX5_coupon_0 12 rfl) (by decide) (fun _ => ?_) (fun h9 => absurd h9 (by decide))
      refine v_aload_n X (xdec_at tX5_coupon_0 17 rfl) rfl rfl ?_
      refine r_A X 5 (by decide) rfl rfl (xdec_at tX5_coupon_0 18 rfl) ?_
      refine v_iload_n X (xdec_at tX5_coupon_0 19 rfl) rfl rfl ?_
      refine r_I (v := (μ.1 5 (ix p))) X 5 (by decide) rfl rfl (hI.P (by assumption)) (xdec_at tX5_coupon_0 20 rfl) rfl ?_
      refine v_istore_n (lv' := [some (.ref (lay (100, 0))), some (.int p), some (.int c), some (.int (μ.1 5 (ix p)))]) X (xdec_at tX5_coupon_0 21 rfl) rfl (by decide) rfl ?_
      refine v_aload_n X (xdec_at tX5_coupon_0 22 rfl) rfl rfl ?_
      refine r_A X 5 (by decide) rfl rfl (xdec_at tX5_coupon_0 23 rfl) ?_
      refine v_iload_n X (xdec_at tX5_coupon_0 24 rfl) rfl rfl ?_
      refine v_iload_n X (xdec_at tX5_coupon_0 25 rfl) rfl rfl ?_
      refine r_PI X 5 (by decide) rfl rfl (hI.P (by assumption)) (xdec_at tX5_coupon_0 26 rfl) ?_
      refine v_iload_n X (xdec_at tX5_coupon_0 27 rfl) rfl rfl ?_
      have e9 : M_coupon μ p c = ((μ.1 5 (ix p)), ((up2 (up2 μ.1 38 0 0) 5 (ix p) c), μ.2)) := by simp [M_coupon, up2_at, (eq_true q_3), (eq_true q_19)]
      exact v_iret X hr (xdec_at tX5_coupon_0 28 rfl) (Nat.le_of_ble_eq_true rfl) (Nat.le_of_ble_eq_true rfl) ⟨rfl, by rw [e9], by rw [e9]⟩
    · refine v_if_ne (tgt := 31) X (xdec_at tX5_coupon_0 12 rfl) (by decide) (fun h9 => absurd h9 (by decide)) (fun _ => ?_)
      refine v_aload_n X (xdec_at tX5_coupon_0 13 rfl) rfl rfl ?_
      refine v_iconst (v := 2) X (xdec_at tX5_coupon_0 14 rfl) (by decide) ?_
      refine v_callV X myX5_fails [.int 2] [] (c_fails l Z B0 lay ((up2 μ.1 38 0 0), μ.2) r 2) (xw_at tW_18 11 rfl) (100, 0) cM_0 rfl rfl rfl rfl (by rfl) (Nat.le_of_ble_eq_true rfl) (xdec_at tX5_coupon_0 15 rfl) ⟨(Nat.le_of_ble_eq_true rfl), (Nat.le_of_ble_eq_true rfl)⟩ ⟨(Nat.le_of_ble_eq_true rfl), (Nat.le_of_ble_eq_true rfl)⟩ ?_
      rintro v9 lay9 C9 ⟨rfl, rfl, rfl⟩
      have e9 : M_coupon μ p c = (0, ((up2 (up2 μ.1 38 0 0) 38 0 2), μ.2)) := by simp [M_coupon, up2_at, (eq_true q_3), q_19]
      exact v_iret X hr (xdec_at tX5_coupon_0 16 rfl) (Nat.le_of_ble_eq_true rfl) (Nat.le_of_ble_eq_true rfl) ⟨rfl, by rw [e9], by rw [e9]⟩
  · refine v_callV X myX5_asks [.int 0] [] (c_asks0 l Z B0 lay μ r) (xw_at tW_17 31 rfl) (100, 0) cM_0 rfl rfl rfl rfl (by rfl) (Nat.le_of_ble_eq_true rfl) (xdec_at tX5_coupon_0 4 rfl) ⟨(Nat.le_of_ble_eq_true rfl), (Nat.le_of_ble_eq_true rfl)⟩ ⟨(Nat.le_of_ble_eq_true rfl), (Nat.le_of_ble_eq_true rfl)⟩ ?_
    rintro v9 lay9 C9 ⟨rfl, rfl, rfl⟩
    refine v_if_ne (tgt := 14) X (xdec_at tX5_coupon_0 5 rfl) (by decide) (fun h9 => absurd h9 (by decide)) (fun _ => ?_)
    refine v_iconst (v := 0) X (xdec_at tX5_coupon_0 6 rfl) (by decide) ?_
    have e9 : M_coupon μ p c = (0, ((up2 μ.1 38 0 1), μ.2)) := by simp [M_coupon, up2_at, q_3]
    exact v_iret X hr (xdec_at tX5_coupon_0 7 rfl) (Nat.le_of_ble_eq_true rfl) (Nat.le_of_ble_eq_true rfl) ⟨rfl, by rw [e9], by rw [e9]⟩
set_option maxRecDepth 100000 in
set_option maxHeartbeats 4000000 in
theorem c_strike (l : Launch) (Z : xZ) (B0 : Nat) (lay : xK → Nat) (μ : Mu) (r : xK → Option xE) (p c : Int32) (hI : RI μ) (hc : c = 0 ∨ c = 1) : YM l yX5_strike cX5_strike 4 ((some FieldType.boolean)) 2 43 0 0 Z B0 [.ref (lay (100, 0)), .int p, .int c] lay (cM Z lay μ r) (fun v lay' C' => lay = lay' ∧ v = some (.int (M_strike μ p c).1) ∧ C' = cM Z lay (M_strike μ p c).2 r) := by
  refine YM_of myX5_strike.2.2 RX5 rfl [some (.ref (lay (100, 0))), some (.int p), some (.int c), none] rfl (Nat.le_of_ble_eq_true rfl) ?_
  intro P1 P2 P3 P4 P5 P6 P7 P8 X hr hnm
  refine v_aload_n X (xdec_at tX5_strike_0 0 rfl) rfl rfl ?_
  refine v_aload_n X (xdec_at tX5_strike_0 1 rfl) rfl rfl ?_
  refine v_iload_n X (xdec_at tX5_strike_0 2 rfl) rfl rfl ?_
  refine v_callV X myX5_isPost [.int p] [.ref (lay (100, 0))] (c_isPost l Z B0 lay μ r p) (xw_at tW_17 38 rfl) (100, 0) cM_0 rfl rfl rfl rfl (by rfl) (Nat.le_of_ble_eq_true rfl) (xdec_at tX5_strike_0 3 rfl) ⟨(Nat.le_of_ble_eq_true rfl), (Nat.le_of_ble_eq_true rfl)⟩ ⟨(Nat.le_of_ble_eq_true rfl), (Nat.le_of_ble_eq_true rfl)⟩ ?_
  rintro v9 lay9 C9 ⟨rfl, rfl, ⟨rfl, q_3⟩ | ⟨rfl, q_3⟩⟩
  · refine v_callV X myX5_asks [.int 1] [] (c_asks1 l Z B0 lay μ r) (xw_at tW_17 31 rfl) (100, 0) cM_0 rfl rfl rfl rfl (by rfl) (Nat.le_of_ble_eq_true rfl) (xdec_at tX5_strike_0 4 rfl) ⟨(Nat.le_of_ble_eq_true rfl), (Nat.le_of_ble_eq_true rfl)⟩ ⟨(Nat.le_of_ble_eq_true rfl), (Nat.le_of_ble_eq_true rfl)⟩ ?_
    rintro v9 lay9 C9 ⟨rfl, rfl, rfl⟩
    refine v_if_ne (tgt := 14) X (xdec_at tX5_strike_0 5 rfl) (by decide) (fun _ => ?_) (fun h9 => absurd h9 (by decide))
    refine v_aload_n X (xdec_at tX5_strike_0 8 rfl) rfl rfl ?_
    refine r_A X 6 (by decide) rfl rfl (xdec_at tX5_strike_0 9 rfl) ?_
    refine v_iload_n X (xdec_at tX5_strike_0 10 rfl) rfl rfl ?_
    refine r_Z (v := (μ.1 6 (ix p))) X 6 (by decide) rfl rfl (hI.P (by assumption)) (xdec_at tX5_strike_0 11 rfl) rfl ?_
    refine v_istore_n (lv' := [some (.ref (lay (100, 0))), some (.int p), some (.int c), some (.int (μ.1 6 (ix p)))]) X (xdec_at tX5_strike_0 12 rfl) rfl (by decide) rfl ?_
    refine v_aload_n X (xdec_at tX5_strike_0 13 rfl) rfl rfl ?_
    refine r_A X 6 (by decide) rfl rfl (xdec_at tX5_strike_0 14 rfl) ?_
    refine v_iload_n X (xdec_at tX5_strike_0 15 rfl) rfl rfl ?_
    refine v_iload_n X (xdec_at tX5_strike_0 16 rfl) rfl rfl ?_
    refine r_PZ X 6 (by decide) rfl rfl hc (hI.P (by assumption)) (xdec_at tX5_strike_0 17 rfl) ?_
    refine v_iload_n X (xdec_at tX5_strike_0 18 rfl) rfl rfl ?_
    have e9 : M_strike μ p c = ((μ.1 6 (ix p)), ((up2 (up2 μ.1 38 0 0) 6 (ix p) c), μ.2)) := by simp [M_strike, up2_at, (eq_true q_3)]
    exact v_zret X hr (xdec_at tX5_strike_0 19 rfl) (Nat.le_of_ble_eq_true rfl) (Nat.le_of_ble_eq_true rfl) (hI.B (by decide)) ⟨rfl, by rw [e9], by rw [e9]⟩
  · refine v_callV X myX5_asks [.int 0] [] (c_asks0 l Z B0 lay μ r) (xw_at tW_17 31 rfl) (100, 0) cM_0 rfl rfl rfl rfl (by rfl) (Nat.le_of_ble_eq_true rfl) (xdec_at tX5_strike_0 4 rfl) ⟨(Nat.le_of_ble_eq_true rfl), (Nat.le_of_ble_eq_true rfl)⟩ ⟨(Nat.le_of_ble_eq_true rfl), (Nat.le_of_ble_eq_true rfl)⟩ ?_
    rintro v9 lay9 C9 ⟨rfl, rfl, rfl⟩
    refine v_if_ne (tgt := 14) X (xdec_at tX5_strike_0 5 rfl) (by decide) (fun h9 => absurd h9 (by decide)) (fun _ => ?_)
    refine v_iconst (v := 0) X (xdec_at tX5_strike_0 6 rfl) (by decide) ?_
    have e9 : M_strike μ p c = (0, ((up2 μ.1 38 0 1), μ.2)) := by simp [M_strike, up2_at, q_3]
    exact v_zret X hr (xdec_at tX5_strike_0 7 rfl) (Nat.le_of_ble_eq_true rfl) (Nat.le_of_ble_eq_true rfl) (by rfl) ⟨rfl, by rw [e9], by rw [e9]⟩
set_option maxRecDepth 100000 in
set_option maxHeartbeats 4000000 in
theorem c_leg (l : Launch) (Z : xZ) (B0 : Nat) (lay : xK → Nat) (μ : Mu) (r : xK → Option xE) (a b d : Int32) (hI : RI μ) : YM l yX5_leg cX5_leg 4 ((some FieldType.int)) 2 43 0 0 Z B0 [.ref (lay (100, 0)), .int a, .int b, .int d] lay (cM Z lay μ r) (fun v lay' C' => lay = lay' ∧ v = some (.int (M_leg μ a b d).1) ∧ C' = cM Z lay (M_leg μ a b d).2 r) := by
  refine YM_of myX5_leg.2.2 RX5 rfl [some (.ref (lay (100, 0))), some (.int a), some (.int b), some (.int d)] rfl (Nat.le_of_ble_eq_true rfl) ?_
  intro P1 P2 P3 P4 P5 P6 P7 P8 X hr hnm
  refine v_aload_n X (xdec_at tX5_leg_0 0 rfl) rfl rfl ?_
  refine v_aload_n X (xdec_at tX5_leg_0 1 rfl) rfl rfl ?_
  refine v_iload_n X (xdec_at tX5_leg_0 2 rfl) rfl rfl ?_
  refine v_callV X myX5_isPost [.int a] [.ref (lay (100, 0))] (c_isPost l Z B0 lay μ r a) (xw_at tW_17 38 rfl) (100, 0) cM_0 rfl rfl rfl rfl (by rfl) (Nat.le_of_ble_eq_true rfl) (xdec_at tX5_leg_0 3 rfl) ⟨(Nat.le_of_ble_eq_true rfl), (Nat.le_of_ble_eq_true rfl)⟩ ⟨(Nat.le_of_ble_eq_true rfl), (Nat.le_of_ble_eq_true rfl)⟩ ?_
  rintro v9 lay9 C9 ⟨rfl, rfl, ⟨rfl, q_3⟩ | ⟨rfl, q_3⟩⟩
  · refine v_if_eq (tgt := 21) X (xdec_at tX5_leg_0 4 rfl) (by decide) (fun h9 => absurd h9 (by decide)) (fun _ => ?_)
    refine v_aload_n X (xdec_at tX5_leg_0 5 rfl) rfl rfl ?_
    refine v_iload_n X (xdec_at tX5_leg_0 6 rfl) rfl rfl ?_
    refine v_callV X myX5_isPost [.int b] [.ref (lay (100, 0))] (c_isPost l Z B0 lay μ r b) (xw_at tW_17 38 rfl) (100, 0) cM_0 rfl rfl rfl rfl (by rfl) (Nat.le_of_ble_eq_true rfl) (xdec_at tX5_leg_0 7 rfl) ⟨(Nat.le_of_ble_eq_true rfl), (Nat.le_of_ble_eq_true rfl)⟩ ⟨(Nat.le_of_ble_eq_true rfl), (Nat.le_of_ble_eq_true rfl)⟩ ?_
    rintro v9 lay9 C9 ⟨rfl, rfl, ⟨rfl, q_11⟩ | ⟨rfl, q_11⟩⟩
    · refine v_if_eq (tgt := 21) X (xdec_at tX5_leg_0 8 rfl) (by decide) (fun h9 => absurd h9 (by decide)) (fun _ => ?_)
      refine v_iconst (v := 1) X (xdec_at tX5_leg_0 9 rfl) (by decide) ?_
      refine v_goto (tgt := 22) X (xdec_at tX5_leg_0 10 rfl) (by decide) ?_
      refine v_callV X myX5_asks [.int 1] [] (c_asks1 l Z B0 lay μ r) (xw_at tW_17 31 rfl) (100, 0) cM_0 rfl rfl rfl rfl (by rfl) (Nat.le_of_ble_eq_true rfl) (xdec_at tX5_leg_0 12 rfl) ⟨(Nat.le_of_ble_eq_true rfl), (Nat.le_of_ble_eq_true rfl)⟩ ⟨(Nat.le_of_ble_eq_true rfl), (Nat.le_of_ble_eq_true rfl)⟩ ?_
      rintro v9 lay9 C9 ⟨rfl, rfl, rfl⟩
      refine v_if_ne (tgt := 30) X (xdec_at tX5_leg_0 13 rfl) (by decide) (fun _ => ?_) (fun h9 => absurd h9 (by decide))
      refine v_iload_n X (xdec_at tX5_leg_0 16 rfl) rfl rfl ?_
      refine v_iload_n X (xdec_at tX5_leg_0 17 rfl) rfl rfl ?_
      refine v_icmp_eq (tgt := 45) X (xdec_at tX5_leg_0 18 rfl) (by decide) (fun c_32 => ?_) (fun c_32 => ?_)
      · refine v_aload_n X (xdec_at tX5_leg_0 24 rfl) rfl rfl ?_
        refine v_iconst (v := 2) X (xdec_at tX5_leg_0 25 rfl) (by decide) ?_
        refine v_callV X myX5_fails [.int 2] [] (c_fails l Z B0 lay ((up2 μ.1 38 0 0), μ.2) r 2) (xw_at tW_18 11 rfl) (100, 0) cM_0 rfl rfl rfl rfl (by rfl) (Nat.le_of_ble_eq_true rfl) (xdec_at tX5_leg_0 26 rfl) ⟨(Nat.le_of_ble_eq_true rfl), (Nat.le_of_ble_eq_true rfl)⟩ ⟨(Nat.le_of_ble_eq_true rfl), (Nat.le_of_ble_eq_true rfl)⟩ ?_
        rintro v9 lay9 C9 ⟨rfl, rfl, rfl⟩
        have e9 : M_leg μ a b d = (0, ((up2 (up2 μ.1 38 0 0) 38 0 2), μ.2)) := by simp [M_leg, up2_at, (eq_true q_3), (eq_true q_11), (eq_true c_32)]
        exact v_iret X hr (xdec_at tX5_leg_0 27 rfl) (Nat.le_of_ble_eq_true rfl) (Nat.le_of_ble_eq_true rfl) ⟨rfl, by rw [e9], by rw [e9]⟩
      · refine v_iload_n X (xdec_at tX5_leg_0 19 rfl) rfl rfl ?_
        refine v_iconst (v := 1) X (xdec_at tX5_leg_0 20 rfl) (by decide) ?_
        refine v_bipush (v := 100) X (xdec_at tX5_leg_0 21 rfl) (by decide) ?_
        refine v_callS X myX5_in [.int d, .int 1, .int 100] [] (c_in l Z B0 lay (cM Z lay ((up2 μ.1 38 0 0), μ.2) r) d 1 100) (xw_at tW_18 1 rfl) rfl rfl (by rfl) (Nat.le_of_ble_eq_true rfl) (xdec_at tX5_leg_0 22 rfl) ⟨(Nat.le_of_ble_eq_true rfl), (Nat.le_of_ble_eq_true rfl)⟩ ⟨(Nat.le_of_ble_eq_true rfl), (Nat.le_of_ble_eq_true rfl)⟩ ?_
        rintro v9 lay9 C9 ⟨rfl, rfl, ⟨rfl, q_39⟩ | ⟨rfl, q_39⟩⟩
        · refine v_if_ne (tgt := 51) X (xdec_at tX5_leg_0 23 rfl) (by decide) (fun _ => ?_) (fun h9 => absurd h9 (by decide))
          refine v_aload_n X (xdec_at tX5_leg_0 28 rfl) rfl rfl ?_
          refine r_S (v := (μ.1 10 0)) X 10 (by decide) rfl rfl (xdec_at tX5_leg_0 29 rfl) rfl ?_
          refine v_bipush (v := 20) X (xdec_at tX5_leg_0 30 rfl) (by decide) ?_
          refine v_icmp_ne (tgt := 66) X (xdec_at tX5_leg_0 31 rfl) (by decide) (fun c_57 => ?_) (fun c_57 => ?_)
          · refine v_aload_n X (xdec_at tX5_leg_0 36 rfl) rfl rfl ?_
            refine r_A X 11 (by decide) rfl rfl (xdec_at tX5_leg_0 37 rfl) ?_
            refine v_aload_n X (xdec_at tX5_leg_0 38 rfl) rfl rfl ?_
            refine r_S (v := (μ.1 10 0)) X 10 (by decide) rfl rfl (xdec_at tX5_leg_0 39 rfl) rfl ?_
            refine v_iload_n X (xdec_at tX5_leg_1 0 rfl) rfl rfl ?_
            refine r_PI X 11 (by decide) rfl rfl (hI.l (by assumption)) (xdec_at tX5_leg_1 1 rfl) ?_
            refine v_aload_n X (xdec_at tX5_leg_1 2 rfl) rfl rfl ?_
            refine r_A X 12 (by decide) rfl rfl (xdec_at tX5_leg_1 3 rfl) ?_
            refine v_aload_n X (xdec_at tX5_leg_1 4 rfl) rfl rfl ?_
            refine r_S (v := (μ.1 10 0)) X 10 (by decide) rfl rfl (xdec_at tX5_leg_1 5 rfl) rfl ?_
            refine v_iload_n X (xdec_at tX5_leg_1 6 rfl) rfl rfl ?_
            refine r_PI X 12 (by decide) rfl rfl (hI.l (by assumption)) (xdec_at tX5_leg_1 7 rfl) ?_
            refine v_aload_n X (xdec_at tX5_leg_1 8 rfl) rfl rfl ?_
            refine r_A X 13 (by decide) rfl rfl (xdec_at tX5_leg_1 9 rfl) ?_
            refine v_aload_n X (xdec_at tX5_leg_1 10 rfl) rfl rfl ?_
            refine r_S (v := (μ.1 10 0)) X 10 (by decide) rfl rfl (xdec_at tX5_leg_1 11 rfl) rfl ?_
            refine v_iload_n X (xdec_at tX5_leg_1 12 rfl) rfl rfl ?_
            refine r_PI X 13 (by decide) rfl rfl (hI.l (by assumption)) (xdec_at tX5_leg_1 13 rfl) ?_
            refine v_aload_n X (xdec_at tX5_leg_1 14 rfl) rfl rfl ?_
            refine v_dup X (xdec_at tX5_leg_1 15 rfl) rfl ?_
            refine r_S (v := (μ.1 10 0)) X 10 (by decide) rfl rfl (xdec_at tX5_leg_1 16 rfl) rfl ?_
            refine v_iconst (v := 1) X (xdec_at tX5_leg_1 17 rfl) (by decide) ?_
            refine v_iadd X (xdec_at tX5_leg_1 18 rfl) ?_
            refine r_PS X 10 (by decide) rfl (by decide) rfl (xdec_at tX5_leg_1 19 rfl) ?_
            refine v_aload_n X (xdec_at tX5_leg_1 20 rfl) rfl rfl ?_
            refine r_S (v := ((μ.1 10 0) + 1)) X 10 (by decide) rfl rfl (xdec_at tX5_leg_1 21 rfl) rfl ?_
            refine v_iconst (v := 1) X (xdec_at tX5_leg_1 22 rfl) (by decide) ?_
            refine v_isub X (xdec_at tX5_leg_1 23 rfl) ?_
            have e9 : M_leg μ a b d = ((((μ.1 10 0) + 1) - 1), ((up2 (up2 (up2 (up2 (up2 μ.1 38 0 0) 11 (ix (μ.1 10 0)) a) 12 (ix (μ.1 10 0)) b) 13 (ix (μ.1 10 0)) d) 10 0 ((μ.1 10 0) + 1)), μ.2)) := by simp [M_leg, up2_at, (eq_true q_3), (eq_true q_11), c_32, (eq_true q_39), c_57]
            exact v_iret X hr (xdec_at tX5_leg_1 24 rfl) (Nat.le_of_ble_eq_true rfl) (Nat.le_of_ble_eq_true rfl) ⟨rfl, by rw [e9], by rw [e9]⟩
          · refine v_aload_n X (xdec_at tX5_leg_0 32 rfl) rfl rfl ?_
            refine v_iconst (v := 3) X (xdec_at tX5_leg_0 33 rfl) (by decide) ?_
            refine v_callV X myX5_fails [.int 3] [] (c_fails l Z B0 lay ((up2 μ.1 38 0 0), μ.2) r 3) (xw_at tW_18 11 rfl) (100, 0) cM_0 rfl rfl rfl rfl (by rfl) (Nat.le_of_ble_eq_true rfl) (xdec_at tX5_leg_0 34 rfl) ⟨(Nat.le_of_ble_eq_true rfl), (Nat.le_of_ble_eq_true rfl)⟩ ⟨(Nat.le_of_ble_eq_true rfl), (Nat.le_of_ble_eq_true rfl)⟩ ?_
            rintro v9 lay9 C9 ⟨rfl, rfl, rfl⟩
            have e9 : M_leg μ a b d = (0, ((up2 (up2 μ.1 38 0 0) 38 0 3), μ.2)) := by simp [M_leg, up2_at, (eq_true q_3), (eq_true q_11), c_32, (eq_true q_39), (eq_true c_57)]
            exact v_iret X hr (xdec_at tX5_leg_0 35 rfl) (Nat.le_of_ble_eq_true rfl) (Nat.le_of_ble_eq_true rfl) ⟨rfl, by rw [e9], by rw [e9]⟩
        · refine v_if_ne (tgt := 51) X (xdec_at tX5_leg_0 23 rfl) (by decide) (fun h9 => absurd h9 (by decide)) (fun _ => ?_)
          refine v_aload_n X (xdec_at tX5_leg_0 24 rfl) rfl rfl ?_
          refine v_iconst (v := 2) X (xdec_at tX5_leg_0 25 rfl) (by decide) ?_
          refine v_callV X myX5_fails [.int 2] [] (c_fails l Z B0 lay ((up2 μ.1 38 0 0), μ.2) r 2) (xw_at tW_18 11 rfl) (100, 0) cM_0 rfl rfl rfl rfl (by rfl) (Nat.le_of_ble_eq_true rfl) (xdec_at tX5_leg_0 26 rfl) ⟨(Nat.le_of_ble_eq_true rfl), (Nat.le_of_ble_eq_true rfl)⟩ ⟨(Nat.le_of_ble_eq_true rfl), (Nat.le_of_ble_eq_true rfl)⟩ ?_
          rintro v9 lay9 C9 ⟨rfl, rfl, rfl⟩
          have e9 : M_leg μ a b d = (0, ((up2 (up2 μ.1 38 0 0) 38 0 2), μ.2)) := by simp [M_leg, up2_at, (eq_true q_3), (eq_true q_11), c_32, q_39]
          exact v_iret X hr (xdec_at tX5_leg_0 27 rfl) (Nat.le_of_ble_eq_true rfl) (Nat.le_of_ble_eq_true rfl) ⟨rfl, by rw [e9], by rw [e9]⟩
    · refine v_if_eq (tgt := 21) X (xdec_at tX5_leg_0 8 rfl) (by decide) (fun _ => ?_) (fun h9 => absurd h9 (by decide))
      refine v_iconst (v := 0) X (xdec_at tX5_leg_0 11 rfl) (by decide) ?_
      refine v_callV X myX5_asks [.int 0] [] (c_asks0 l Z B0 lay μ r) (xw_at tW_17 31 rfl) (100, 0) cM_0 rfl rfl rfl rfl (by rfl) (Nat.le_of_ble_eq_true rfl) (xdec_at tX5_leg_0 12 rfl) ⟨(Nat.le_of_ble_eq_true rfl), (Nat.le_of_ble_eq_true rfl)⟩ ⟨(Nat.le_of_ble_eq_true rfl), (Nat.le_of_ble_eq_true rfl)⟩ ?_
      rintro v9 lay9 C9 ⟨rfl, rfl, rfl⟩
      refine v_if_ne (tgt := 30) X (xdec_at tX5_leg_0 13 rfl) (by decide) (fun h9 => absurd h9 (by decide)) (fun _ => ?_)
      refine v_iconst (v := 0) X (xdec_at tX5_leg_0 14 rfl) (by decide) ?_
      have e9 : M_leg μ a b d = (0, ((up2 μ.1 38 0 1), μ.2)) := by simp [M_leg, up2_at, (eq_true q_3), q_11]
      exact v_iret X hr (xdec_at tX5_leg_0 15 rfl) (Nat.le_of_ble_eq_true rfl) (Nat.le_of_ble_eq_true rfl) ⟨rfl, by rw [e9], by rw [e9]⟩
  · refine v_if_eq (tgt := 21) X (xdec_at tX5_leg_0 4 rfl) (by decide) (fun _ => ?_) (fun h9 => absurd h9 (by decide))
    refine v_iconst (v := 0) X (xdec_at tX5_leg_0 11 rfl) (by decide) ?_
    refine v_callV X myX5_asks [.int 0] [] (c_asks0 l Z B0 lay μ r) (xw_at tW_17 31 rfl) (100, 0) cM_0 rfl rfl rfl rfl (by rfl) (Nat.le_of_ble_eq_true rfl) (xdec_at tX5_leg_0 12 rfl) ⟨(Nat.le_of_ble_eq_true rfl), (Nat.le_of_ble_eq_true rfl)⟩ ⟨(Nat.le_of_ble_eq_true rfl), (Nat.le_of_ble_eq_true rfl)⟩ ?_
    rintro v9 lay9 C9 ⟨rfl, rfl, rfl⟩
    refine v_if_ne (tgt := 30) X (xdec_at tX5_leg_0 13 rfl) (by decide) (fun h9 => absurd h9 (by decide)) (fun _ => ?_)
    refine v_iconst (v := 0) X (xdec_at tX5_leg_0 14 rfl) (by decide) ?_
    have e9 : M_leg μ a b d = (0, ((up2 μ.1 38 0 1), μ.2)) := by simp [M_leg, up2_at, q_3]
    exact v_iret X hr (xdec_at tX5_leg_0 15 rfl) (Nat.le_of_ble_eq_true rfl) (Nat.le_of_ble_eq_true rfl) ⟨rfl, by rw [e9], by rw [e9]⟩
set_option maxRecDepth 100000 in
set_option maxHeartbeats 4000000 in
theorem c_close (l : Launch) (Z : xZ) (B0 : Nat) (lay : xK → Nat) (μ : Mu) (r : xK → Option xE) (g c : Int32) (hI : RI μ) (hc : c = 0 ∨ c = 1) : YM l yX5_close cX5_close 4 ((some FieldType.boolean)) 1 22 0 0 Z B0 [.ref (lay (100, 0)), .int g, .int c] lay (cM Z lay μ r) (fun v lay' C' => lay = lay' ∧ v = some (.int (M_close μ g c).1) ∧ C' = cM Z lay (M_close μ g c).2 r) := by
  refine YM_of myX5_close.2.2 RX5 rfl [some (.ref (lay (100, 0))), some (.int g), some (.int c), none] rfl (Nat.le_of_ble_eq_true rfl) ?_
  intro P1 P2 P3 P4 P5 P6 P7 P8 X hr hnm
  refine v_aload_n X (xdec_at tX5_close_0 0 rfl) rfl rfl ?_
  refine v_iload_n X (xdec_at tX5_close_0 1 rfl) rfl rfl ?_
  refine v_iconst (v := 0) X (xdec_at tX5_close_0 2 rfl) (by decide) ?_
  refine v_aload_n X (xdec_at tX5_close_0 3 rfl) rfl rfl ?_
  refine r_S (v := (μ.1 10 0)) X 10 (by decide) rfl rfl (xdec_at tX5_close_0 4 rfl) rfl ?_
  refine v_iconst (v := 1) X (xdec_at tX5_close_0 5 rfl) (by decide) ?_
  refine v_isub X (xdec_at tX5_close_0 6 rfl) ?_
  refine v_callS X myX5_in [.int g, .int 0, .int ((μ.1 10 0) - 1)] [.ref (lay (100, 0))] (c_in l Z B0 lay (cM Z lay μ r) g 0 ((μ.1 10 0) - 1)) (xw_at tW_18 1 rfl) rfl rfl (by rfl) (Nat.le_of_ble_eq_true rfl) (xdec_at tX5_close_0 7 rfl) ⟨(Nat.le_of_ble_eq_true rfl), (Nat.le_of_ble_eq_true rfl)⟩ ⟨(Nat.le_of_ble_eq_true rfl), (Nat.le_of_ble_eq_true rfl)⟩ ?_
  rintro v9 lay9 C9 ⟨rfl, rfl, ⟨rfl, q_9⟩ | ⟨rfl, q_9⟩⟩
  · refine v_callV X myX5_asks [.int 1] [] (c_asks1 l Z B0 lay μ r) (xw_at tW_17 31 rfl) (100, 0) cM_0 rfl rfl rfl rfl (by rfl) (Nat.le_of_ble_eq_true rfl) (xdec_at tX5_close_0 8 rfl) ⟨(Nat.le_of_ble_eq_true rfl), (Nat.le_of_ble_eq_true rfl)⟩ ⟨(Nat.le_of_ble_eq_true rfl), (Nat.le_of_ble_eq_true rfl)⟩ ?_
    rintro v9 lay9 C9 ⟨rfl, rfl, rfl⟩
    refine v_if_ne (tgt := 20) X (xdec_at tX5_close_0 9 rfl) (by decide) (fun _ => ?_) (fun h9 => absurd h9 (by decide))
    refine v_aload_n X (xdec_at tX5_close_0 12 rfl) rfl rfl ?_
    refine r_A X 14 (by decide) rfl rfl (xdec_at tX5_close_0 13 rfl) ?_
    refine v_iload_n X (xdec_at tX5_close_0 14 rfl) rfl rfl ?_
    refine r_Z (v := (μ.1 14 (ix g))) X 14 (by decide) rfl rfl (hI.L (by assumption)) (xdec_at tX5_close_0 15 rfl) rfl ?_
    refine v_istore_n (lv' := [some (.ref (lay (100, 0))), some (.int g), some (.int c), some (.int (μ.1 14 (ix g)))]) X (xdec_at tX5_close_0 16 rfl) rfl (by decide) rfl ?_
    refine v_aload_n X (xdec_at tX5_close_0 17 rfl) rfl rfl ?_
    refine r_A X 14 (by decide) rfl rfl (xdec_at tX5_close_0 18 rfl) ?_
    refine v_iload_n X (xdec_at tX5_close_0 19 rfl) rfl rfl ?_
    refine v_iload_n X (xdec_at tX5_close_0 20 rfl) rfl rfl ?_
    refine r_PZ X 14 (by decide) rfl rfl hc (hI.L (by assumption)) (xdec_at tX5_close_0 21 rfl) ?_
    refine v_iload_n X (xdec_at tX5_close_0 22 rfl) rfl rfl ?_
    have e9 : M_close μ g c = ((μ.1 14 (ix g)), ((up2 (up2 μ.1 38 0 0) 14 (ix g) c), μ.2)) := by simp [M_close, up2_at, (eq_true q_9)]
    exact v_zret X hr (xdec_at tX5_close_0 23 rfl) (Nat.le_of_ble_eq_true rfl) (Nat.le_of_ble_eq_true rfl) (hI.B (by decide)) ⟨rfl, by rw [e9], by rw [e9]⟩
  · refine v_callV X myX5_asks [.int 0] [] (c_asks0 l Z B0 lay μ r) (xw_at tW_17 31 rfl) (100, 0) cM_0 rfl rfl rfl rfl (by rfl) (Nat.le_of_ble_eq_true rfl) (xdec_at tX5_close_0 8 rfl) ⟨(Nat.le_of_ble_eq_true rfl), (Nat.le_of_ble_eq_true rfl)⟩ ⟨(Nat.le_of_ble_eq_true rfl), (Nat.le_of_ble_eq_true rfl)⟩ ?_
    rintro v9 lay9 C9 ⟨rfl, rfl, rfl⟩
    refine v_if_ne (tgt := 20) X (xdec_at tX5_close_0 9 rfl) (by decide) (fun h9 => absurd h9 (by decide)) (fun _ => ?_)
    refine v_iconst (v := 0) X (xdec_at tX5_close_0 10 rfl) (by decide) ?_
    have e9 : M_close μ g c = (0, ((up2 μ.1 38 0 1), μ.2)) := by simp [M_close, up2_at, q_9]
    exact v_zret X hr (xdec_at tX5_close_0 11 rfl) (Nat.le_of_ble_eq_true rfl) (Nat.le_of_ble_eq_true rfl) (by rfl) ⟨rfl, by rw [e9], by rw [e9]⟩
set_option maxRecDepth 100000 in
set_option maxHeartbeats 4000000 in
theorem c_account (l : Launch) (Z : xZ) (B0 : Nat) (lay : xK → Nat) (μ : Mu) (r : xK → Option xE) (p : Int32) (hI : RI μ) : YM l yX5_account cX5_account 2 ((some FieldType.long)) 2 43 0 0 Z B0 [.ref (lay (100, 0)), .int p] lay (cM Z lay μ r) (fun v lay' C' => lay = lay' ∧ v = some (.long (M_account μ p).1) ∧ C' = cM Z lay (M_account μ p).2 r) := by
  refine YM_of myX5_account.2.2 RX5 rfl [some (.ref (lay (100, 0))), some (.int p)] rfl (Nat.le_of_ble_eq_true rfl) ?_
  intro P1 P2 P3 P4 P5 P6 P7 P8 X hr hnm
  refine v_aload_n X (xdec_at tX5_account_0 0 rfl) rfl rfl ?_
  refine v_aload_n X (xdec_at tX5_account_0 1 rfl) rfl rfl ?_
  refine v_iload_n X (xdec_at tX5_account_0 2 rfl) rfl rfl ?_
  refine v_callV X myX5_isPost [.int p] [.ref (lay (100, 0))] (c_isPost l Z B0 lay μ r p) (xw_at tW_17 38 rfl) (100, 0) cM_0 rfl rfl rfl rfl (by rfl) (Nat.le_of_ble_eq_true rfl) (xdec_at tX5_account_0 3 rfl) ⟨(Nat.le_of_ble_eq_true rfl), (Nat.le_of_ble_eq_true rfl)⟩ ⟨(Nat.le_of_ble_eq_true rfl), (Nat.le_of_ble_eq_true rfl)⟩ ?_
  rintro v9 lay9 C9 ⟨rfl, rfl, ⟨rfl, q_3⟩ | ⟨rfl, q_3⟩⟩
  · refine v_callV X myX5_asks [.int 1] [] (c_asks1 l Z B0 lay μ r) (xw_at tW_17 31 rfl) (100, 0) cM_0 rfl rfl rfl rfl (by rfl) (Nat.le_of_ble_eq_true rfl) (xdec_at tX5_account_0 4 rfl) ⟨(Nat.le_of_ble_eq_true rfl), (Nat.le_of_ble_eq_true rfl)⟩ ⟨(Nat.le_of_ble_eq_true rfl), (Nat.le_of_ble_eq_true rfl)⟩ ?_
    rintro v9 lay9 C9 ⟨rfl, rfl, rfl⟩
    refine v_if_eq (tgt := 21) X (xdec_at tX5_account_0 5 rfl) (by decide) (fun h9 => absurd h9 (by decide)) (fun _ => ?_)
    refine v_aload_n X (xdec_at tX5_account_0 6 rfl) rfl rfl ?_
    refine r_A X 7 (by decide) rfl rfl (xdec_at tX5_account_0 7 rfl) ?_
    refine v_iload_n X (xdec_at tX5_account_0 8 rfl) rfl rfl ?_
    refine r_L (v := (μ.2 7 (ix p))) X 7 (by decide) rfl rfl (hI.P (by assumption)) (xdec_at tX5_account_0 9 rfl) rfl ?_
    refine v_goto (tgt := 22) X (xdec_at tX5_account_0 10 rfl) (by decide) ?_
    have e9 : M_account μ p = ((μ.2 7 (ix p)), ((up2 μ.1 38 0 0), μ.2)) := by simp [M_account, up2_at, (eq_true q_3)]
    exact v_lret X hr (xdec_at tX5_account_0 12 rfl) (Nat.le_of_ble_eq_true rfl) (Nat.le_of_ble_eq_true rfl) ⟨rfl, by rw [e9], by rw [e9]⟩
  · refine v_callV X myX5_asks [.int 0] [] (c_asks0 l Z B0 lay μ r) (xw_at tW_17 31 rfl) (100, 0) cM_0 rfl rfl rfl rfl (by rfl) (Nat.le_of_ble_eq_true rfl) (xdec_at tX5_account_0 4 rfl) ⟨(Nat.le_of_ble_eq_true rfl), (Nat.le_of_ble_eq_true rfl)⟩ ⟨(Nat.le_of_ble_eq_true rfl), (Nat.le_of_ble_eq_true rfl)⟩ ?_
    rintro v9 lay9 C9 ⟨rfl, rfl, rfl⟩
    refine v_if_eq (tgt := 21) X (xdec_at tX5_account_0 5 rfl) (by decide) (fun _ => ?_) (fun h9 => absurd h9 (by decide))
    refine v_lconst (v := 0) X (xdec_at tX5_account_0 11 rfl) (by decide) ?_
    have e9 : M_account μ p = (0, ((up2 μ.1 38 0 1), μ.2)) := by simp [M_account, up2_at, q_3]
    exact v_lret X hr (xdec_at tX5_account_0 12 rfl) (Nat.le_of_ble_eq_true rfl) (Nat.le_of_ble_eq_true rfl) ⟨rfl, by rw [e9], by rw [e9]⟩
set_option maxRecDepth 100000 in
set_option maxHeartbeats 4000000 in
theorem c_till (l : Launch) (Z : xZ) (B0 : Nat) (lay : xK → Nat) (μ : Mu) (r : xK → Option xE) (p : Int32) (hI : RI μ) : YM l yX5_till cX5_till 2 ((some FieldType.long)) 2 43 0 0 Z B0 [.ref (lay (100, 0)), .int p] lay (cM Z lay μ r) (fun v lay' C' => lay = lay' ∧ v = some (.long (M_till μ p).1) ∧ C' = cM Z lay (M_till μ p).2 r) := by
  refine YM_of myX5_till.2.2 RX5 rfl [some (.ref (lay (100, 0))), some (.int p)] rfl (Nat.le_of_ble_eq_true rfl) ?_
  intro P1 P2 P3 P4 P5 P6 P7 P8 X hr hnm
  refine v_aload_n X (xdec_at tX5_till_0 0 rfl) rfl rfl ?_
  refine v_aload_n X (xdec_at tX5_till_0 1 rfl) rfl rfl ?_
  refine v_iload_n X (xdec_at tX5_till_0 2 rfl) rfl rfl ?_
  refine v_callV X myX5_isPost [.int p] [.ref (lay (100, 0))] (c_isPost l Z B0 lay μ r p) (xw_at tW_17 38 rfl) (100, 0) cM_0 rfl rfl rfl rfl (by rfl) (Nat.le_of_ble_eq_true rfl) (xdec_at tX5_till_0 3 rfl) ⟨(Nat.le_of_ble_eq_true rfl), (Nat.le_of_ble_eq_true rfl)⟩ ⟨(Nat.le_of_ble_eq_true rfl), (Nat.le_of_ble_eq_true rfl)⟩ ?_
  rintro v9 lay9 C9 ⟨rfl, rfl, ⟨rfl, q_3⟩ | ⟨rfl, q_3⟩⟩
  · refine v_callV X myX5_asks [.int 1] [] (c_asks1 l Z B0 lay μ r) (xw_at tW_17 31 rfl) (100, 0) cM_0 rfl rfl rfl rfl (by rfl) (Nat.le_of_ble_eq_true rfl) (xdec_at tX5_till_0 4 rfl) ⟨(Nat.le_of_ble_eq_true rfl), (Nat.le_of_ble_eq_true rfl)⟩ ⟨(Nat.le_of_ble_eq_true rfl), (Nat.le_of_ble_eq_true rfl)⟩ ?_
    rintro v9 lay9 C9 ⟨rfl, rfl, rfl⟩
    refine v_if_eq (tgt := 21) X (xdec_at tX5_till_0 5 rfl) (by decide) (fun h9 => absurd h9 (by decide)) (fun _ => ?_)
    refine v_aload_n X (xdec_at tX5_till_0 6 rfl) rfl rfl ?_
    refine r_A X 8 (by decide) rfl rfl (xdec_at tX5_till_0 7 rfl) ?_
    refine v_iload_n X (xdec_at tX5_till_0 8 rfl) rfl rfl ?_
    refine r_L (v := (μ.2 8 (ix p))) X 8 (by decide) rfl rfl (hI.P (by assumption)) (xdec_at tX5_till_0 9 rfl) rfl ?_
    refine v_goto (tgt := 22) X (xdec_at tX5_till_0 10 rfl) (by decide) ?_
    have e9 : M_till μ p = ((μ.2 8 (ix p)), ((up2 μ.1 38 0 0), μ.2)) := by simp [M_till, up2_at, (eq_true q_3)]
    exact v_lret X hr (xdec_at tX5_till_0 12 rfl) (Nat.le_of_ble_eq_true rfl) (Nat.le_of_ble_eq_true rfl) ⟨rfl, by rw [e9], by rw [e9]⟩
  · refine v_callV X myX5_asks [.int 0] [] (c_asks0 l Z B0 lay μ r) (xw_at tW_17 31 rfl) (100, 0) cM_0 rfl rfl rfl rfl (by rfl) (Nat.le_of_ble_eq_true rfl) (xdec_at tX5_till_0 4 rfl) ⟨(Nat.le_of_ble_eq_true rfl), (Nat.le_of_ble_eq_true rfl)⟩ ⟨(Nat.le_of_ble_eq_true rfl), (Nat.le_of_ble_eq_true rfl)⟩ ?_
    rintro v9 lay9 C9 ⟨rfl, rfl, rfl⟩
    refine v_if_eq (tgt := 21) X (xdec_at tX5_till_0 5 rfl) (by decide) (fun _ => ?_) (fun h9 => absurd h9 (by decide))
    refine v_lconst (v := 0) X (xdec_at tX5_till_0 11 rfl) (by decide) ?_
    have e9 : M_till μ p = (0, ((up2 μ.1 38 0 1), μ.2)) := by simp [M_till, up2_at, q_3]
    exact v_lret X hr (xdec_at tX5_till_0 12 rfl) (Nat.le_of_ble_eq_true rfl) (Nat.le_of_ble_eq_true rfl) ⟨rfl, by rw [e9], by rw [e9]⟩
set_option maxRecDepth 100000 in
set_option maxHeartbeats 4000000 in
theorem c_counted (l : Launch) (Z : xZ) (B0 : Nat) (lay : xK → Nat) (μ : Mu) (r : xK → Option xE) (a b : Int32) (hI : RI μ) : YM l yX5_counted cX5_counted 3 ((some FieldType.long)) 2 43 0 0 Z B0 [.ref (lay (100, 0)), .int a, .int b] lay (cM Z lay μ r) (fun v lay' C' => lay = lay' ∧ v = some (.long (M_counted μ a b).1) ∧ C' = cM Z lay (M_counted μ a b).2 r) := by
  refine YM_of myX5_counted.2.2 RX5 rfl [some (.ref (lay (100, 0))), some (.int a), some (.int b)] rfl (Nat.le_of_ble_eq_true rfl) ?_
  intro P1 P2 P3 P4 P5 P6 P7 P8 X hr hnm
  refine v_aload_n X (xdec_at tX5_counted_0 0 rfl) rfl rfl ?_
  refine v_aload_n X (xdec_at tX5_counted_0 1 rfl) rfl rfl ?_
  refine v_iload_n X (xdec_at tX5_counted_0 2 rfl) rfl rfl ?_
  refine v_callV X myX5_isPost [.int a] [.ref (lay (100, 0))] (c_isPost l Z B0 lay μ r a) (xw_at tW_17 38 rfl) (100, 0) cM_0 rfl rfl rfl rfl (by rfl) (Nat.le_of_ble_eq_true rfl) (xdec_at tX5_counted_0 3 rfl) ⟨(Nat.le_of_ble_eq_true rfl), (Nat.le_of_ble_eq_true rfl)⟩ ⟨(Nat.le_of_ble_eq_true rfl), (Nat.le_of_ble_eq_true rfl)⟩ ?_
  rintro v9 lay9 C9 ⟨rfl, rfl, ⟨rfl, q_3⟩ | ⟨rfl, q_3⟩⟩
  · refine v_if_eq (tgt := 21) X (xdec_at tX5_counted_0 4 rfl) (by decide) (fun h9 => absurd h9 (by decide)) (fun _ => ?_)
    refine v_aload_n X (xdec_at tX5_counted_0 5 rfl) rfl rfl ?_
    refine v_iload_n X (xdec_at tX5_counted_0 6 rfl) rfl rfl ?_
    refine v_callV X myX5_isPost [.int b] [.ref (lay (100, 0))] (c_isPost l Z B0 lay μ r b) (xw_at tW_17 38 rfl) (100, 0) cM_0 rfl rfl rfl rfl (by rfl) (Nat.le_of_ble_eq_true rfl) (xdec_at tX5_counted_0 7 rfl) ⟨(Nat.le_of_ble_eq_true rfl), (Nat.le_of_ble_eq_true rfl)⟩ ⟨(Nat.le_of_ble_eq_true rfl), (Nat.le_of_ble_eq_true rfl)⟩ ?_
    rintro v9 lay9 C9 ⟨rfl, rfl, ⟨rfl, q_11⟩ | ⟨rfl, q_11⟩⟩
    · refine v_if_eq (tgt := 21) X (xdec_at tX5_counted_0 8 rfl) (by decide) (fun h9 => absurd h9 (by decide)) (fun _ => ?_)
      refine v_iconst (v := 1) X (xdec_at tX5_counted_0 9 rfl) (by decide) ?_
      refine v_goto (tgt := 22) X (xdec_at tX5_counted_0 10 rfl) (by decide) ?_
      refine v_callV X myX5_asks [.int 1] [] (c_asks1 l Z B0 lay μ r) (xw_at tW_17 31 rfl) (100, 0) cM_0 rfl rfl rfl rfl (by rfl) (Nat.le_of_ble_eq_true rfl) (xdec_at tX5_counted_0 12 rfl) ⟨(Nat.le_of_ble_eq_true rfl), (Nat.le_of_ble_eq_true rfl)⟩ ⟨(Nat.le_of_ble_eq_true rfl), (Nat.le_of_ble_eq_true rfl)⟩ ?_
      rintro v9 lay9 C9 ⟨rfl, rfl, rfl⟩
      refine v_if_eq (tgt := 42) X (xdec_at tX5_counted_0 13 rfl) (by decide) (fun h9 => absurd h9 (by decide)) (fun _ => ?_)
      refine v_aload_n X (xdec_at tX5_counted_0 14 rfl) rfl rfl ?_
      refine r_A X 9 (by decide) rfl rfl (xdec_at tX5_counted_0 15 rfl) ?_
      refine v_bipush (v := 8) X (xdec_at tX5_counted_0 16 rfl) (by decide) ?_
      refine v_iload_n X (xdec_at tX5_counted_0 17 rfl) rfl rfl ?_
      refine v_imul X (xdec_at tX5_counted_0 18 rfl) ?_
      refine v_iload_n X (xdec_at tX5_counted_0 19 rfl) rfl rfl ?_
      refine v_iadd X (xdec_at tX5_counted_0 20 rfl) ?_
      refine r_L (v := (μ.2 9 (ix ((8 * a) + b)))) X 9 (by decide) rfl rfl (hI.PP (by assumption) (by assumption)) (xdec_at tX5_counted_0 21 rfl) rfl ?_
      refine v_goto (tgt := 43) X (xdec_at tX5_counted_0 22 rfl) (by decide) ?_
      have e9 : M_counted μ a b = ((μ.2 9 (ix ((8 * a) + b))), ((up2 μ.1 38 0 0), μ.2)) := by simp [M_counted, up2_at, (eq_true q_3), (eq_true q_11)]
      exact v_lret X hr (xdec_at tX5_counted_0 24 rfl) (Nat.le_of_ble_eq_true rfl) (Nat.le_of_ble_eq_true rfl) ⟨rfl, by rw [e9], by rw [e9]⟩
    · refine v_if_eq (tgt := 21) X (xdec_at tX5_counted_0 8 rfl) (by decide) (fun _ => ?_) (fun h9 => absurd h9 (by decide))
      refine v_iconst (v := 0) X (xdec_at tX5_counted_0 11 rfl) (by decide) ?_
      refine v_callV X myX5_asks [.int 0] [] (c_asks0 l Z B0 lay μ r) (xw_at tW_17 31 rfl) (100, 0) cM_0 rfl rfl rfl rfl (by rfl) (Nat.le_of_ble_eq_true rfl) (xdec_at tX5_counted_0 12 rfl) ⟨(Nat.le_of_ble_eq_true rfl), (Nat.le_of_ble_eq_true rfl)⟩ ⟨(Nat.le_of_ble_eq_true rfl), (Nat.le_of_ble_eq_true rfl)⟩ ?_
      rintro v9 lay9 C9 ⟨rfl, rfl, rfl⟩
      refine v_if_eq (tgt := 42) X (xdec_at tX5_counted_0 13 rfl) (by decide) (fun _ => ?_) (fun h9 => absurd h9 (by decide))
      refine v_lconst (v := 0) X (xdec_at tX5_counted_0 23 rfl) (by decide) ?_
      have e9 : M_counted μ a b = (0, ((up2 μ.1 38 0 1), μ.2)) := by simp [M_counted, up2_at, (eq_true q_3), q_11]
      exact v_lret X hr (xdec_at tX5_counted_0 24 rfl) (Nat.le_of_ble_eq_true rfl) (Nat.le_of_ble_eq_true rfl) ⟨rfl, by rw [e9], by rw [e9]⟩
  · refine v_if_eq (tgt := 21) X (xdec_at tX5_counted_0 4 rfl) (by decide) (fun _ => ?_) (fun h9 => absurd h9 (by decide))
    refine v_iconst (v := 0) X (xdec_at tX5_counted_0 11 rfl) (by decide) ?_
    refine v_callV X myX5_asks [.int 0] [] (c_asks0 l Z B0 lay μ r) (xw_at tW_17 31 rfl) (100, 0) cM_0 rfl rfl rfl rfl (by rfl) (Nat.le_of_ble_eq_true rfl) (xdec_at tX5_counted_0 12 rfl) ⟨(Nat.le_of_ble_eq_true rfl), (Nat.le_of_ble_eq_true rfl)⟩ ⟨(Nat.le_of_ble_eq_true rfl), (Nat.le_of_ble_eq_true rfl)⟩ ?_
    rintro v9 lay9 C9 ⟨rfl, rfl, rfl⟩
    refine v_if_eq (tgt := 42) X (xdec_at tX5_counted_0 13 rfl) (by decide) (fun _ => ?_) (fun h9 => absurd h9 (by decide))
    refine v_lconst (v := 0) X (xdec_at tX5_counted_0 23 rfl) (by decide) ?_
    have e9 : M_counted μ a b = (0, ((up2 μ.1 38 0 1), μ.2)) := by simp [M_counted, up2_at, q_3]
    exact v_lret X hr (xdec_at tX5_counted_0 24 rfl) (Nat.le_of_ble_eq_true rfl) (Nat.le_of_ble_eq_true rfl) ⟨rfl, by rw [e9], by rw [e9]⟩
set_option maxRecDepth 100000 in
set_option maxHeartbeats 4000000 in
theorem c_sample (l : Launch) (Z : xZ) (B0 : Nat) (lay : xK → Nat) (μ : Mu) (r : xK → Option xE) (c : Int32) (hI : RI μ) (hc : c = 0 ∨ c = 1) : YM l yX5_sample cX5_sample 3 ((some FieldType.boolean)) 0 0 0 0 Z B0 [.ref (lay (100, 0)), .int c] lay (cM Z lay μ r) (fun v lay' C' => lay = lay' ∧ v = some (.int (M_sample μ c).1) ∧ C' = cM Z lay (M_sample μ c).2 r) := by
  refine YM_of myX5_sample.2.2 RX5 rfl [some (.ref (lay (100, 0))), some (.int c), none] rfl (Nat.le_of_ble_eq_true rfl) ?_
  intro P1 P2 P3 P4 P5 P6 P7 P8 X hr hnm
  refine v_aload_n X (xdec_at tX5_sample_0 0 rfl) rfl rfl ?_
  refine v_iconst (v := 0) X (xdec_at tX5_sample_0 1 rfl) (by decide) ?_
  refine r_PS X 38 (by decide) rfl (by decide) rfl (xdec_at tX5_sample_0 2 rfl) ?_
  refine v_aload_n X (xdec_at tX5_sample_0 3 rfl) rfl rfl ?_
  refine r_S (v := (μ.1 36 0)) X 36 (by decide) rfl rfl (xdec_at tX5_sample_0 4 rfl) rfl ?_
  refine v_istore_n (lv' := [some (.ref (lay (100, 0))), some (.int c), some (.int (μ.1 36 0))]) X (xdec_at tX5_sample_0 5 rfl) rfl (by decide) rfl ?_
  refine v_aload_n X (xdec_at tX5_sample_0 6 rfl) rfl rfl ?_
  refine v_iload_n X (xdec_at tX5_sample_0 7 rfl) rfl rfl ?_
  refine r_PB X hc (xdec_at tX5_sample_0 8 rfl) ?_
  refine v_iload_n X (xdec_at tX5_sample_0 9 rfl) rfl rfl ?_
  have e9 : M_sample μ c = ((μ.1 36 0), ((up2 (up2 μ.1 38 0 0) 36 0 c), μ.2)) := by simp [M_sample, up2_at]
  exact v_zret X hr (xdec_at tX5_sample_0 10 rfl) (Nat.le_of_ble_eq_true rfl) (Nat.le_of_ble_eq_true rfl) (hI.B (by decide)) ⟨rfl, by rw [e9], by rw [e9]⟩
set_option maxRecDepth 100000 in
set_option maxHeartbeats 4000000 in
theorem c_rateOf (l : Launch) (Z : xZ) (B0 : Nat) (lay : xK → Nat) (μ : Mu) (r : xK → Option xE) (k p g b : Int32) (h24 : vp_in (3 * p + k) 24) : YM l yX5_rateOf cX5_rateOf 6 ((some FieldType.int)) 0 0 0 0 Z B0 [.ref (lay (100, 0)), .int k, .int p, .int g, .int b] lay (cM Z lay μ r) (fun v lay' C' => lay = lay' ∧ v = some (.int (M_rateOf μ k p g b)) ∧ C' = cM Z lay μ r) := by
  refine YM_of myX5_rateOf.2.2 RX5 rfl [some (.ref (lay (100, 0))), some (.int k), some (.int p), some (.int g), some (.int b), none] rfl (Nat.le_of_ble_eq_true rfl) ?_
  intro P1 P2 P3 P4 P5 P6 P7 P8 X hr hnm
  refine v_iload_n X (xdec_at tX5_rateOf_0 0 rfl) rfl rfl ?_
  refine v_iconst (v := 1) X (xdec_at tX5_rateOf_0 1 rfl) (by decide) ?_
  refine v_isub X (xdec_at tX5_rateOf_0 2 rfl) ?_
  refine v_bipush (v := 20) X (xdec_at tX5_rateOf_0 3 rfl) (by decide) ?_
  refine v_idiv X (xdec_at tX5_rateOf_0 4 rfl) (by decide) ?_
  refine v_istore (lv' := [some (.ref (lay (100, 0))), some (.int k), some (.int p), some (.int g), some (.int b), some (.int ((g - 1) / 20))]) X (xdec_at tX5_rateOf_0 5 rfl) (by decide) rfl ?_
  refine v_aload_n X (xdec_at tX5_rateOf_0 6 rfl) rfl rfl ?_
  refine r_A X 1 (by decide) rfl rfl (xdec_at tX5_rateOf_0 7 rfl) ?_
  refine v_iconst (v := 3) X (xdec_at tX5_rateOf_0 8 rfl) (by decide) ?_
  refine v_iload_n X (xdec_at tX5_rateOf_0 9 rfl) rfl rfl ?_
  refine v_imul X (xdec_at tX5_rateOf_0 10 rfl) ?_
  refine v_iload_n X (xdec_at tX5_rateOf_0 11 rfl) rfl rfl ?_
  refine v_iadd X (xdec_at tX5_rateOf_0 12 rfl) ?_
  refine r_I (v := (μ.1 1 (ix ((3 * p) + k)))) X 1 (by decide) rfl rfl h24 (xdec_at tX5_rateOf_0 13 rfl) rfl ?_
  refine v_aload_n X (xdec_at tX5_rateOf_0 14 rfl) rfl rfl ?_
  refine r_A X 2 (by decide) rfl rfl (xdec_at tX5_rateOf_0 15 rfl) ?_
  refine v_iconst (v := 3) X (xdec_at tX5_rateOf_0 16 rfl) (by decide) ?_
  refine v_iload_n X (xdec_at tX5_rateOf_0 17 rfl) rfl rfl ?_
  refine v_imul X (xdec_at tX5_rateOf_0 18 rfl) ?_
  refine v_iload_n X (xdec_at tX5_rateOf_0 19 rfl) rfl rfl ?_
  refine v_iadd X (xdec_at tX5_rateOf_0 20 rfl) ?_
  refine r_I (v := (μ.1 2 (ix ((3 * p) + k)))) X 2 (by decide) rfl rfl h24 (xdec_at tX5_rateOf_0 21 rfl) rfl ?_
  refine v_iload X (xdec_at tX5_rateOf_0 22 rfl) rfl ?_
  refine v_imul X (xdec_at tX5_rateOf_0 23 rfl) ?_
  refine v_iadd X (xdec_at tX5_rateOf_0 24 rfl) ?_
  refine v_iload X (xdec_at tX5_rateOf_0 25 rfl) rfl ?_
  refine v_if_eq (tgt := 42) X (xdec_at tX5_rateOf_0 26 rfl) (by decide) (fun c_34 => ?_) (fun c_34 => ?_)
  · refine v_iconst (v := 0) X (xdec_at tX5_rateOf_0 29 rfl) (by decide) ?_
    refine v_iadd X (xdec_at tX5_rateOf_0 30 rfl) ?_
    have e9 : M_rateOf μ k p g b = (((μ.1 1 (ix ((3 * p) + k))) + ((μ.1 2 (ix ((3 * p) + k))) * ((g - 1) / 20))) + 0) := by simp [M_rateOf, (eq_true c_34)]
    exact v_iret X hr (xdec_at tX5_rateOf_0 31 rfl) (Nat.le_of_ble_eq_true rfl) (Nat.le_of_ble_eq_true rfl) ⟨rfl, by rw [e9], rfl⟩
  · refine v_bipush (v := 50) X (xdec_at tX5_rateOf_0 27 rfl) (by decide) ?_
    refine v_goto (tgt := 43) X (xdec_at tX5_rateOf_0 28 rfl) (by decide) ?_
    refine v_iadd X (xdec_at tX5_rateOf_0 30 rfl) ?_
    have e9 : M_rateOf μ k p g b = (((μ.1 1 (ix ((3 * p) + k))) + ((μ.1 2 (ix ((3 * p) + k))) * ((g - 1) / 20))) + 50) := by simp [M_rateOf, c_34]
    exact v_iret X hr (xdec_at tX5_rateOf_0 31 rfl) (Nat.le_of_ble_eq_true rfl) (Nat.le_of_ble_eq_true rfl) ⟨rfl, by rw [e9], rfl⟩
set_option maxRecDepth 100000 in
set_option maxHeartbeats 4000000 in
theorem c_isUnderWay (l : Launch) (Z : xZ) (B0 : Nat) (lay : xK → Nat) (μ : Mu) (r : xK → Option xE) (t : Nat) (ht : t < 40) : YM l yX5_isUnderWay cX5_isUnderWay 2 ((some FieldType.boolean)) 0 0 0 0 Z B0 [.ref (lay (100, 0)), .int (nI t)] lay (cM Z lay μ r) (fun v lay' C' => lay = lay' ∧ C' = cM Z lay μ r ∧ ((v = some (.int 1) ∧ undW μ t) ∨ (v = some (.int 0) ∧ ¬ undW μ t))) := by
  refine YM_of myX5_isUnderWay.2.2 RX5 rfl [some (.ref (lay (100, 0))), some (.int (nI t))] rfl (Nat.le_of_ble_eq_true rfl) ?_
  intro P1 P2 P3 P4 P5 P6 P7 P8 X hr hnm
  refine v_aload_n X (xdec_at tX5_isUnderWay_0 0 rfl) rfl rfl ?_
  refine r_A X 23 (by decide) rfl rfl (xdec_at tX5_isUnderWay_0 1 rfl) ?_
  refine v_iload_n X (xdec_at tX5_isUnderWay_0 2 rfl) rfl rfl ?_
  refine r_In (v := (μ.1 23 t)) X 23 (by decide) rfl rfl ht (xdec_at tX5_isUnderWay_0 3 rfl) rfl ?_
  refine v_if_eq (tgt := 19) X (xdec_at tX5_isUnderWay_0 4 rfl) (by decide) (fun c_6 => ?_) (fun c_6 => ?_)
  · refine v_iconst (v := 1) X (xdec_at tX5_isUnderWay_0 11 rfl) (by decide) ?_
    refine v_goto (tgt := 24) X (xdec_at tX5_isUnderWay_0 12 rfl) (by decide) ?_
    exact v_zret X hr (xdec_at tX5_isUnderWay_0 14 rfl) (Nat.le_of_ble_eq_true rfl) (Nat.le_of_ble_eq_true rfl) (by rfl) ⟨rfl, rfl, Or.inl ⟨rfl, by simp [undW, (eq_true c_6)]⟩⟩
  · refine v_aload_n X (xdec_at tX5_isUnderWay_0 5 rfl) rfl rfl ?_
    refine r_A X 23 (by decide) rfl rfl (xdec_at tX5_isUnderWay_0 6 rfl) ?_
    refine v_iload_n X (xdec_at tX5_isUnderWay_0 7 rfl) rfl rfl ?_
    refine r_In (v := (μ.1 23 t)) X 23 (by decide) rfl rfl ht (xdec_at tX5_isUnderWay_0 8 rfl) rfl ?_
    refine v_iconst (v := 1) X (xdec_at tX5_isUnderWay_0 9 rfl) (by decide) ?_
    refine v_icmp_ne (tgt := 23) X (xdec_at tX5_isUnderWay_0 10 rfl) (by decide) (fun c_16 => ?_) (fun c_16 => ?_)
    · refine v_iconst (v := 0) X (xdec_at tX5_isUnderWay_0 13 rfl) (by decide) ?_
      exact v_zret X hr (xdec_at tX5_isUnderWay_0 14 rfl) (Nat.le_of_ble_eq_true rfl) (Nat.le_of_ble_eq_true rfl) (by rfl) ⟨rfl, rfl, Or.inr ⟨rfl, by simp [undW, c_6, c_16]⟩⟩
    · refine v_iconst (v := 1) X (xdec_at tX5_isUnderWay_0 11 rfl) (by decide) ?_
      refine v_goto (tgt := 24) X (xdec_at tX5_isUnderWay_0 12 rfl) (by decide) ?_
      exact v_zret X hr (xdec_at tX5_isUnderWay_0 14 rfl) (Nat.le_of_ble_eq_true rfl) (Nat.le_of_ble_eq_true rfl) (by rfl) ⟨rfl, rfl, Or.inl ⟨rfl, by simp [undW, c_6, (eq_true c_16)]⟩⟩
set_option maxRecDepth 100000 in
set_option maxHeartbeats 4000000 in
theorem c_ends (l : Launch) (Z : xZ) (B0 : Nat) (lay : xK → Nat) (μ : Mu) (r : xK → Option xE) (g : Nat) (hg : g < 20) (f : Int32) : YM l yX5_ends cX5_ends 3 ((some FieldType.boolean)) 0 0 0 0 Z B0 [.ref (lay (100, 0)), .int (nI g), .int f] lay (cM Z lay μ r) (fun v lay' C' => lay = lay' ∧ C' = cM Z lay μ r ∧ ((v = some (.int 1) ∧ (μ.1 11 g = f ∨ μ.1 12 g = f)) ∨ (v = some (.int 0) ∧ ¬ (μ.1 11 g = f ∨ μ.1 12 g = f)))) := by
  refine YM_of myX5_ends.2.2 RX5 rfl [some (.ref (lay (100, 0))), some (.int (nI g)), some (.int f)] rfl (Nat.le_of_ble_eq_true rfl) ?_
  intro P1 P2 P3 P4 P5 P6 P7 P8 X hr hnm
  refine v_aload_n X (xdec_at tX5_ends_0 0 rfl) rfl rfl ?_
  refine r_A X 11 (by decide) rfl rfl (xdec_at tX5_ends_0 1 rfl) ?_
  refine v_iload_n X (xdec_at tX5_ends_0 2 rfl) rfl rfl ?_
  refine r_In (v := (μ.1 11 g)) X 11 (by decide) rfl rfl hg (xdec_at tX5_ends_0 3 rfl) rfl ?_
  refine v_iload_n X (xdec_at tX5_ends_0 4 rfl) rfl rfl ?_
  refine v_icmp_eq (tgt := 20) X (xdec_at tX5_ends_0 5 rfl) (by decide) (fun c_7 => ?_) (fun c_7 => ?_)
  · refine v_iconst (v := 1) X (xdec_at tX5_ends_0 12 rfl) (by decide) ?_
    refine v_goto (tgt := 25) X (xdec_at tX5_ends_0 13 rfl) (by decide) ?_
    exact v_zret X hr (xdec_at tX5_ends_0 15 rfl) (Nat.le_of_ble_eq_true rfl) (Nat.le_of_ble_eq_true rfl) (by rfl) ⟨rfl, rfl, Or.inl ⟨rfl, by simp [(eq_true c_7)]⟩⟩
  · refine v_aload_n X (xdec_at tX5_ends_0 6 rfl) rfl rfl ?_
    refine r_A X 12 (by decide) rfl rfl (xdec_at tX5_ends_0 7 rfl) ?_
    refine v_iload_n X (xdec_at tX5_ends_0 8 rfl) rfl rfl ?_
    refine r_In (v := (μ.1 12 g)) X 12 (by decide) rfl rfl hg (xdec_at tX5_ends_0 9 rfl) rfl ?_
    refine v_iload_n X (xdec_at tX5_ends_0 10 rfl) rfl rfl ?_
    refine v_icmp_ne (tgt := 24) X (xdec_at tX5_ends_0 11 rfl) (by decide) (fun c_17 => ?_) (fun c_17 => ?_)
    · refine v_iconst (v := 0) X (xdec_at tX5_ends_0 14 rfl) (by decide) ?_
      exact v_zret X hr (xdec_at tX5_ends_0 15 rfl) (Nat.le_of_ble_eq_true rfl) (Nat.le_of_ble_eq_true rfl) (by rfl) ⟨rfl, rfl, Or.inr ⟨rfl, by simp [c_7, c_17]⟩⟩
    · refine v_iconst (v := 1) X (xdec_at tX5_ends_0 12 rfl) (by decide) ?_
      refine v_goto (tgt := 25) X (xdec_at tX5_ends_0 13 rfl) (by decide) ?_
      exact v_zret X hr (xdec_at tX5_ends_0 15 rfl) (Nat.le_of_ble_eq_true rfl) (Nat.le_of_ble_eq_true rfl) (by rfl) ⟨rfl, rfl, Or.inl ⟨rfl, by simp [c_7, (eq_true c_17)]⟩⟩
set_option maxRecDepth 100000 in
set_option maxHeartbeats 4000000 in
theorem c_across (l : Launch) (Z : xZ) (B0 : Nat) (lay : xK → Nat) (μ : Mu) (r : xK → Option xE) (g : Nat) (hg : g < 20) (f : Int32) : YM l yX5_across cX5_across 3 ((some FieldType.int)) 0 0 0 0 Z B0 [.ref (lay (100, 0)), .int (nI g), .int f] lay (cM Z lay μ r) (fun v lay' C' => lay = lay' ∧ v = some (.int (M_across μ.1 g f)) ∧ C' = cM Z lay μ r) := by
  refine YM_of myX5_across.2.2 RX5 rfl [some (.ref (lay (100, 0))), some (.int (nI g)), some (.int f)] rfl (Nat.le_of_ble_eq_true rfl) ?_
  intro P1 P2 P3 P4 P5 P6 P7 P8 X hr hnm
  refine v_aload_n X (xdec_at tX5_across_0 0 rfl) rfl rfl ?_
  refine r_A X 11 (by decide) rfl rfl (xdec_at tX5_across_0 1 rfl) ?_
  refine v_iload_n X (xdec_at tX5_across_0 2 rfl) rfl rfl ?_
  refine r_In (v := (μ.1 11 g)) X 11 (by decide) rfl rfl hg (xdec_at tX5_across_0 3 rfl) rfl ?_
  refine v_iload_n X (xdec_at tX5_across_0 4 rfl) rfl rfl ?_
  refine v_icmp_ne (tgt := 19) X (xdec_at tX5_across_0 5 rfl) (by decide) (fun c_7 => ?_) (fun c_7 => ?_)
  · refine v_aload_n X (xdec_at tX5_across_0 11 rfl) rfl rfl ?_
    refine r_A X 11 (by decide) rfl rfl (xdec_at tX5_across_0 12 rfl) ?_
    refine v_iload_n X (xdec_at tX5_across_0 13 rfl) rfl rfl ?_
    refine r_In (v := (μ.1 11 g)) X 11 (by decide) rfl rfl hg (xdec_at tX5_across_0 14 rfl) rfl ?_
    have e9 : M_across μ.1 g f = (μ.1 11 g) := by simp [M_across, c_7]
    exact v_iret X hr (xdec_at tX5_across_0 15 rfl) (Nat.le_of_ble_eq_true rfl) (Nat.le_of_ble_eq_true rfl) ⟨rfl, by rw [e9], rfl⟩
  · refine v_aload_n X (xdec_at tX5_across_0 6 rfl) rfl rfl ?_
    refine r_A X 12 (by decide) rfl rfl (xdec_at tX5_across_0 7 rfl) ?_
    refine v_iload_n X (xdec_at tX5_across_0 8 rfl) rfl rfl ?_
    refine r_In (v := (μ.1 12 g)) X 12 (by decide) rfl rfl hg (xdec_at tX5_across_0 9 rfl) rfl ?_
    refine v_goto (tgt := 25) X (xdec_at tX5_across_0 10 rfl) (by decide) ?_
    have e9 : M_across μ.1 g f = (μ.1 12 g) := by simp [M_across, (eq_true c_7)]
    exact v_iret X hr (xdec_at tX5_across_0 15 rfl) (Nat.le_of_ble_eq_true rfl) (Nat.le_of_ble_eq_true rfl) ⟨rfl, by rw [e9], rfl⟩
set_option maxRecDepth 100000 in
set_option maxHeartbeats 4000000 in
theorem c_taxOf (l : Launch) (Z : xZ) (B0 : Nat) (lay : xK → Nat) (μ : Mu) (r : xK → Option xE) (t : Nat) (ht : t < 40) (h18 : vp_in (μ.1 18 t) 8) (h19 : vp_in (μ.1 19 t) 8) : YM l yX5_taxOf cX5_taxOf 5 ((some FieldType.long)) 0 0 0 0 Z B0 [.ref (lay (100, 0)), .int (nI t)] lay (cM Z lay μ r) (fun v lay' C' => lay = lay' ∧ v = some (.long (M_taxOf μ t)) ∧ C' = cM Z lay μ r) := by
  refine YM_of myX5_taxOf.2.2 RX5 rfl [some (.ref (lay (100, 0))), some (.int (nI t)), none, none, none] rfl (Nat.le_of_ble_eq_true rfl) ?_
  intro P1 P2 P3 P4 P5 P6 P7 P8 X hr hnm
  refine v_ldc2 (v := 2) X (xw_at tW_20 23 rfl) (xdec_at tX5_taxOf_0 0 rfl) ?_
  refine v_aload_n X (xdec_at tX5_taxOf_0 1 rfl) rfl rfl ?_
  refine r_A X 22 (by decide) rfl rfl (xdec_at tX5_taxOf_0 2 rfl) ?_
  refine v_iload_n X (xdec_at tX5_taxOf_0 3 rfl) rfl rfl ?_
  refine r_In (v := (μ.1 22 t)) X 22 (by decide) rfl rfl ht (xdec_at tX5_taxOf_0 4 rfl) rfl ?_
  refine v_i2l X (xdec_at tX5_taxOf_0 5 rfl) rfl ?_
  refine v_lmul X (xdec_at tX5_taxOf_0 6 rfl) ?_
  refine v_lstore_n (lv' := [some (.ref (lay (100, 0))), some (.int (nI t)), some (.long (2 * ((μ.1 22 t)).toInt64)), none, none]) X (xdec_at tX5_taxOf_0 7 rfl) rfl (by decide) rfl ?_
  refine v_aload_n X (xdec_at tX5_taxOf_0 8 rfl) rfl rfl ?_
  refine r_A X 1 (by decide) rfl rfl (xdec_at tX5_taxOf_0 9 rfl) ?_
  refine v_iconst (v := 3) X (xdec_at tX5_taxOf_0 10 rfl) (by decide) ?_
  refine v_aload_n X (xdec_at tX5_taxOf_0 11 rfl) rfl rfl ?_
  refine r_A X 18 (by decide) rfl rfl (xdec_at tX5_taxOf_0 12 rfl) ?_
  refine v_iload_n X (xdec_at tX5_taxOf_0 13 rfl) rfl rfl ?_
  refine r_In (v := (μ.1 18 t)) X 18 (by decide) rfl rfl ht (xdec_at tX5_taxOf_0 14 rfl) rfl ?_
  refine v_imul X (xdec_at tX5_taxOf_0 15 rfl) ?_
  refine r_I (v := (μ.1 1 (ix (3 * (μ.1 18 t))))) X 1 (by decide) rfl rfl (in_3 h18).1 (xdec_at tX5_taxOf_0 16 rfl) rfl ?_
  refine v_istore (lv' := [some (.ref (lay (100, 0))), some (.int (nI t)), some (.long (2 * ((μ.1 22 t)).toInt64)), none, some (.int (μ.1 1 (ix (3 * (μ.1 18 t)))))]) X (xdec_at tX5_taxOf_0 17 rfl) (by decide) rfl ?_
  refine v_iload X (xdec_at tX5_taxOf_0 18 rfl) rfl ?_
  refine v_if_ne (tgt := 36) X (xdec_at tX5_taxOf_0 19 rfl) (by decide) (fun c_29 => ?_) (fun c_29 => ?_)
  · refine v_lload_n X (xdec_at tX5_taxOf_0 22 rfl) rfl rfl ?_
    refine v_aload_n X (xdec_at tX5_taxOf_0 23 rfl) rfl rfl ?_
    refine r_A X 1 (by decide) rfl rfl (xdec_at tX5_taxOf_0 24 rfl) ?_
    refine v_iconst (v := 3) X (xdec_at tX5_taxOf_0 25 rfl) (by decide) ?_
    refine v_aload_n X (xdec_at tX5_taxOf_0 26 rfl) rfl rfl ?_
    refine r_A X 19 (by decide) rfl rfl (xdec_at tX5_taxOf_0 27 rfl) ?_
    refine v_iload_n X (xdec_at tX5_taxOf_0 28 rfl) rfl rfl ?_
    refine r_In (v := (μ.1 19 t)) X 19 (by decide) rfl rfl ht (xdec_at tX5_taxOf_0 29 rfl) rfl ?_
    refine v_imul X (xdec_at tX5_taxOf_0 30 rfl) ?_
    refine r_I (v := (μ.1 1 (ix (3 * (μ.1 19 t))))) X 1 (by decide) rfl rfl (in_3 h19).1 (xdec_at tX5_taxOf_0 31 rfl) rfl ?_
    refine v_i2l X (xdec_at tX5_taxOf_0 32 rfl) rfl ?_
    refine v_lmul X (xdec_at tX5_taxOf_0 33 rfl) ?_
    refine v_iload X (xdec_at tX5_taxOf_0 34 rfl) rfl ?_
    refine v_i2l X (xdec_at tX5_taxOf_0 35 rfl) rfl ?_
    refine v_ldiv X (xdec_at tX5_taxOf_0 36 rfl) (fun q => c_29 (by have := congrArg Int64.toInt32 q; simpa using this)) ?_
    have e9 : M_taxOf μ t = (((2 * ((μ.1 22 t)).toInt64) * ((μ.1 1 (ix (3 * (μ.1 19 t))))).toInt64) / ((μ.1 1 (ix (3 * (μ.1 18 t))))).toInt64) := by simp [M_taxOf, c_29]
    exact v_lret X hr (xdec_at tX5_taxOf_0 37 rfl) (Nat.le_of_ble_eq_true rfl) (Nat.le_of_ble_eq_true rfl) ⟨rfl, by rw [e9], rfl⟩
  · refine v_lload_n X (xdec_at tX5_taxOf_0 20 rfl) rfl rfl ?_
    refine v_goto (tgt := 56) X (xdec_at tX5_taxOf_0 21 rfl) (by decide) ?_
    have e9 : M_taxOf μ t = (2 * ((μ.1 22 t)).toInt64) := by simp [M_taxOf, (eq_true c_29)]
    exact v_lret X hr (xdec_at tX5_taxOf_0 37 rfl) (Nat.le_of_ble_eq_true rfl) (Nat.le_of_ble_eq_true rfl) ⟨rfl, by rw [e9], rfl⟩
set_option maxRecDepth 100000 in
set_option maxHeartbeats 4000000 in
theorem c_redirect (l : Launch) (Z : xZ) (B0 : Nat) (lay : xK → Nat) (μ : Mu) (r : xK → Option xE) (t b : Int32) (hI : RI μ) : YM l yX5_redirect cX5_redirect 4 ((some FieldType.int)) 2 43 0 0 Z B0 [.ref (lay (100, 0)), .int t, .int b] lay (cM Z lay μ r) (fun v lay' C' => lay = lay' ∧ v = some (.int (M_redirect μ t b).1) ∧ C' = cM Z lay (M_redirect μ t b).2 r) := by
  refine YM_of myX5_redirect.2.2 RX5 rfl [some (.ref (lay (100, 0))), some (.int t), some (.int b), none] rfl (Nat.le_of_ble_eq_true rfl) ?_
  intro P1 P2 P3 P4 P5 P6 P7 P8 X hr hnm
  refine v_aload_n X (xdec_at tX5_redirect_0 0 rfl) rfl rfl ?_
  refine v_aload_n X (xdec_at tX5_redirect_0 1 rfl) rfl rfl ?_
  refine v_iload_n X (xdec_at tX5_redirect_0 2 rfl) rfl rfl ?_
  refine v_callV X myX5_isThing [.int t] [.ref (lay (100, 0))] (c_isThing l Z B0 lay μ r t) (xw_at tW_20 0 rfl) (100, 0) cM_0 rfl rfl rfl rfl (by rfl) (Nat.le_of_ble_eq_true rfl) (xdec_at tX5_redirect_0 3 rfl) ⟨(Nat.le_of_ble_eq_true rfl), (Nat.le_of_ble_eq_true rfl)⟩ ⟨(Nat.le_of_ble_eq_true rfl), (Nat.le_of_ble_eq_true rfl)⟩ ?_
  rintro v9 lay9 C9 ⟨rfl, rfl, ⟨rfl, q_3⟩ | ⟨rfl, q_3⟩⟩
  · refine v_if_eq (tgt := 21) X (xdec_at tX5_redirect_0 4 rfl) (by decide) (fun h9 => absurd h9 (by decide)) (fun _ => ?_)
    refine v_aload_n X (xdec_at tX5_redirect_0 5 rfl) rfl rfl ?_
    refine v_iload_n X (xdec_at tX5_redirect_0 6 rfl) rfl rfl ?_
    refine v_callV X myX5_isPost [.int b] [.ref (lay (100, 0))] (c_isPost l Z B0 lay μ r b) (xw_at tW_17 38 rfl) (100, 0) cM_0 rfl rfl rfl rfl (by rfl) (Nat.le_of_ble_eq_true rfl) (xdec_at tX5_redirect_0 7 rfl) ⟨(Nat.le_of_ble_eq_true rfl), (Nat.le_of_ble_eq_true rfl)⟩ ⟨(Nat.le_of_ble_eq_true rfl), (Nat.le_of_ble_eq_true rfl)⟩ ?_
    rintro v9 lay9 C9 ⟨rfl, rfl, ⟨rfl, q_11⟩ | ⟨rfl, q_11⟩⟩
    · refine v_if_eq (tgt := 21) X (xdec_at tX5_redirect_0 8 rfl) (by decide) (fun h9 => absurd h9 (by decide)) (fun _ => ?_)
      refine v_iconst (v := 1) X (xdec_at tX5_redirect_0 9 rfl) (by decide) ?_
      refine v_goto (tgt := 22) X (xdec_at tX5_redirect_0 10 rfl) (by decide) ?_
      refine v_callV X myX5_asks [.int 1] [] (c_asks1 l Z B0 lay μ r) (xw_at tW_17 31 rfl) (100, 0) cM_0 rfl rfl rfl rfl (by rfl) (Nat.le_of_ble_eq_true rfl) (xdec_at tX5_redirect_0 12 rfl) ⟨(Nat.le_of_ble_eq_true rfl), (Nat.le_of_ble_eq_true rfl)⟩ ⟨(Nat.le_of_ble_eq_true rfl), (Nat.le_of_ble_eq_true rfl)⟩ ?_
      rintro v9 lay9 C9 ⟨rfl, rfl, rfl⟩
      refine v_if_ne (tgt := 30) X (xdec_at tX5_redirect_0 13 rfl) (by decide) (fun _ => ?_) (fun h9 => absurd h9 (by decide))
      refine v_aload_n X (xdec_at tX5_redirect_0 16 rfl) rfl rfl ?_
      refine r_A X 23 (by decide) rfl rfl (xdec_at tX5_redirect_0 17 rfl) ?_
      refine v_iload_n X (xdec_at tX5_redirect_0 18 rfl) rfl rfl ?_
      refine r_I (v := (μ.1 23 (ix t))) X 23 (by decide) rfl rfl (hI.T (by assumption)) (xdec_at tX5_redirect_0 19 rfl) rfl ?_
      refine v_if_ne (tgt := 55) X (xdec_at tX5_redirect_0 20 rfl) (by decide) (fun c_36 => ?_) (fun c_36 => ?_)
      · refine v_aload_n X (xdec_at tX5_redirect_0 31 rfl) rfl rfl ?_
        refine v_iload_n X (xdec_at tX5_redirect_0 32 rfl) rfl rfl ?_
        refine v_st (st' := [.int (nI (ix t)), .ref (lay (100, 0))]) (by rw [in_eq (hI.T (by assumption)) (by decide)] <;> rfl) ?_
        refine v_callV X myX5_isUnderWay [.int (nI (ix t))] [] (c_isUnderWay l Z B0 lay ((up2 μ.1 38 0 0), μ.2) r (ix t) (in_ix (hI.T (by assumption)))) (xw_at tW_20 3 rfl) (100, 0) cM_0 rfl rfl rfl rfl (by rfl) (Nat.le_of_ble_eq_true rfl) (xdec_at tX5_redirect_0 33 rfl) ⟨(Nat.le_of_ble_eq_true rfl), (Nat.le_of_ble_eq_true rfl)⟩ ⟨(Nat.le_of_ble_eq_true rfl), (Nat.le_of_ble_eq_true rfl)⟩ ?_
        rintro v9 lay9 C9 ⟨rfl, rfl, ⟨rfl, q_57⟩ | ⟨rfl, q_57⟩⟩
        · have q_57 : undW μ (ix t) := q_57
          refine v_if_eq (tgt := 72) X (xdec_at tX5_redirect_0 34 rfl) (by decide) (fun h9 => absurd h9 (by decide)) (fun _ => ?_)
          refine v_aload_n X (xdec_at tX5_redirect_0 35 rfl) rfl rfl ?_
          refine r_A X 27 (by decide) rfl rfl (xdec_at tX5_redirect_0 36 rfl) ?_
          refine v_iload_n X (xdec_at tX5_redirect_0 37 rfl) rfl rfl ?_
          refine r_Z (v := (μ.1 27 (ix t))) X 27 (by decide) rfl rfl (hI.T (by assumption)) (xdec_at tX5_redirect_0 38 rfl) rfl ?_
          refine v_if_eq (tgt := 78) X (xdec_at tX5_redirect_0 39 rfl) (by decide) (fun c_69 => ?_) (fun c_69 => ?_)
          · refine v_aload_n X (xdec_at tX5_redirect_1 4 rfl) rfl rfl ?_
            refine r_A X 19 (by decide) rfl rfl (xdec_at tX5_redirect_1 5 rfl) ?_
            refine v_iload_n X (xdec_at tX5_redirect_1 6 rfl) rfl rfl ?_
            refine r_I (v := (μ.1 19 (ix t))) X 19 (by decide) rfl rfl (hI.T (by assumption)) (xdec_at tX5_redirect_1 7 rfl) rfl ?_
            refine v_istore_n (lv' := [some (.ref (lay (100, 0))), some (.int t), some (.int b), some (.int (μ.1 19 (ix t)))]) X (xdec_at tX5_redirect_1 8 rfl) rfl (by decide) rfl ?_
            refine v_aload_n X (xdec_at tX5_redirect_1 9 rfl) rfl rfl ?_
            refine r_A X 19 (by decide) rfl rfl (xdec_at tX5_redirect_1 10 rfl) ?_
            refine v_iload_n X (xdec_at tX5_redirect_1 11 rfl) rfl rfl ?_
            refine v_iload_n X (xdec_at tX5_redirect_1 12 rfl) rfl rfl ?_
            refine r_PI X 19 (by decide) rfl rfl (hI.T (by assumption)) (xdec_at tX5_redirect_1 13 rfl) ?_
            refine v_iload_n X (xdec_at tX5_redirect_1 14 rfl) rfl rfl ?_
            have e9 : M_redirect μ t b = ((μ.1 19 (ix t)), ((up2 (up2 μ.1 38 0 0) 19 (ix t) b), μ.2)) := by simp [M_redirect, up2_at, (eq_true q_3), (eq_true q_11), c_36, (eq_true q_57), (eq_true c_69)]
            exact v_iret X hr (xdec_at tX5_redirect_1 15 rfl) (Nat.le_of_ble_eq_true rfl) (Nat.le_of_ble_eq_true rfl) ⟨rfl, by rw [e9], by rw [e9]⟩
          · refine v_aload_n X (xdec_at tX5_redirect_1 0 rfl) rfl rfl ?_
            refine v_iconst (v := 3) X (xdec_at tX5_redirect_1 1 rfl) (by decide) ?_
            refine v_callV X myX5_fails [.int 3] [] (c_fails l Z B0 lay ((up2 μ.1 38 0 0), μ.2) r 3) (xw_at tW_18 11 rfl) (100, 0) cM_0 rfl rfl rfl rfl (by rfl) (Nat.le_of_ble_eq_true rfl) (xdec_at tX5_redirect_1 2 rfl) ⟨(Nat.le_of_ble_eq_true rfl), (Nat.le_of_ble_eq_true rfl)⟩ ⟨(Nat.le_of_ble_eq_true rfl), (Nat.le_of_ble_eq_true rfl)⟩ ?_
            rintro v9 lay9 C9 ⟨rfl, rfl, rfl⟩
            have e9 : M_redirect μ t b = (0, ((up2 (up2 μ.1 38 0 0) 38 0 3), μ.2)) := by simp [M_redirect, up2_at, (eq_true q_3), (eq_true q_11), c_36, (eq_true q_57), c_69]
            exact v_iret X hr (xdec_at tX5_redirect_1 3 rfl) (Nat.le_of_ble_eq_true rfl) (Nat.le_of_ble_eq_true rfl) ⟨rfl, by rw [e9], by rw [e9]⟩
        · have q_57 : ¬ undW μ (ix t) := q_57
          refine v_if_eq (tgt := 72) X (xdec_at tX5_redirect_0 34 rfl) (by decide) (fun _ => ?_) (fun h9 => absurd h9 (by decide))
          refine v_aload_n X (xdec_at tX5_redirect_1 0 rfl) rfl rfl ?_
          refine v_iconst (v := 3) X (xdec_at tX5_redirect_1 1 rfl) (by decide) ?_
          refine v_callV X myX5_fails [.int 3] [] (c_fails l Z B0 lay ((up2 μ.1 38 0 0), μ.2) r 3) (xw_at tW_18 11 rfl) (100, 0) cM_0 rfl rfl rfl rfl (by rfl) (Nat.le_of_ble_eq_true rfl) (xdec_at tX5_redirect_1 2 rfl) ⟨(Nat.le_of_ble_eq_true rfl), (Nat.le_of_ble_eq_true rfl)⟩ ⟨(Nat.le_of_ble_eq_true rfl), (Nat.le_of_ble_eq_true rfl)⟩ ?_
          rintro v9 lay9 C9 ⟨rfl, rfl, rfl⟩
          have e9 : M_redirect μ t b = (0, ((up2 (up2 μ.1 38 0 0) 38 0 3), μ.2)) := by simp [M_redirect, up2_at, (eq_true q_3), (eq_true q_11), c_36, q_57]
          exact v_iret X hr (xdec_at tX5_redirect_1 3 rfl) (Nat.le_of_ble_eq_true rfl) (Nat.le_of_ble_eq_true rfl) ⟨rfl, by rw [e9], by rw [e9]⟩
      · refine v_aload_n X (xdec_at tX5_redirect_0 21 rfl) rfl rfl ?_
        refine r_A X 24 (by decide) rfl rfl (xdec_at tX5_redirect_0 22 rfl) ?_
        refine v_iload_n X (xdec_at tX5_redirect_0 23 rfl) rfl rfl ?_
        refine r_I (v := (μ.1 24 (ix t))) X 24 (by decide) rfl rfl (hI.T (by assumption)) (xdec_at tX5_redirect_0 24 rfl) rfl ?_
        refine v_iload_n X (xdec_at tX5_redirect_0 25 rfl) rfl rfl ?_
        refine v_icmp_ne (tgt := 55) X (xdec_at tX5_redirect_0 26 rfl) (by decide) (fun c_46 => ?_) (fun c_46 => ?_)
        · refine v_aload_n X (xdec_at tX5_redirect_0 31 rfl) rfl rfl ?_
          refine v_iload_n X (xdec_at tX5_redirect_0 32 rfl) rfl rfl ?_
          refine v_st (st' := [.int (nI (ix t)), .ref (lay (100, 0))]) (by rw [in_eq (hI.T (by assumption)) (by decide)] <;> rfl) ?_
          refine v_callV X myX5_isUnderWay [.int (nI (ix t))] [] (c_isUnderWay l Z B0 lay ((up2 μ.1 38 0 0), μ.2) r (ix t) (in_ix (hI.T (by assumption)))) (xw_at tW_20 3 rfl) (100, 0) cM_0 rfl rfl rfl rfl (by rfl) (Nat.le_of_ble_eq_true rfl) (xdec_at tX5_redirect_0 33 rfl) ⟨(Nat.le_of_ble_eq_true rfl), (Nat.le_of_ble_eq_true rfl)⟩ ⟨(Nat.le_of_ble_eq_true rfl), (Nat.le_of_ble_eq_true rfl)⟩ ?_
          rintro v9 lay9 C9 ⟨rfl, rfl, ⟨rfl, q_57⟩ | ⟨rfl, q_57⟩⟩
          · have q_57 : undW μ (ix t) := q_57
            refine v_if_eq (tgt := 72) X (xdec_at tX5_redirect_0 34 rfl) (by decide) (fun h9 => absurd h9 (by decide)) (fun _ => ?_)
            refine v_aload_n X (xdec_at tX5_redirect_0 35 rfl) rfl rfl ?_
            refine r_A X 27 (by decide) rfl rfl (xdec_at tX5_redirect_0 36 rfl) ?_
            refine v_iload_n X (xdec_at tX5_redirect_0 37 rfl) rfl rfl ?_
            refine r_Z (v := (μ.1 27 (ix t))) X 27 (by decide) rfl rfl (hI.T (by assumption)) (xdec_at tX5_redirect_0 38 rfl) rfl ?_
            refine v_if_eq (tgt := 78) X (xdec_at tX5_redirect_0 39 rfl) (by decide) (fun c_69 => ?_) (fun c_69 => ?_)
            · refine v_aload_n X (xdec_at tX5_redirect_1 4 rfl) rfl rfl ?_
              refine r_A X 19 (by decide) rfl rfl (xdec_at tX5_redirect_1 5 rfl) ?_
              refine v_iload_n X (xdec_at tX5_redirect_1 6 rfl) rfl rfl ?_
              refine r_I (v := (μ.1 19 (ix t))) X 19 (by decide) rfl rfl (hI.T (by assumption)) (xdec_at tX5_redirect_1 7 rfl) rfl ?_
              refine v_istore_n (lv' := [some (.ref (lay (100, 0))), some (.int t), some (.int b), some (.int (μ.1 19 (ix t)))]) X (xdec_at tX5_redirect_1 8 rfl) rfl (by decide) rfl ?_
              refine v_aload_n X (xdec_at tX5_redirect_1 9 rfl) rfl rfl ?_
              refine r_A X 19 (by decide) rfl rfl (xdec_at tX5_redirect_1 10 rfl) ?_
              refine v_iload_n X (xdec_at tX5_redirect_1 11 rfl) rfl rfl ?_
              refine v_iload_n X (xdec_at tX5_redirect_1 12 rfl) rfl rfl ?_
              refine r_PI X 19 (by decide) rfl rfl (hI.T (by assumption)) (xdec_at tX5_redirect_1 13 rfl) ?_
              refine v_iload_n X (xdec_at tX5_redirect_1 14 rfl) rfl rfl ?_
              have e9 : M_redirect μ t b = ((μ.1 19 (ix t)), ((up2 (up2 μ.1 38 0 0) 19 (ix t) b), μ.2)) := by simp [M_redirect, up2_at, (eq_true q_3), (eq_true q_11), (eq_true c_36), c_46, (eq_true q_57), (eq_true c_69)]
              exact v_iret X hr (xdec_at tX5_redirect_1 15 rfl) (Nat.le_of_ble_eq_true rfl) (Nat.le_of_ble_eq_true rfl) ⟨rfl, by rw [e9], by rw [e9]⟩
            · refine v_aload_n X (xdec_at tX5_redirect_1 0 rfl) rfl rfl ?_
              refine v_iconst (v := 3) X (xdec_at tX5_redirect_1 1 rfl) (by decide) ?_
              refine v_callV X myX5_fails [.int 3] [] (c_fails l Z B0 lay ((up2 μ.1 38 0 0), μ.2) r 3) (xw_at tW_18 11 rfl) (100, 0) cM_0 rfl rfl rfl rfl (by rfl) (Nat.le_of_ble_eq_true rfl) (xdec_at tX5_redirect_1 2 rfl) ⟨(Nat.le_of_ble_eq_true rfl), (Nat.le_of_ble_eq_true rfl)⟩ ⟨(Nat.le_of_ble_eq_true rfl), (Nat.le_of_ble_eq_true rfl)⟩ ?_
              rintro v9 lay9 C9 ⟨rfl, rfl, rfl⟩
              have e9 : M_redirect μ t b = (0, ((up2 (up2 μ.1 38 0 0) 38 0 3), μ.2)) := by simp [M_redirect, up2_at, (eq_true q_3), (eq_true q_11), (eq_true c_36), c_46, (eq_true q_57), c_69]
              exact v_iret X hr (xdec_at tX5_redirect_1 3 rfl) (Nat.le_of_ble_eq_true rfl) (Nat.le_of_ble_eq_true rfl) ⟨rfl, by rw [e9], by rw [e9]⟩
          · have q_57 : ¬ undW μ (ix t) := q_57
            refine v_if_eq (tgt := 72) X (xdec_at tX5_redirect_0 34 rfl) (by decide) (fun _ => ?_) (fun h9 => absurd h9 (by decide))
            refine v_aload_n X (xdec_at tX5_redirect_1 0 rfl) rfl rfl ?_
            refine v_iconst (v := 3) X (xdec_at tX5_redirect_1 1 rfl) (by decide) ?_
            refine v_callV X myX5_fails [.int 3] [] (c_fails l Z B0 lay ((up2 μ.1 38 0 0), μ.2) r 3) (xw_at tW_18 11 rfl) (100, 0) cM_0 rfl rfl rfl rfl (by rfl) (Nat.le_of_ble_eq_true rfl) (xdec_at tX5_redirect_1 2 rfl) ⟨(Nat.le_of_ble_eq_true rfl), (Nat.le_of_ble_eq_true rfl)⟩ ⟨(Nat.le_of_ble_eq_true rfl), (Nat.le_of_ble_eq_true rfl)⟩ ?_
            rintro v9 lay9 C9 ⟨rfl, rfl, rfl⟩
            have e9 : M_redirect μ t b = (0, ((up2 (up2 μ.1 38 0 0) 38 0 3), μ.2)) := by simp [M_redirect, up2_at, (eq_true q_3), (eq_true q_11), (eq_true c_36), c_46, q_57]
            exact v_iret X hr (xdec_at tX5_redirect_1 3 rfl) (Nat.le_of_ble_eq_true rfl) (Nat.le_of_ble_eq_true rfl) ⟨rfl, by rw [e9], by rw [e9]⟩
        · refine v_aload_n X (xdec_at tX5_redirect_0 27 rfl) rfl rfl ?_
          refine v_iconst (v := 2) X (xdec_at tX5_redirect_0 28 rfl) (by decide) ?_
          refine v_callV X myX5_fails [.int 2] [] (c_fails l Z B0 lay ((up2 μ.1 38 0 0), μ.2) r 2) (xw_at tW_18 11 rfl) (100, 0) cM_0 rfl rfl rfl rfl (by rfl) (Nat.le_of_ble_eq_true rfl) (xdec_at tX5_redirect_0 29 rfl) ⟨(Nat.le_of_ble_eq_true rfl), (Nat.le_of_ble_eq_true rfl)⟩ ⟨(Nat.le_of_ble_eq_true rfl), (Nat.le_of_ble_eq_true rfl)⟩ ?_
          rintro v9 lay9 C9 ⟨rfl, rfl, rfl⟩
          have e9 : M_redirect μ t b = (0, ((up2 (up2 μ.1 38 0 0) 38 0 2), μ.2)) := by simp [M_redirect, up2_at, (eq_true q_3), (eq_true q_11), (eq_true c_36), (eq_true c_46)]
          exact v_iret X hr (xdec_at tX5_redirect_0 30 rfl) (Nat.le_of_ble_eq_true rfl) (Nat.le_of_ble_eq_true rfl) ⟨rfl, by rw [e9], by rw [e9]⟩
    · refine v_if_eq (tgt := 21) X (xdec_at tX5_redirect_0 8 rfl) (by decide) (fun _ => ?_) (fun h9 => absurd h9 (by decide))
      refine v_iconst (v := 0) X (xdec_at tX5_redirect_0 11 rfl) (by decide) ?_
      refine v_callV X myX5_asks [.int 0] [] (c_asks0 l Z B0 lay μ r) (xw_at tW_17 31 rfl) (100, 0) cM_0 rfl rfl rfl rfl (by rfl) (Nat.le_of_ble_eq_true rfl) (xdec_at tX5_redirect_0 12 rfl) ⟨(Nat.le_of_ble_eq_true rfl), (Nat.le_of_ble_eq_true rfl)⟩ ⟨(Nat.le_of_ble_eq_true rfl), (Nat.le_of_ble_eq_true rfl)⟩ ?_
      rintro v9 lay9 C9 ⟨rfl, rfl, rfl⟩
      refine v_if_ne (tgt := 30) X (xdec_at tX5_redirect_0 13 rfl) (by decide) (fun h9 => absurd h9 (by decide)) (fun _ => ?_)
      refine v_iconst (v := 0) X (xdec_at tX5_redirect_0 14 rfl) (by decide) ?_
      have e9 : M_redirect μ t b = (0, ((up2 μ.1 38 0 1), μ.2)) := by simp [M_redirect, up2_at, (eq_true q_3), q_11]
      exact v_iret X hr (xdec_at tX5_redirect_0 15 rfl) (Nat.le_of_ble_eq_true rfl) (Nat.le_of_ble_eq_true rfl) ⟨rfl, by rw [e9], by rw [e9]⟩
  · refine v_if_eq (tgt := 21) X (xdec_at tX5_redirect_0 4 rfl) (by decide) (fun _ => ?_) (fun h9 => absurd h9 (by decide))
    refine v_iconst (v := 0) X (xdec_at tX5_redirect_0 11 rfl) (by decide) ?_
    refine v_callV X myX5_asks [.int 0] [] (c_asks0 l Z B0 lay μ r) (xw_at tW_17 31 rfl) (100, 0) cM_0 rfl rfl rfl rfl (by rfl) (Nat.le_of_ble_eq_true rfl) (xdec_at tX5_redirect_0 12 rfl) ⟨(Nat.le_of_ble_eq_true rfl), (Nat.le_of_ble_eq_true rfl)⟩ ⟨(Nat.le_of_ble_eq_true rfl), (Nat.le_of_ble_eq_true rfl)⟩ ?_
    rintro v9 lay9 C9 ⟨rfl, rfl, rfl⟩
    refine v_if_ne (tgt := 30) X (xdec_at tX5_redirect_0 13 rfl) (by decide) (fun h9 => absurd h9 (by decide)) (fun _ => ?_)
    refine v_iconst (v := 0) X (xdec_at tX5_redirect_0 14 rfl) (by decide) ?_
    have e9 : M_redirect μ t b = (0, ((up2 μ.1 38 0 1), μ.2)) := by simp [M_redirect, up2_at, q_3]
    exact v_iret X hr (xdec_at tX5_redirect_0 15 rfl) (Nat.le_of_ble_eq_true rfl) (Nat.le_of_ble_eq_true rfl) ⟨rfl, by rw [e9], by rw [e9]⟩
set_option maxRecDepth 100000 in
set_option maxHeartbeats 4000000 in
theorem c_refuse (l : Launch) (Z : xZ) (B0 : Nat) (lay : xK → Nat) (μ : Mu) (r : xK → Option xE) (t k : Int32) (hI : RI μ) (hk : k = 0 ∨ k = 1) : YM l yX5_refuse cX5_refuse 4 ((some FieldType.boolean)) 2 43 0 0 Z B0 [.ref (lay (100, 0)), .int t, .int k] lay (cM Z lay μ r) (fun v lay' C' => lay = lay' ∧ v = some (.int (M_refuse μ t k).1) ∧ C' = cM Z lay (M_refuse μ t k).2 r) := by
  refine YM_of myX5_refuse.2.2 RX5 rfl [some (.ref (lay (100, 0))), some (.int t), some (.int k), none] rfl (Nat.le_of_ble_eq_true rfl) ?_
  intro P1 P2 P3 P4 P5 P6 P7 P8 X hr hnm
  refine v_aload_n X (xdec_at tX5_refuse_0 0 rfl) rfl rfl ?_
  refine v_aload_n X (xdec_at tX5_refuse_0 1 rfl) rfl rfl ?_
  refine v_iload_n X (xdec_at tX5_refuse_0 2 rfl) rfl rfl ?_
  refine v_callV X myX5_isThing [.int t] [.ref (lay (100, 0))] (c_isThing l Z B0 lay μ r t) (xw_at tW_20 0 rfl) (100, 0) cM_0 rfl rfl rfl rfl (by rfl) (Nat.le_of_ble_eq_true rfl) (xdec_at tX5_refuse_0 3 rfl) ⟨(Nat.le_of_ble_eq_true rfl), (Nat.le_of_ble_eq_true rfl)⟩ ⟨(Nat.le_of_ble_eq_true rfl), (Nat.le_of_ble_eq_true rfl)⟩ ?_
  rintro v9 lay9 C9 ⟨rfl, rfl, ⟨rfl, q_3⟩ | ⟨rfl, q_3⟩⟩
  · refine v_callV X myX5_asks [.int 1] [] (c_asks1 l Z B0 lay μ r) (xw_at tW_17 31 rfl) (100, 0) cM_0 rfl rfl rfl rfl (by rfl) (Nat.le_of_ble_eq_true rfl) (xdec_at tX5_refuse_0 4 rfl) ⟨(Nat.le_of_ble_eq_true rfl), (Nat.le_of_ble_eq_true rfl)⟩ ⟨(Nat.le_of_ble_eq_true rfl), (Nat.le_of_ble_eq_true rfl)⟩ ?_
    rintro v9 lay9 C9 ⟨rfl, rfl, rfl⟩
    refine v_if_ne (tgt := 14) X (xdec_at tX5_refuse_0 5 rfl) (by decide) (fun _ => ?_) (fun h9 => absurd h9 (by decide))
    refine v_aload_n X (xdec_at tX5_refuse_0 8 rfl) rfl rfl ?_
    refine v_iload_n X (xdec_at tX5_refuse_0 9 rfl) rfl rfl ?_
    refine v_st (st' := [.int (nI (ix t)), .ref (lay (100, 0))]) (by rw [in_eq (hI.T (by assumption)) (by decide)] <;> rfl) ?_
    refine v_callV X myX5_isUnderWay [.int (nI (ix t))] [] (c_isUnderWay l Z B0 lay ((up2 μ.1 38 0 0), μ.2) r (ix t) (in_ix (hI.T (by assumption)))) (xw_at tW_20 3 rfl) (100, 0) cM_0 rfl rfl rfl rfl (by rfl) (Nat.le_of_ble_eq_true rfl) (xdec_at tX5_refuse_0 10 rfl) ⟨(Nat.le_of_ble_eq_true rfl), (Nat.le_of_ble_eq_true rfl)⟩ ⟨(Nat.le_of_ble_eq_true rfl), (Nat.le_of_ble_eq_true rfl)⟩ ?_
    rintro v9 lay9 C9 ⟨rfl, rfl, ⟨rfl, q_16⟩ | ⟨rfl, q_16⟩⟩
    · have q_16 : undW μ (ix t) := q_16
      refine v_if_eq (tgt := 31) X (xdec_at tX5_refuse_0 11 rfl) (by decide) (fun h9 => absurd h9 (by decide)) (fun _ => ?_)
      refine v_aload_n X (xdec_at tX5_refuse_0 12 rfl) rfl rfl ?_
      refine r_A X 27 (by decide) rfl rfl (xdec_at tX5_refuse_0 13 rfl) ?_
      refine v_iload_n X (xdec_at tX5_refuse_0 14 rfl) rfl rfl ?_
      refine r_Z (v := (μ.1 27 (ix t))) X 27 (by decide) rfl rfl (hI.T (by assumption)) (xdec_at tX5_refuse_0 15 rfl) rfl ?_
      refine v_if_eq (tgt := 38) X (xdec_at tX5_refuse_0 16 rfl) (by decide) (fun c_28 => ?_) (fun c_28 => ?_)
      · refine v_aload_n X (xdec_at tX5_refuse_0 22 rfl) rfl rfl ?_
        refine r_A X 28 (by decide) rfl rfl (xdec_at tX5_refuse_0 23 rfl) ?_
        refine v_iload_n X (xdec_at tX5_refuse_0 24 rfl) rfl rfl ?_
        refine r_Z (v := (μ.1 28 (ix t))) X 28 (by decide) rfl rfl (hI.T (by assumption)) (xdec_at tX5_refuse_0 25 rfl) rfl ?_
        refine v_istore_n (lv' := [some (.ref (lay (100, 0))), some (.int t), some (.int k), some (.int (μ.1 28 (ix t)))]) X (xdec_at tX5_refuse_0 26 rfl) rfl (by decide) rfl ?_
        refine v_aload_n X (xdec_at tX5_refuse_0 27 rfl) rfl rfl ?_
        refine r_A X 28 (by decide) rfl rfl (xdec_at tX5_refuse_0 28 rfl) ?_
        refine v_iload_n X (xdec_at tX5_refuse_0 29 rfl) rfl rfl ?_
        refine v_iload_n X (xdec_at tX5_refuse_0 30 rfl) rfl rfl ?_
        refine r_PZ X 28 (by decide) rfl rfl hk (hI.T (by assumption)) (xdec_at tX5_refuse_0 31 rfl) ?_
        refine v_iload_n X (xdec_at tX5_refuse_0 32 rfl) rfl rfl ?_
        have e9 : M_refuse μ t k = ((μ.1 28 (ix t)), ((up2 (up2 μ.1 38 0 0) 28 (ix t) k), μ.2)) := by simp [M_refuse, up2_at, (eq_true q_3), (eq_true q_16), (eq_true c_28)]
        exact v_zret X hr (xdec_at tX5_refuse_0 33 rfl) (Nat.le_of_ble_eq_true rfl) (Nat.le_of_ble_eq_true rfl) (hI.B (by decide)) ⟨rfl, by rw [e9], by rw [e9]⟩
      · refine v_aload_n X (xdec_at tX5_refuse_0 17 rfl) rfl rfl ?_
        refine v_iconst (v := 2) X (xdec_at tX5_refuse_0 18 rfl) (by decide) ?_
        refine r_PS X 38 (by decide) rfl (by decide) rfl (xdec_at tX5_refuse_0 19 rfl) ?_
        refine v_iconst (v := 0) X (xdec_at tX5_refuse_0 20 rfl) (by decide) ?_
        have e9 : M_refuse μ t k = (0, ((up2 (up2 μ.1 38 0 0) 38 0 2), μ.2)) := by simp [M_refuse, up2_at, (eq_true q_3), (eq_true q_16), c_28]
        exact v_zret X hr (xdec_at tX5_refuse_0 21 rfl) (Nat.le_of_ble_eq_true rfl) (Nat.le_of_ble_eq_true rfl) (by rfl) ⟨rfl, by rw [e9], by rw [e9]⟩
    · have q_16 : ¬ undW μ (ix t) := q_16
      refine v_if_eq (tgt := 31) X (xdec_at tX5_refuse_0 11 rfl) (by decide) (fun _ => ?_) (fun h9 => absurd h9 (by decide))
      refine v_aload_n X (xdec_at tX5_refuse_0 17 rfl) rfl rfl ?_
      refine v_iconst (v := 2) X (xdec_at tX5_refuse_0 18 rfl) (by decide) ?_
      refine r_PS X 38 (by decide) rfl (by decide) rfl (xdec_at tX5_refuse_0 19 rfl) ?_
      refine v_iconst (v := 0) X (xdec_at tX5_refuse_0 20 rfl) (by decide) ?_
      have e9 : M_refuse μ t k = (0, ((up2 (up2 μ.1 38 0 0) 38 0 2), μ.2)) := by simp [M_refuse, up2_at, (eq_true q_3), q_16]
      exact v_zret X hr (xdec_at tX5_refuse_0 21 rfl) (Nat.le_of_ble_eq_true rfl) (Nat.le_of_ble_eq_true rfl) (by rfl) ⟨rfl, by rw [e9], by rw [e9]⟩
  · refine v_callV X myX5_asks [.int 0] [] (c_asks0 l Z B0 lay μ r) (xw_at tW_17 31 rfl) (100, 0) cM_0 rfl rfl rfl rfl (by rfl) (Nat.le_of_ble_eq_true rfl) (xdec_at tX5_refuse_0 4 rfl) ⟨(Nat.le_of_ble_eq_true rfl), (Nat.le_of_ble_eq_true rfl)⟩ ⟨(Nat.le_of_ble_eq_true rfl), (Nat.le_of_ble_eq_true rfl)⟩ ?_
    rintro v9 lay9 C9 ⟨rfl, rfl, rfl⟩
    refine v_if_ne (tgt := 14) X (xdec_at tX5_refuse_0 5 rfl) (by decide) (fun h9 => absurd h9 (by decide)) (fun _ => ?_)
    refine v_iconst (v := 0) X (xdec_at tX5_refuse_0 6 rfl) (by decide) ?_
    have e9 : M_refuse μ t k = (0, ((up2 μ.1 38 0 1), μ.2)) := by simp [M_refuse, up2_at, q_3]
    exact v_zret X hr (xdec_at tX5_refuse_0 7 rfl) (Nat.le_of_ble_eq_true rfl) (Nat.le_of_ble_eq_true rfl) (by rfl) ⟨rfl, by rw [e9], by rw [e9]⟩
set_option maxRecDepth 100000 in
set_option maxHeartbeats 4000000 in
theorem c_lose (l : Launch) (Z : xZ) (B0 : Nat) (lay : xK → Nat) (μ : Mu) (r : xK → Option xE) (t : Int32) (hI : RI μ) : YM l yX5_lose cX5_lose 2 ((some FieldType.int)) 2 43 0 0 Z B0 [.ref (lay (100, 0)), .int t] lay (cM Z lay μ r) (fun v lay' C' => lay = lay' ∧ v = some (.int (M_lose μ t).1) ∧ C' = cM Z lay (M_lose μ t).2 r) := by
  refine YM_of myX5_lose.2.2 RX5 rfl [some (.ref (lay (100, 0))), some (.int t)] rfl (Nat.le_of_ble_eq_true rfl) ?_
  intro P1 P2 P3 P4 P5 P6 P7 P8 X hr hnm
  refine v_aload_n X (xdec_at tX5_lose_0 0 rfl) rfl rfl ?_
  refine v_aload_n X (xdec_at tX5_lose_0 1 rfl) rfl rfl ?_
  refine v_iload_n X (xdec_at tX5_lose_0 2 rfl) rfl rfl ?_
  refine v_callV X myX5_isThing [.int t] [.ref (lay (100, 0))] (c_isThing l Z B0 lay μ r t) (xw_at tW_20 0 rfl) (100, 0) cM_0 rfl rfl rfl rfl (by rfl) (Nat.le_of_ble_eq_true rfl) (xdec_at tX5_lose_0 3 rfl) ⟨(Nat.le_of_ble_eq_true rfl), (Nat.le_of_ble_eq_true rfl)⟩ ⟨(Nat.le_of_ble_eq_true rfl), (Nat.le_of_ble_eq_true rfl)⟩ ?_
  rintro v9 lay9 C9 ⟨rfl, rfl, ⟨rfl, q_3⟩ | ⟨rfl, q_3⟩⟩
  · refine v_callV X myX5_asks [.int 1] [] (c_asks1 l Z B0 lay μ r) (xw_at tW_17 31 rfl) (100, 0) cM_0 rfl rfl rfl rfl (by rfl) (Nat.le_of_ble_eq_true rfl) (xdec_at tX5_lose_0 4 rfl) ⟨(Nat.le_of_ble_eq_true rfl), (Nat.le_of_ble_eq_true rfl)⟩ ⟨(Nat.le_of_ble_eq_true rfl), (Nat.le_of_ble_eq_true rfl)⟩ ?_
    rintro v9 lay9 C9 ⟨rfl, rfl, rfl⟩
    refine v_if_ne (tgt := 14) X (xdec_at tX5_lose_0 5 rfl) (by decide) (fun _ => ?_) (fun h9 => absurd h9 (by decide))
    refine v_aload_n X (xdec_at tX5_lose_0 8 rfl) rfl rfl ?_
    refine v_iload_n X (xdec_at tX5_lose_0 9 rfl) rfl rfl ?_
    refine v_st (st' := [.int (nI (ix t)), .ref (lay (100, 0))]) (by rw [in_eq (hI.T (by assumption)) (by decide)] <;> rfl) ?_
    refine v_callV X myX5_isUnderWay [.int (nI (ix t))] [] (c_isUnderWay l Z B0 lay ((up2 μ.1 38 0 0), μ.2) r (ix t) (in_ix (hI.T (by assumption)))) (xw_at tW_20 3 rfl) (100, 0) cM_0 rfl rfl rfl rfl (by rfl) (Nat.le_of_ble_eq_true rfl) (xdec_at tX5_lose_0 10 rfl) ⟨(Nat.le_of_ble_eq_true rfl), (Nat.le_of_ble_eq_true rfl)⟩ ⟨(Nat.le_of_ble_eq_true rfl), (Nat.le_of_ble_eq_true rfl)⟩ ?_
    rintro v9 lay9 C9 ⟨rfl, rfl, ⟨rfl, q_16⟩ | ⟨rfl, q_16⟩⟩
    · have q_16 : undW μ (ix t) := q_16
      refine v_if_ne (tgt := 28) X (xdec_at tX5_lose_0 11 rfl) (by decide) (fun _ => ?_) (fun h9 => absurd h9 (by decide))
      refine v_aload_n X (xdec_at tX5_lose_0 16 rfl) rfl rfl ?_
      refine r_A X 23 (by decide) rfl rfl (xdec_at tX5_lose_0 17 rfl) ?_
      refine v_iload_n X (xdec_at tX5_lose_0 18 rfl) rfl rfl ?_
      refine v_iconst (v := 3) X (xdec_at tX5_lose_0 19 rfl) (by decide) ?_
      refine r_PI X 23 (by decide) rfl rfl (hI.T (by assumption)) (xdec_at tX5_lose_0 20 rfl) ?_
      refine v_aload_n X (xdec_at tX5_lose_0 21 rfl) rfl rfl ?_
      refine r_A X 26 (by decide) rfl rfl (xdec_at tX5_lose_0 22 rfl) ?_
      refine v_iload_n X (xdec_at tX5_lose_0 23 rfl) rfl rfl ?_
      refine v_iconst (v := 0) X (xdec_at tX5_lose_0 24 rfl) (by decide) ?_
      refine r_PI X 26 (by decide) rfl rfl (hI.T (by assumption)) (xdec_at tX5_lose_0 25 rfl) ?_
      refine v_aload_n X (xdec_at tX5_lose_0 26 rfl) rfl rfl ?_
      refine r_A X 35 (by decide) rfl rfl (xdec_at tX5_lose_0 27 rfl) ?_
      refine v_iload_n X (xdec_at tX5_lose_0 28 rfl) rfl rfl ?_
      refine r_I (v := (μ.1 35 (ix t))) X 35 (by decide) rfl rfl (hI.T (by assumption)) (xdec_at tX5_lose_0 29 rfl) rfl ?_
      refine v_if_ne (tgt := 55) X (xdec_at tX5_lose_0 30 rfl) (by decide) (fun c_48 => ?_) (fun c_48 => ?_)
      · refine v_aload_n X (xdec_at tX5_lose_0 33 rfl) rfl rfl ?_
        refine r_A X 31 (by decide) rfl rfl (xdec_at tX5_lose_0 34 rfl) ?_
        refine v_aload_n X (xdec_at tX5_lose_0 35 rfl) rfl rfl ?_
        refine r_A X 34 (by decide) rfl rfl (xdec_at tX5_lose_0 36 rfl) ?_
        refine v_iload_n X (xdec_at tX5_lose_0 37 rfl) rfl rfl ?_
        refine r_I (v := (μ.1 34 (ix t))) X 34 (by decide) rfl rfl (hI.T (by assumption)) (xdec_at tX5_lose_0 38 rfl) rfl ?_
        refine r_I (v := (μ.1 31 (ix (μ.1 34 (ix t))))) X 31 (by decide) rfl rfl (hI.lh (in_ix (hI.T (by assumption)))) (xdec_at tX5_lose_0 39 rfl) rfl ?_
        have e9 : M_lose μ t = ((μ.1 31 (ix (μ.1 34 (ix t)))), ((up2 (up2 (up2 μ.1 38 0 0) 23 (ix t) 3) 26 (ix t) 0), μ.2)) := by simp [M_lose, up2_at, (eq_true q_3), (eq_true q_16), c_48]
        exact v_iret X hr (xdec_at tX5_lose_1 0 rfl) (Nat.le_of_ble_eq_true rfl) (Nat.le_of_ble_eq_true rfl) ⟨rfl, by rw [e9], by rw [e9]⟩
      · refine v_iconst (v := (-1)) X (xdec_at tX5_lose_0 31 rfl) (by decide) ?_
        refine v_goto (tgt := 66) X (xdec_at tX5_lose_0 32 rfl) (by decide) ?_
        have e9 : M_lose μ t = ((-1), ((up2 (up2 (up2 μ.1 38 0 0) 23 (ix t) 3) 26 (ix t) 0), μ.2)) := by simp [M_lose, up2_at, (eq_true q_3), (eq_true q_16), (eq_true c_48)]
        exact v_iret X hr (xdec_at tX5_lose_1 0 rfl) (Nat.le_of_ble_eq_true rfl) (Nat.le_of_ble_eq_true rfl) ⟨rfl, by rw [e9], by rw [e9]⟩
    · have q_16 : ¬ undW μ (ix t) := q_16
      refine v_if_ne (tgt := 28) X (xdec_at tX5_lose_0 11 rfl) (by decide) (fun h9 => absurd h9 (by decide)) (fun _ => ?_)
      refine v_aload_n X (xdec_at tX5_lose_0 12 rfl) rfl rfl ?_
      refine v_iconst (v := 2) X (xdec_at tX5_lose_0 13 rfl) (by decide) ?_
      refine v_callV X myX5_fails [.int 2] [] (c_fails l Z B0 lay ((up2 μ.1 38 0 0), μ.2) r 2) (xw_at tW_18 11 rfl) (100, 0) cM_0 rfl rfl rfl rfl (by rfl) (Nat.le_of_ble_eq_true rfl) (xdec_at tX5_lose_0 14 rfl) ⟨(Nat.le_of_ble_eq_true rfl), (Nat.le_of_ble_eq_true rfl)⟩ ⟨(Nat.le_of_ble_eq_true rfl), (Nat.le_of_ble_eq_true rfl)⟩ ?_
      rintro v9 lay9 C9 ⟨rfl, rfl, rfl⟩
      have e9 : M_lose μ t = (0, ((up2 (up2 μ.1 38 0 0) 38 0 2), μ.2)) := by simp [M_lose, up2_at, (eq_true q_3), q_16]
      exact v_iret X hr (xdec_at tX5_lose_0 15 rfl) (Nat.le_of_ble_eq_true rfl) (Nat.le_of_ble_eq_true rfl) ⟨rfl, by rw [e9], by rw [e9]⟩
  · refine v_callV X myX5_asks [.int 0] [] (c_asks0 l Z B0 lay μ r) (xw_at tW_17 31 rfl) (100, 0) cM_0 rfl rfl rfl rfl (by rfl) (Nat.le_of_ble_eq_true rfl) (xdec_at tX5_lose_0 4 rfl) ⟨(Nat.le_of_ble_eq_true rfl), (Nat.le_of_ble_eq_true rfl)⟩ ⟨(Nat.le_of_ble_eq_true rfl), (Nat.le_of_ble_eq_true rfl)⟩ ?_
    rintro v9 lay9 C9 ⟨rfl, rfl, rfl⟩
    refine v_if_ne (tgt := 14) X (xdec_at tX5_lose_0 5 rfl) (by decide) (fun h9 => absurd h9 (by decide)) (fun _ => ?_)
    refine v_iconst (v := 0) X (xdec_at tX5_lose_0 6 rfl) (by decide) ?_
    have e9 : M_lose μ t = (0, ((up2 μ.1 38 0 1), μ.2)) := by simp [M_lose, up2_at, q_3]
    exact v_iret X hr (xdec_at tX5_lose_0 7 rfl) (Nat.le_of_ble_eq_true rfl) (Nat.le_of_ble_eq_true rfl) ⟨rfl, by rw [e9], by rw [e9]⟩
set_option maxRecDepth 100000 in
set_option maxHeartbeats 4000000 in
theorem c_rate (l : Launch) (Z : xZ) (B0 : Nat) (lay : xK → Nat) (μ : Mu) (r : xK → Option xE) (k p g b : Int32) (hI : RI μ) : YM l yX5_rate cX5_rate 5 ((some FieldType.int)) 2 43 0 0 Z B0 [.ref (lay (100, 0)), .int k, .int p, .int g, .int b] lay (cM Z lay μ r) (fun v lay' C' => lay = lay' ∧ v = some (.int (M_rate μ k p g b).1) ∧ C' = cM Z lay (M_rate μ k p g b).2 r) := by
  refine YM_of myX5_rate.2.2 RX5 rfl [some (.ref (lay (100, 0))), some (.int k), some (.int p), some (.int g), some (.int b)] rfl (Nat.le_of_ble_eq_true rfl) ?_
  intro P1 P2 P3 P4 P5 P6 P7 P8 X hr hnm
  refine v_aload_n X (xdec_at tX5_rate_0 0 rfl) rfl rfl ?_
  refine v_aload_n X (xdec_at tX5_rate_0 1 rfl) rfl rfl ?_
  refine v_iload_n X (xdec_at tX5_rate_0 2 rfl) rfl rfl ?_
  refine v_callV X myX5_isPost [.int p] [.ref (lay (100, 0))] (c_isPost l Z B0 lay μ r p) (xw_at tW_17 38 rfl) (100, 0) cM_0 rfl rfl rfl rfl (by rfl) (Nat.le_of_ble_eq_true rfl) (xdec_at tX5_rate_0 3 rfl) ⟨(Nat.le_of_ble_eq_true rfl), (Nat.le_of_ble_eq_true rfl)⟩ ⟨(Nat.le_of_ble_eq_true rfl), (Nat.le_of_ble_eq_true rfl)⟩ ?_
  rintro v9 lay9 C9 ⟨rfl, rfl, ⟨rfl, q_3⟩ | ⟨rfl, q_3⟩⟩
  · refine v_callV X myX5_asks [.int 1] [] (c_asks1 l Z B0 lay μ r) (xw_at tW_17 31 rfl) (100, 0) cM_0 rfl rfl rfl rfl (by rfl) (Nat.le_of_ble_eq_true rfl) (xdec_at tX5_rate_0 4 rfl) ⟨(Nat.le_of_ble_eq_true rfl), (Nat.le_of_ble_eq_true rfl)⟩ ⟨(Nat.le_of_ble_eq_true rfl), (Nat.le_of_ble_eq_true rfl)⟩ ?_
    rintro v9 lay9 C9 ⟨rfl, rfl, rfl⟩
    refine v_if_ne (tgt := 14) X (xdec_at tX5_rate_0 5 rfl) (by decide) (fun _ => ?_) (fun h9 => absurd h9 (by decide))
    refine v_iload_n X (xdec_at tX5_rate_0 8 rfl) rfl rfl ?_
    refine v_callS X myX5_isKind [.int k] [] (c_isKind l Z B0 lay (cM Z lay ((up2 μ.1 38 0 0), μ.2) r) k) (xw_at tW_18 4 rfl) rfl rfl (by rfl) (Nat.le_of_ble_eq_true rfl) (xdec_at tX5_rate_0 9 rfl) ⟨(Nat.le_of_ble_eq_true rfl), (Nat.le_of_ble_eq_true rfl)⟩ ⟨(Nat.le_of_ble_eq_true rfl), (Nat.le_of_ble_eq_true rfl)⟩ ?_
    rintro v9 lay9 C9 ⟨rfl, rfl, ⟨rfl, q_15⟩ | ⟨rfl, q_15⟩⟩
    · refine v_if_eq (tgt := 41) X (xdec_at tX5_rate_0 10 rfl) (by decide) (fun h9 => absurd h9 (by decide)) (fun _ => ?_)
      refine v_iload_n X (xdec_at tX5_rate_0 11 rfl) rfl rfl ?_
      refine v_iload_n X (xdec_at tX5_rate_0 12 rfl) rfl rfl ?_
      refine v_callS X myX5_areGrams [.int k, .int g] [] (c_areGrams l Z B0 lay (cM Z lay ((up2 μ.1 38 0 0), μ.2) r) k g) (xw_at tW_19 26 rfl) rfl rfl (by rfl) (Nat.le_of_ble_eq_true rfl) (xdec_at tX5_rate_0 13 rfl) ⟨(Nat.le_of_ble_eq_true rfl), (Nat.le_of_ble_eq_true rfl)⟩ ⟨(Nat.le_of_ble_eq_true rfl), (Nat.le_of_ble_eq_true rfl)⟩ ?_
      rintro v9 lay9 C9 ⟨rfl, rfl, ⟨rfl, q_23⟩ | ⟨rfl, q_23⟩⟩
      · refine v_if_eq (tgt := 41) X (xdec_at tX5_rate_0 14 rfl) (by decide) (fun h9 => absurd h9 (by decide)) (fun _ => ?_)
        refine v_aload_n X (xdec_at tX5_rate_0 15 rfl) rfl rfl ?_
        refine v_iload_n X (xdec_at tX5_rate_0 16 rfl) rfl rfl ?_
        refine v_iload_n X (xdec_at tX5_rate_0 17 rfl) rfl rfl ?_
        refine v_iload_n X (xdec_at tX5_rate_0 18 rfl) rfl rfl ?_
        refine v_iload X (xdec_at tX5_rate_0 19 rfl) rfl ?_
        refine v_callV X myX5_rateOf [.int k, .int p, .int g, .int b] [] (c_rateOf l Z B0 lay ((up2 μ.1 38 0 0), μ.2) r k p g b (hI.PK (by assumption) (by assumption))) (xw_at tW_19 30 rfl) (100, 0) cM_0 rfl rfl rfl rfl (by rfl) (Nat.le_of_ble_eq_true rfl) (xdec_at tX5_rate_0 20 rfl) ⟨(Nat.le_of_ble_eq_true rfl), (Nat.le_of_ble_eq_true rfl)⟩ ⟨(Nat.le_of_ble_eq_true rfl), (Nat.le_of_ble_eq_true rfl)⟩ ?_
        rintro v9 lay9 C9 ⟨rfl, rfl, rfl⟩
        refine v_goto (tgt := 46) X (xdec_at tX5_rate_0 21 rfl) (by decide) ?_
        have e9 : M_rate μ k p g b = ((M_rateOf ((up2 μ.1 38 0 0), μ.2) k p g b), ((up2 μ.1 38 0 0), μ.2)) := by simp [M_rate, up2_at, (eq_true q_3), (eq_true q_15), (eq_true q_23), M_rateOf, up2]
        exact v_iret X hr (xdec_at tX5_rate_0 25 rfl) (Nat.le_of_ble_eq_true rfl) (Nat.le_of_ble_eq_true rfl) ⟨rfl, by rw [e9], by rw [e9]⟩
      · refine v_if_eq (tgt := 41) X (xdec_at tX5_rate_0 14 rfl) (by decide) (fun _ => ?_) (fun h9 => absurd h9 (by decide))
        refine v_aload_n X (xdec_at tX5_rate_0 22 rfl) rfl rfl ?_
        refine v_iconst (v := 2) X (xdec_at tX5_rate_0 23 rfl) (by decide) ?_
        refine v_callV X myX5_fails [.int 2] [] (c_fails l Z B0 lay ((up2 μ.1 38 0 0), μ.2) r 2) (xw_at tW_18 11 rfl) (100, 0) cM_0 rfl rfl rfl rfl (by rfl) (Nat.le_of_ble_eq_true rfl) (xdec_at tX5_rate_0 24 rfl) ⟨(Nat.le_of_ble_eq_true rfl), (Nat.le_of_ble_eq_true rfl)⟩ ⟨(Nat.le_of_ble_eq_true rfl), (Nat.le_of_ble_eq_true rfl)⟩ ?_
        rintro v9 lay9 C9 ⟨rfl, rfl, rfl⟩
        have e9 : M_rate μ k p g b = (0, ((up2 (up2 μ.1 38 0 0) 38 0 2), μ.2)) := by simp [M_rate, up2_at, (eq_true q_3), (eq_true q_15), q_23, M_rateOf, up2]
        exact v_iret X hr (xdec_at tX5_rate_0 25 rfl) (Nat.le_of_ble_eq_true rfl) (Nat.le_of_ble_eq_true rfl) ⟨rfl, by rw [e9], by rw [e9]⟩
    · refine v_if_eq (tgt := 41) X (xdec_at tX5_rate_0 10 rfl) (by decide) (fun _ => ?_) (fun h9 => absurd h9 (by decide))
      refine v_aload_n X (xdec_at tX5_rate_0 22 rfl) rfl rfl ?_
      refine v_iconst (v := 2) X (xdec_at tX5_rate_0 23 rfl) (by decide) ?_
      refine v_callV X myX5_fails [.int 2] [] (c_fails l Z B0 lay ((up2 μ.1 38 0 0), μ.2) r 2) (xw_at tW_18 11 rfl) (100, 0) cM_0 rfl rfl rfl rfl (by rfl) (Nat.le_of_ble_eq_true rfl) (xdec_at tX5_rate_0 24 rfl) ⟨(Nat.le_of_ble_eq_true rfl), (Nat.le_of_ble_eq_true rfl)⟩ ⟨(Nat.le_of_ble_eq_true rfl), (Nat.le_of_ble_eq_true rfl)⟩ ?_
      rintro v9 lay9 C9 ⟨rfl, rfl, rfl⟩
      have e9 : M_rate μ k p g b = (0, ((up2 (up2 μ.1 38 0 0) 38 0 2), μ.2)) := by simp [M_rate, up2_at, (eq_true q_3), q_15, M_rateOf, up2]
      exact v_iret X hr (xdec_at tX5_rate_0 25 rfl) (Nat.le_of_ble_eq_true rfl) (Nat.le_of_ble_eq_true rfl) ⟨rfl, by rw [e9], by rw [e9]⟩
  · refine v_callV X myX5_asks [.int 0] [] (c_asks0 l Z B0 lay μ r) (xw_at tW_17 31 rfl) (100, 0) cM_0 rfl rfl rfl rfl (by rfl) (Nat.le_of_ble_eq_true rfl) (xdec_at tX5_rate_0 4 rfl) ⟨(Nat.le_of_ble_eq_true rfl), (Nat.le_of_ble_eq_true rfl)⟩ ⟨(Nat.le_of_ble_eq_true rfl), (Nat.le_of_ble_eq_true rfl)⟩ ?_
    rintro v9 lay9 C9 ⟨rfl, rfl, rfl⟩
    refine v_if_ne (tgt := 14) X (xdec_at tX5_rate_0 5 rfl) (by decide) (fun h9 => absurd h9 (by decide)) (fun _ => ?_)
    refine v_iconst (v := 0) X (xdec_at tX5_rate_0 6 rfl) (by decide) ?_
    have e9 : M_rate μ k p g b = (0, ((up2 μ.1 38 0 1), μ.2)) := by simp [M_rate, up2_at, q_3, M_rateOf, up2]
    exact v_iret X hr (xdec_at tX5_rate_0 7 rfl) (Nat.le_of_ble_eq_true rfl) (Nat.le_of_ble_eq_true rfl) ⟨rfl, by rw [e9], by rw [e9]⟩
set_option maxRecDepth 100000 in
set_option maxHeartbeats 4000000 in
theorem c_ofThing (l : Launch) (Z : xZ) (B0 : Nat) (lay : xK → Nat) (μ : Mu) (r : xK → Option xE) (t w : Int32) (hI : RI μ) : YM l yX5_ofThing cX5_ofThing 3 ((some FieldType.long)) 2 43 0 0 Z B0 [.ref (lay (100, 0)), .int t, .int w] lay (cM Z lay μ r) (fun v lay' C' => lay = lay' ∧ v = some (.long (M_ofThing μ t w).1) ∧ C' = cM Z lay (M_ofThing μ t w).2 r) := by
  refine YM_of myX5_ofThing.2.2 RX5 rfl [some (.ref (lay (100, 0))), some (.int t), some (.int w)] rfl (Nat.le_of_ble_eq_true rfl) ?_
  intro P1 P2 P3 P4 P5 P6 P7 P8 X hr hnm
  refine v_aload_n X (xdec_at tX5_ofThing_0 0 rfl) rfl rfl ?_
  refine v_aload_n X (xdec_at tX5_ofThing_0 1 rfl) rfl rfl ?_
  refine v_iload_n X (xdec_at tX5_ofThing_0 2 rfl) rfl rfl ?_
  refine v_callV X myX5_isThing [.int t] [.ref (lay (100, 0))] (c_isThing l Z B0 lay μ r t) (xw_at tW_20 0 rfl) (100, 0) cM_0 rfl rfl rfl rfl (by rfl) (Nat.le_of_ble_eq_true rfl) (xdec_at tX5_ofThing_0 3 rfl) ⟨(Nat.le_of_ble_eq_true rfl), (Nat.le_of_ble_eq_true rfl)⟩ ⟨(Nat.le_of_ble_eq_true rfl), (Nat.le_of_ble_eq_true rfl)⟩ ?_
  rintro v9 lay9 C9 ⟨rfl, rfl, ⟨rfl, q_3⟩ | ⟨rfl, q_3⟩⟩
  · refine v_callV X myX5_asks [.int 1] [] (c_asks1 l Z B0 lay μ r) (xw_at tW_17 31 rfl) (100, 0) cM_0 rfl rfl rfl rfl (by rfl) (Nat.le_of_ble_eq_true rfl) (xdec_at tX5_ofThing_0 4 rfl) ⟨(Nat.le_of_ble_eq_true rfl), (Nat.le_of_ble_eq_true rfl)⟩ ⟨(Nat.le_of_ble_eq_true rfl), (Nat.le_of_ble_eq_true rfl)⟩ ?_
    rintro v9 lay9 C9 ⟨rfl, rfl, rfl⟩
    refine v_if_ne (tgt := 14) X (xdec_at tX5_ofThing_0 5 rfl) (by decide) (fun _ => ?_) (fun h9 => absurd h9 (by decide))
    refine v_iload_n X (xdec_at tX5_ofThing_0 8 rfl) rfl rfl ?_
    by_cases w_0 : w = 0
    · refine v_tableIn (tgt := 56) X (xdec_at tX5_ofThing_0 9 rfl) (by rw [w_0]; decide) (by rw [w_0]; decide) (by rw [w_0]; rfl) (by decide) ?_
      refine v_aload_n X (xdec_at tX5_ofThing_0 10 rfl) rfl rfl ?_
      refine r_A X 23 (by decide) rfl rfl (xdec_at tX5_ofThing_0 11 rfl) ?_
      refine v_iload_n X (xdec_at tX5_ofThing_0 12 rfl) rfl rfl ?_
      refine r_I (v := (μ.1 23 (ix t))) X 23 (by decide) rfl rfl (hI.T (by assumption)) (xdec_at tX5_ofThing_0 13 rfl) rfl ?_
      refine v_i2l X (xdec_at tX5_ofThing_0 14 rfl) rfl ?_
      have e9 : M_ofThing μ t w = (((μ.1 23 (ix t))).toInt64, ((up2 μ.1 38 0 0), μ.2)) := by simp [M_ofThing, up2_at, (eq_true q_3), w_0, M_taxOf, up2]
      exact v_lret X hr (xdec_at tX5_ofThing_0 15 rfl) (Nat.le_of_ble_eq_true rfl) (Nat.le_of_ble_eq_true rfl) ⟨rfl, by rw [e9], by rw [e9]⟩
    by_cases w_1 : w = 1
    · refine v_tableIn (tgt := 64) X (xdec_at tX5_ofThing_0 9 rfl) (by rw [w_1]; decide) (by rw [w_1]; decide) (by rw [w_1]; rfl) (by decide) ?_
      refine v_aload_n X (xdec_at tX5_ofThing_0 16 rfl) rfl rfl ?_
      refine r_A X 24 (by decide) rfl rfl (xdec_at tX5_ofThing_0 17 rfl) ?_
      refine v_iload_n X (xdec_at tX5_ofThing_0 18 rfl) rfl rfl ?_
      refine r_I (v := (μ.1 24 (ix t))) X 24 (by decide) rfl rfl (hI.T (by assumption)) (xdec_at tX5_ofThing_0 19 rfl) rfl ?_
      refine v_i2l X (xdec_at tX5_ofThing_0 20 rfl) rfl ?_
      have e9 : M_ofThing μ t w = (((μ.1 24 (ix t))).toInt64, ((up2 μ.1 38 0 0), μ.2)) := by simp [M_ofThing, up2_at, (eq_true q_3), w_0, w_1, M_taxOf, up2]
      exact v_lret X hr (xdec_at tX5_ofThing_0 21 rfl) (Nat.le_of_ble_eq_true rfl) (Nat.le_of_ble_eq_true rfl) ⟨rfl, by rw [e9], by rw [e9]⟩
    by_cases w_2 : w = 2
    · refine v_tableIn (tgt := 72) X (xdec_at tX5_ofThing_0 9 rfl) (by rw [w_2]; decide) (by rw [w_2]; decide) (by rw [w_2]; rfl) (by decide) ?_
      refine v_aload_n X (xdec_at tX5_ofThing_0 22 rfl) rfl rfl ?_
      refine r_A X 26 (by decide) rfl rfl (xdec_at tX5_ofThing_0 23 rfl) ?_
      refine v_iload_n X (xdec_at tX5_ofThing_0 24 rfl) rfl rfl ?_
      refine r_I (v := (μ.1 26 (ix t))) X 26 (by decide) rfl rfl (hI.T (by assumption)) (xdec_at tX5_ofThing_0 25 rfl) rfl ?_
      refine v_i2l X (xdec_at tX5_ofThing_0 26 rfl) rfl ?_
      have e9 : M_ofThing μ t w = (((μ.1 26 (ix t))).toInt64, ((up2 μ.1 38 0 0), μ.2)) := by simp [M_ofThing, up2_at, (eq_true q_3), w_0, w_1, w_2, M_taxOf, up2]
      exact v_lret X hr (xdec_at tX5_ofThing_0 27 rfl) (Nat.le_of_ble_eq_true rfl) (Nat.le_of_ble_eq_true rfl) ⟨rfl, by rw [e9], by rw [e9]⟩
    by_cases w_3 : w = 3
    · refine v_tableIn (tgt := 80) X (xdec_at tX5_ofThing_0 9 rfl) (by rw [w_3]; decide) (by rw [w_3]; decide) (by rw [w_3]; rfl) (by decide) ?_
      refine v_aload_n X (xdec_at tX5_ofThing_0 28 rfl) rfl rfl ?_
      refine r_A X 19 (by decide) rfl rfl (xdec_at tX5_ofThing_0 29 rfl) ?_
      refine v_iload_n X (xdec_at tX5_ofThing_0 30 rfl) rfl rfl ?_
      refine r_I (v := (μ.1 19 (ix t))) X 19 (by decide) rfl rfl (hI.T (by assumption)) (xdec_at tX5_ofThing_0 31 rfl) rfl ?_
      refine v_i2l X (xdec_at tX5_ofThing_0 32 rfl) rfl ?_
      have e9 : M_ofThing μ t w = (((μ.1 19 (ix t))).toInt64, ((up2 μ.1 38 0 0), μ.2)) := by simp [M_ofThing, up2_at, (eq_true q_3), w_0, w_1, w_2, w_3, M_taxOf, up2]
      exact v_lret X hr (xdec_at tX5_ofThing_0 33 rfl) (Nat.le_of_ble_eq_true rfl) (Nat.le_of_ble_eq_true rfl) ⟨rfl, by rw [e9], by rw [e9]⟩
    by_cases w_4 : w = 4
    · refine v_tableIn (tgt := 88) X (xdec_at tX5_ofThing_0 9 rfl) (by rw [w_4]; decide) (by rw [w_4]; decide) (by rw [w_4]; rfl) (by decide) ?_
      refine v_aload_n X (xdec_at tX5_ofThing_0 34 rfl) rfl rfl ?_
      refine v_iload_n X (xdec_at tX5_ofThing_0 35 rfl) rfl rfl ?_
      refine v_st (st' := [.int (nI (ix t)), .ref (lay (100, 0))]) (by rw [in_eq (hI.T (by assumption)) (by decide)] <;> rfl) ?_
      refine v_callV X myX5_taxOf [.int (nI (ix t))] [] (c_taxOf l Z B0 lay ((up2 μ.1 38 0 0), μ.2) r (ix t) (in_ix (hI.T (by assumption))) (hI.or (in_ix (hI.T (by assumption)))) (hI.ta (in_ix (hI.T (by assumption))))) (xw_at tW_20 20 rfl) (100, 0) cM_0 rfl rfl rfl rfl (by rfl) (Nat.le_of_ble_eq_true rfl) (xdec_at tX5_ofThing_0 36 rfl) ⟨(Nat.le_of_ble_eq_true rfl), (Nat.le_of_ble_eq_true rfl)⟩ ⟨(Nat.le_of_ble_eq_true rfl), (Nat.le_of_ble_eq_true rfl)⟩ ?_
      rintro v9 lay9 C9 ⟨rfl, rfl, rfl⟩
      have e9 : M_ofThing μ t w = ((M_taxOf ((up2 μ.1 38 0 0), μ.2) (ix t)), ((up2 μ.1 38 0 0), μ.2)) := by simp [M_ofThing, up2_at, (eq_true q_3), w_0, w_1, w_2, w_3, w_4, M_taxOf, up2]
      exact v_lret X hr (xdec_at tX5_ofThing_0 37 rfl) (Nat.le_of_ble_eq_true rfl) (Nat.le_of_ble_eq_true rfl) ⟨rfl, by rw [e9], by rw [e9]⟩
    by_cases w_5 : w = 5
    · refine v_tableIn (tgt := 94) X (xdec_at tX5_ofThing_0 9 rfl) (by rw [w_5]; decide) (by rw [w_5]; decide) (by rw [w_5]; rfl) (by decide) ?_
      refine v_aload_n X (xdec_at tX5_ofThing_0 38 rfl) rfl rfl ?_
      refine r_A X 27 (by decide) rfl rfl (xdec_at tX5_ofThing_0 39 rfl) ?_
      refine v_iload_n X (xdec_at tX5_ofThing_1 0 rfl) rfl rfl ?_
      refine r_Z (v := (μ.1 27 (ix t))) X 27 (by decide) rfl rfl (hI.T (by assumption)) (xdec_at tX5_ofThing_1 1 rfl) rfl ?_
      refine v_if_eq (tgt := 107) X (xdec_at tX5_ofThing_1 2 rfl) (by decide) (fun c_100 => ?_) (fun c_100 => ?_)
      · refine v_lconst (v := 0) X (xdec_at tX5_ofThing_1 5 rfl) (by decide) ?_
        have e9 : M_ofThing μ t w = (0, ((up2 μ.1 38 0 0), μ.2)) := by simp [M_ofThing, up2_at, (eq_true q_3), w_0, w_1, w_2, w_3, w_4, w_5, (eq_true c_100), M_taxOf, up2]
        exact v_lret X hr (xdec_at tX5_ofThing_1 6 rfl) (Nat.le_of_ble_eq_true rfl) (Nat.le_of_ble_eq_true rfl) ⟨rfl, by rw [e9], by rw [e9]⟩
      · refine v_lconst (v := 1) X (xdec_at tX5_ofThing_1 3 rfl) (by decide) ?_
        refine v_goto (tgt := 108) X (xdec_at tX5_ofThing_1 4 rfl) (by decide) ?_
        have e9 : M_ofThing μ t w = (1, ((up2 μ.1 38 0 0), μ.2)) := by simp [M_ofThing, up2_at, (eq_true q_3), w_0, w_1, w_2, w_3, w_4, w_5, c_100, M_taxOf, up2]
        exact v_lret X hr (xdec_at tX5_ofThing_1 6 rfl) (Nat.le_of_ble_eq_true rfl) (Nat.le_of_ble_eq_true rfl) ⟨rfl, by rw [e9], by rw [e9]⟩
    by_cases w_6 : w = 6
    · refine v_tableIn (tgt := 109) X (xdec_at tX5_ofThing_0 9 rfl) (by rw [w_6]; decide) (by rw [w_6]; decide) (by rw [w_6]; rfl) (by decide) ?_
      refine v_aload_n X (xdec_at tX5_ofThing_1 7 rfl) rfl rfl ?_
      refine r_A X 35 (by decide) rfl rfl (xdec_at tX5_ofThing_1 8 rfl) ?_
      refine v_iload_n X (xdec_at tX5_ofThing_1 9 rfl) rfl rfl ?_
      refine r_I (v := (μ.1 35 (ix t))) X 35 (by decide) rfl rfl (hI.T (by assumption)) (xdec_at tX5_ofThing_1 10 rfl) rfl ?_
      refine v_i2l X (xdec_at tX5_ofThing_1 11 rfl) rfl ?_
      have e9 : M_ofThing μ t w = (((μ.1 35 (ix t))).toInt64, ((up2 μ.1 38 0 0), μ.2)) := by simp [M_ofThing, up2_at, (eq_true q_3), w_0, w_1, w_2, w_3, w_4, w_5, w_6, M_taxOf, up2]
      exact v_lret X hr (xdec_at tX5_ofThing_1 12 rfl) (Nat.le_of_ble_eq_true rfl) (Nat.le_of_ble_eq_true rfl) ⟨rfl, by rw [e9], by rw [e9]⟩
    refine v_tableOut (tgt := 117) X (xdec_at tX5_ofThing_0 9 rfl) (by have h8 := tab_out_le (x := w) (k := 6) (by decide) (fun i h9 => match i, h9 with | 0, _ => w_0 | 1, _ => w_1 | 2, _ => w_2 | 3, _ => w_3 | 4, _ => w_4 | 5, _ => w_5 | 6, _ => w_6 | i + 7, h9 => absurd h9 (by omega)); simpa using h8) (by decide) ?_
    refine v_aload_n X (xdec_at tX5_ofThing_1 13 rfl) rfl rfl ?_
    refine v_iconst (v := 2) X (xdec_at tX5_ofThing_1 14 rfl) (by decide) ?_
    refine v_callV X myX5_fails [.int 2] [] (c_fails l Z B0 lay ((up2 μ.1 38 0 0), μ.2) r 2) (xw_at tW_18 11 rfl) (100, 0) cM_0 rfl rfl rfl rfl (by rfl) (Nat.le_of_ble_eq_true rfl) (xdec_at tX5_ofThing_1 15 rfl) ⟨(Nat.le_of_ble_eq_true rfl), (Nat.le_of_ble_eq_true rfl)⟩ ⟨(Nat.le_of_ble_eq_true rfl), (Nat.le_of_ble_eq_true rfl)⟩ ?_
    rintro v9 lay9 C9 ⟨rfl, rfl, rfl⟩
    refine v_i2l (v := 0) X (xdec_at tX5_ofThing_1 16 rfl) (by decide) ?_
    have e9 : M_ofThing μ t w = (0, ((up2 (up2 μ.1 38 0 0) 38 0 2), μ.2)) := by simp [M_ofThing, up2_at, (eq_true q_3), w_0, w_1, w_2, w_3, w_4, w_5, w_6, M_taxOf, up2]
    exact v_lret X hr (xdec_at tX5_ofThing_1 17 rfl) (Nat.le_of_ble_eq_true rfl) (Nat.le_of_ble_eq_true rfl) ⟨rfl, by rw [e9], by rw [e9]⟩
  · refine v_callV X myX5_asks [.int 0] [] (c_asks0 l Z B0 lay μ r) (xw_at tW_17 31 rfl) (100, 0) cM_0 rfl rfl rfl rfl (by rfl) (Nat.le_of_ble_eq_true rfl) (xdec_at tX5_ofThing_0 4 rfl) ⟨(Nat.le_of_ble_eq_true rfl), (Nat.le_of_ble_eq_true rfl)⟩ ⟨(Nat.le_of_ble_eq_true rfl), (Nat.le_of_ble_eq_true rfl)⟩ ?_
    rintro v9 lay9 C9 ⟨rfl, rfl, rfl⟩
    refine v_if_ne (tgt := 14) X (xdec_at tX5_ofThing_0 5 rfl) (by decide) (fun h9 => absurd h9 (by decide)) (fun _ => ?_)
    refine v_lconst (v := 0) X (xdec_at tX5_ofThing_0 6 rfl) (by decide) ?_
    have e9 : M_ofThing μ t w = (0, ((up2 μ.1 38 0 1), μ.2)) := by simp [M_ofThing, up2_at, q_3, M_taxOf, up2]
    exact v_lret X hr (xdec_at tX5_ofThing_0 7 rfl) (Nat.le_of_ble_eq_true rfl) (Nat.le_of_ble_eq_true rfl) ⟨rfl, by rw [e9], by rw [e9]⟩
end
section
set_option maxRecDepth 100000 in
set_option maxHeartbeats 4000000 in
theorem c_pays (l : Launch) (Z : xZ) (B0 : Nat) (lay : xK → Nat) (μ : Mu) (r : xK → Option xE) (a b : Int32) (ha : vp_in a 8) (hb : vp_in b 8) (k : Int64) : YM l yX5_pays cX5_pays 5 ((none : Option FieldType)) 0 0 0 0 Z B0 [.ref (lay (100, 0)), .int a, .int b, .long k] lay (cM Z lay μ r) (fun v lay' C' => lay = lay' ∧ v = none ∧ C' = cM Z lay (M_pays μ (ix a) (ix b) k) r) := by
  refine YM_of myX5_pays.2.2 RX5 rfl [some (.ref (lay (100, 0))), some (.int a), some (.int b), some (.long k), none] rfl (Nat.le_of_ble_eq_true rfl) ?_
  intro P1 P2 P3 P4 P5 P6 P7 P8 X hr hnm
  refine v_aload_n X (xdec_at tX5_pays_0 0 rfl) rfl rfl ?_
  refine r_A X 7 (by decide) rfl rfl (xdec_at tX5_pays_0 1 rfl) ?_
  refine v_iload_n X (xdec_at tX5_pays_0 2 rfl) rfl rfl ?_
  refine v_dup2_11 X (xdec_at tX5_pays_0 3 rfl) rfl rfl ?_
  refine r_L (v := (μ.2 7 (ix a))) X 7 (by decide) rfl rfl ha (xdec_at tX5_pays_0 4 rfl) rfl ?_
  refine v_lload_n X (xdec_at tX5_pays_0 5 rfl) rfl rfl ?_
  refine v_lsub X (xdec_at tX5_pays_0 6 rfl) ?_
  refine r_PL X 7 (by decide) rfl rfl ha (xdec_at tX5_pays_0 7 rfl) ?_
  refine v_aload_n X (xdec_at tX5_pays_0 8 rfl) rfl rfl ?_
  refine r_A X 7 (by decide) rfl rfl (xdec_at tX5_pays_0 9 rfl) ?_
  refine v_iload_n X (xdec_at tX5_pays_0 10 rfl) rfl rfl ?_
  refine v_dup2_11 X (xdec_at tX5_pays_0 11 rfl) rfl rfl ?_
  refine r_L (v := ((up2 μ.2 7 (ix a) ((μ.2 7 (ix a)) - k)) 7 (ix b))) X 7 (by decide) rfl rfl hb (xdec_at tX5_pays_0 12 rfl) rfl ?_
  refine v_lload_n X (xdec_at tX5_pays_0 13 rfl) rfl rfl ?_
  refine v_ladd X (xdec_at tX5_pays_0 14 rfl) ?_
  refine r_PL X 7 (by decide) rfl rfl hb (xdec_at tX5_pays_0 15 rfl) ?_
  exact v_vret X hr (xdec_at tX5_pays_0 16 rfl) (Nat.le_of_ble_eq_true rfl) (Nat.le_of_ble_eq_true rfl) ⟨rfl, rfl, rfl⟩
set_option maxRecDepth 100000 in
set_option maxHeartbeats 4000000 in
theorem c_signs (l : Launch) (Z : xZ) (B0 : Nat) (lay : xK → Nat) (μ : Mu) (r : xK → Option xE) (t : Nat) (ht : t < 40) (a : Int32) (hI : RI μ) : YM l yX5_signs cX5_signs 3 ((none : Option FieldType)) 0 0 0 0 Z B0 [.ref (lay (100, 0)), .int (nI t), .int a] lay (cM Z lay μ r) (fun v lay' C' => lay = lay' ∧ v = none ∧ C' = cM Z lay (M_signs μ t a) r) := by
  refine YM_of myX5_signs.2.2 RX5 rfl [some (.ref (lay (100, 0))), some (.int (nI t)), some (.int a)] rfl (Nat.le_of_ble_eq_true rfl) ?_
  intro P1 P2 P3 P4 P5 P6 P7 P8 X hr hnm
  refine v_aload_n X (xdec_at tX5_signs_0 0 rfl) rfl rfl ?_
  refine r_A X 21 (by decide) rfl rfl (xdec_at tX5_signs_0 1 rfl) ?_
  refine v_iload_n X (xdec_at tX5_signs_0 2 rfl) rfl rfl ?_
  refine r_Zn (v := (μ.1 21 t)) X 21 (by decide) rfl rfl ht (xdec_at tX5_signs_0 3 rfl) rfl ?_
  refine v_if_eq (tgt := 105) X (xdec_at tX5_signs_0 4 rfl) (by decide) (fun c_6 => ?_) (fun c_6 => ?_)
  · have e9 : M_signs μ t a = μ := by simp [M_signs, up2_at, (eq_true c_6)]
    exact v_vret X hr (xdec_at tX5_signs_1 22 rfl) (Nat.le_of_ble_eq_true rfl) (Nat.le_of_ble_eq_true rfl) ⟨rfl, rfl, by rw [e9]⟩
  · refine v_aload_n X (xdec_at tX5_signs_0 5 rfl) rfl rfl ?_
    refine r_S (v := (μ.1 30 0)) X 30 (by decide) rfl rfl (xdec_at tX5_signs_0 6 rfl) rfl ?_
    refine v_ldc (v := 80000) X (xw_at tW_15 23 rfl) (xdec_at tX5_signs_0 7 rfl) ?_
    refine v_icmp_ge (tgt := 105) X (xdec_at tX5_signs_0 8 rfl) (by decide) (fun c_15 => ?_) (fun c_15 => ?_)
    · have e9 : M_signs μ t a = μ := by simp [M_signs, up2_at, c_6, c_15]
      exact v_vret X hr (xdec_at tX5_signs_1 22 rfl) (Nat.le_of_ble_eq_true rfl) (Nat.le_of_ble_eq_true rfl) ⟨rfl, rfl, by rw [e9]⟩
    · refine v_aload_n X (xdec_at tX5_signs_0 9 rfl) rfl rfl ?_
      refine r_A X 31 (by decide) rfl rfl (xdec_at tX5_signs_0 10 rfl) ?_
      refine v_aload_n X (xdec_at tX5_signs_0 11 rfl) rfl rfl ?_
      refine r_S (v := (μ.1 30 0)) X 30 (by decide) rfl rfl (xdec_at tX5_signs_0 12 rfl) rfl ?_
      refine v_iload_n X (xdec_at tX5_signs_0 13 rfl) rfl rfl ?_
      refine r_PI X 31 (by decide) rfl rfl (hI.sg c_15) (xdec_at tX5_signs_0 14 rfl) ?_
      refine v_aload_n X (xdec_at tX5_signs_0 15 rfl) rfl rfl ?_
      refine r_A X 32 (by decide) rfl rfl (xdec_at tX5_signs_0 16 rfl) ?_
      refine v_aload_n X (xdec_at tX5_signs_0 17 rfl) rfl rfl ?_
      refine r_S (v := (μ.1 30 0)) X 30 (by decide) rfl rfl (xdec_at tX5_signs_0 18 rfl) rfl ?_
      refine v_iconst (v := (-1)) X (xdec_at tX5_signs_0 19 rfl) (by decide) ?_
      refine r_PI X 32 (by decide) rfl rfl (hI.sg c_15) (xdec_at tX5_signs_0 20 rfl) ?_
      refine v_aload_n X (xdec_at tX5_signs_0 21 rfl) rfl rfl ?_
      refine r_A X 35 (by decide) rfl rfl (xdec_at tX5_signs_0 22 rfl) ?_
      refine v_iload_n X (xdec_at tX5_signs_0 23 rfl) rfl rfl ?_
      refine r_In (v := (μ.1 35 t)) X 35 (by decide) rfl rfl ht (xdec_at tX5_signs_0 24 rfl) rfl ?_
      refine v_if_ne (tgt := 60) X (xdec_at tX5_signs_0 25 rfl) (by decide) (fun c_44 => ?_) (fun c_44 => ?_)
      · refine v_aload_n X (xdec_at tX5_signs_0 33 rfl) rfl rfl ?_
        refine r_A X 32 (by decide) rfl rfl (xdec_at tX5_signs_0 34 rfl) ?_
        refine v_aload_n X (xdec_at tX5_signs_0 35 rfl) rfl rfl ?_
        refine r_A X 34 (by decide) rfl rfl (xdec_at tX5_signs_0 36 rfl) ?_
        refine v_iload_n X (xdec_at tX5_signs_0 37 rfl) rfl rfl ?_
        refine r_In (v := (μ.1 34 t)) X 34 (by decide) rfl rfl ht (xdec_at tX5_signs_0 38 rfl) rfl ?_
        refine v_aload_n X (xdec_at tX5_signs_0 39 rfl) rfl rfl ?_
        refine r_S (v := (μ.1 30 0)) X 30 (by decide) rfl rfl (xdec_at tX5_signs_1 0 rfl) rfl ?_
        refine r_PI X 32 (by decide) rfl rfl (hI.lh ht) (xdec_at tX5_signs_1 1 rfl) ?_
        refine v_aload_n X (xdec_at tX5_signs_1 2 rfl) rfl rfl ?_
        refine r_A X 34 (by decide) rfl rfl (xdec_at tX5_signs_1 3 rfl) ?_
        refine v_iload_n X (xdec_at tX5_signs_1 4 rfl) rfl rfl ?_
        refine v_aload_n X (xdec_at tX5_signs_1 5 rfl) rfl rfl ?_
        refine r_S (v := (μ.1 30 0)) X 30 (by decide) rfl rfl (xdec_at tX5_signs_1 6 rfl) rfl ?_
        refine r_PIn X 34 (by decide) rfl rfl ht (xdec_at tX5_signs_1 7 rfl) ?_
        refine v_aload_n X (xdec_at tX5_signs_1 8 rfl) rfl rfl ?_
        refine r_A X 35 (by decide) rfl rfl (xdec_at tX5_signs_1 9 rfl) ?_
        refine v_iload_n X (xdec_at tX5_signs_1 10 rfl) rfl rfl ?_
        refine v_dup2_11 X (xdec_at tX5_signs_1 11 rfl) rfl rfl ?_
        refine r_In (v := (μ.1 35 t)) X 35 (by decide) rfl rfl ht (xdec_at tX5_signs_1 12 rfl) rfl ?_
        refine v_iconst (v := 1) X (xdec_at tX5_signs_1 13 rfl) (by decide) ?_
        refine v_iadd X (xdec_at tX5_signs_1 14 rfl) ?_
        refine r_PIn X 35 (by decide) rfl rfl ht (xdec_at tX5_signs_1 15 rfl) ?_
        refine v_aload_n X (xdec_at tX5_signs_1 16 rfl) rfl rfl ?_
        refine v_dup X (xdec_at tX5_signs_1 17 rfl) rfl ?_
        refine r_S (v := (μ.1 30 0)) X 30 (by decide) rfl rfl (xdec_at tX5_signs_1 18 rfl) rfl ?_
        refine v_iconst (v := 1) X (xdec_at tX5_signs_1 19 rfl) (by decide) ?_
        refine v_iadd X (xdec_at tX5_signs_1 20 rfl) ?_
        refine r_PS X 30 (by decide) rfl (by decide) rfl (xdec_at tX5_signs_1 21 rfl) ?_
        have e9 : M_signs μ t a = ((up2 (up2 (up2 (up2 (up2 (up2 μ.1 31 (ix (μ.1 30 0)) a) 32 (ix (μ.1 30 0)) (-1)) 32 (ix (μ.1 34 t)) (μ.1 30 0)) 34 t (μ.1 30 0)) 35 t ((μ.1 35 t) + 1)) 30 0 ((μ.1 30 0) + 1)), μ.2) := by simp [M_signs, up2_at, c_6, c_15, c_44]
        exact v_vret X hr (xdec_at tX5_signs_1 22 rfl) (Nat.le_of_ble_eq_true rfl) (Nat.le_of_ble_eq_true rfl) ⟨rfl, rfl, by rw [e9]⟩
      · refine v_aload_n X (xdec_at tX5_signs_0 26 rfl) rfl rfl ?_
        refine r_A X 33 (by decide) rfl rfl (xdec_at tX5_signs_0 27 rfl) ?_
        refine v_iload_n X (xdec_at tX5_signs_0 28 rfl) rfl rfl ?_
        refine v_aload_n X (xdec_at tX5_signs_0 29 rfl) rfl rfl ?_
        refine r_S (v := (μ.1 30 0)) X 30 (by decide) rfl rfl (xdec_at tX5_signs_0 30 rfl) rfl ?_
        refine r_PIn X 33 (by decide) rfl rfl ht (xdec_at tX5_signs_0 31 rfl) ?_
        refine v_goto (tgt := 75) X (xdec_at tX5_signs_0 32 rfl) (by decide) ?_
        refine v_aload_n X (xdec_at tX5_signs_1 2 rfl) rfl rfl ?_
        refine r_A X 34 (by decide) rfl rfl (xdec_at tX5_signs_1 3 rfl) ?_
        refine v_iload_n X (xdec_at tX5_signs_1 4 rfl) rfl rfl ?_
        refine v_aload_n X (xdec_at tX5_signs_1 5 rfl) rfl rfl ?_
        refine r_S (v := (μ.1 30 0)) X 30 (by decide) rfl rfl (xdec_at tX5_signs_1 6 rfl) rfl ?_
        refine r_PIn X 34 (by decide) rfl rfl ht (xdec_at tX5_signs_1 7 rfl) ?_
        refine v_aload_n X (xdec_at tX5_signs_1 8 rfl) rfl rfl ?_
        refine r_A X 35 (by decide) rfl rfl (xdec_at tX5_signs_1 9 rfl) ?_
        refine v_iload_n X (xdec_at tX5_signs_1 10 rfl) rfl rfl ?_
        refine v_dup2_11 X (xdec_at tX5_signs_1 11 rfl) rfl rfl ?_
        refine r_In (v := (μ.1 35 t)) X 35 (by decide) rfl rfl ht (xdec_at tX5_signs_1 12 rfl) rfl ?_
        refine v_iconst (v := 1) X (xdec_at tX5_signs_1 13 rfl) (by decide) ?_
        refine v_iadd X (xdec_at tX5_signs_1 14 rfl) ?_
        refine r_PIn X 35 (by decide) rfl rfl ht (xdec_at tX5_signs_1 15 rfl) ?_
        refine v_aload_n X (xdec_at tX5_signs_1 16 rfl) rfl rfl ?_
        refine v_dup X (xdec_at tX5_signs_1 17 rfl) rfl ?_
        refine r_S (v := (μ.1 30 0)) X 30 (by decide) rfl rfl (xdec_at tX5_signs_1 18 rfl) rfl ?_
        refine v_iconst (v := 1) X (xdec_at tX5_signs_1 19 rfl) (by decide) ?_
        refine v_iadd X (xdec_at tX5_signs_1 20 rfl) ?_
        refine r_PS X 30 (by decide) rfl (by decide) rfl (xdec_at tX5_signs_1 21 rfl) ?_
        have e9 : M_signs μ t a = ((up2 (up2 (up2 (up2 (up2 (up2 μ.1 31 (ix (μ.1 30 0)) a) 32 (ix (μ.1 30 0)) (-1)) 33 t (μ.1 30 0)) 34 t (μ.1 30 0)) 35 t ((μ.1 35 t) + 1)) 30 0 ((μ.1 30 0) + 1)), μ.2) := by simp [M_signs, up2_at, c_6, c_15, (eq_true c_44)]
        exact v_vret X hr (xdec_at tX5_signs_1 22 rfl) (Nat.le_of_ble_eq_true rfl) (Nat.le_of_ble_eq_true rfl) ⟨rfl, rfl, by rw [e9]⟩
set_option maxRecDepth 100000 in
set_option maxHeartbeats 4000000 in
theorem c_comes (l : Launch) (Z : xZ) (B0 : Nat) (lay : xK → Nat) (μ : Mu) (r : xK → Option xE) (t : Nat) (ht : t < 40) (hI : RI μ) : YM l yX5_comes cX5_comes 5 ((some FieldType.int)) 1 24 0 0 Z B0 [.ref (lay (100, 0)), .int (nI t)] lay (cM Z lay μ r) (fun v lay' C' => lay = lay' ∧ v = some (.int (M_comes μ t).1) ∧ C' = cM Z lay (M_comes μ t).2 r) := by
  refine YM_of myX5_comes.2.2 RX5 rfl [some (.ref (lay (100, 0))), some (.int (nI t)), none, none, none] rfl (Nat.le_of_ble_eq_true rfl) ?_
  intro P1 P2 P3 P4 P5 P6 P7 P8 X hr hnm
  refine v_aload_n X (xdec_at tX5_comes_0 0 rfl) rfl rfl ?_
  refine v_iload_n X (xdec_at tX5_comes_0 1 rfl) rfl rfl ?_
  refine v_callV X myX5_taxOf [.int (nI t)] [] (c_taxOf l Z B0 lay μ r t ht (hI.or ht) (hI.ta ht)) (xw_at tW_20 20 rfl) (100, 0) cM_0 rfl rfl rfl rfl (by rfl) (Nat.le_of_ble_eq_true rfl) (xdec_at tX5_comes_0 2 rfl) ⟨(Nat.le_of_ble_eq_true rfl), (Nat.le_of_ble_eq_true rfl)⟩ ⟨(Nat.le_of_ble_eq_true rfl), (Nat.le_of_ble_eq_true rfl)⟩ ?_
  rintro v9 lay9 C9 ⟨rfl, rfl, rfl⟩
  refine v_lstore_n (lv' := [some (.ref (lay (100, 0))), some (.int (nI t)), some (.long (M_taxOf μ t)), none, none]) X (xdec_at tX5_comes_0 3 rfl) rfl (by decide) rfl ?_
  refine v_aload_n X (xdec_at tX5_comes_0 4 rfl) rfl rfl ?_
  refine r_A X 27 (by decide) rfl rfl (xdec_at tX5_comes_0 5 rfl) ?_
  refine v_iload_n X (xdec_at tX5_comes_0 6 rfl) rfl rfl ?_
  refine r_Zn (v := (μ.1 27 t)) X 27 (by decide) rfl rfl ht (xdec_at tX5_comes_0 7 rfl) rfl ?_
  refine v_if_ne (tgt := 66) X (xdec_at tX5_comes_0 8 rfl) (by decide) (fun c_12 => ?_) (fun c_12 => ?_)
  · refine v_aload_n X (xdec_at tX5_comes_1 2 rfl) rfl rfl ?_
    refine r_A X 23 (by decide) rfl rfl (xdec_at tX5_comes_1 3 rfl) ?_
    refine v_iload_n X (xdec_at tX5_comes_1 4 rfl) rfl rfl ?_
    refine v_iconst (v := 2) X (xdec_at tX5_comes_1 5 rfl) (by decide) ?_
    refine r_PIn X 23 (by decide) rfl rfl ht (xdec_at tX5_comes_1 6 rfl) ?_
    refine v_aload_n X (xdec_at tX5_comes_1 7 rfl) rfl rfl ?_
    refine r_A X 27 (by decide) rfl rfl (xdec_at tX5_comes_1 8 rfl) ?_
    refine v_iload_n X (xdec_at tX5_comes_1 9 rfl) rfl rfl ?_
    refine r_Zn (v := (μ.1 27 t)) X 27 (by decide) rfl rfl ht (xdec_at tX5_comes_1 10 rfl) rfl ?_
    refine v_if_ne (tgt := 203) X (xdec_at tX5_comes_1 11 rfl) (by decide) (fun _ => ?_) (fun h9 => absurd h9 c_12)
    refine v_iconst (v := 1) X (xdec_at tX5_comes_3 9 rfl) (by decide) ?_
    have e9 : M_comes μ t = (1, ((up2 μ.1 23 t 2), μ.2)) := by simp [M_comes, up2_at, c_12]
    exact v_iret X hr (xdec_at tX5_comes_3 10 rfl) (Nat.le_of_ble_eq_true rfl) (Nat.le_of_ble_eq_true rfl) ⟨rfl, by rw [e9], by rw [e9]⟩
  · refine v_aload_n X (xdec_at tX5_comes_0 9 rfl) rfl rfl ?_
    refine r_A X 28 (by decide) rfl rfl (xdec_at tX5_comes_0 10 rfl) ?_
    refine v_iload_n X (xdec_at tX5_comes_0 11 rfl) rfl rfl ?_
    refine r_Zn (v := (μ.1 28 t)) X 28 (by decide) rfl rfl ht (xdec_at tX5_comes_0 12 rfl) rfl ?_
    refine v_if_eq (tgt := 66) X (xdec_at tX5_comes_0 13 rfl) (by decide) (fun c_21 => ?_) (fun c_21 => ?_)
    · refine v_aload_n X (xdec_at tX5_comes_1 2 rfl) rfl rfl ?_
      refine r_A X 23 (by decide) rfl rfl (xdec_at tX5_comes_1 3 rfl) ?_
      refine v_iload_n X (xdec_at tX5_comes_1 4 rfl) rfl rfl ?_
      refine v_iconst (v := 2) X (xdec_at tX5_comes_1 5 rfl) (by decide) ?_
      refine r_PIn X 23 (by decide) rfl rfl ht (xdec_at tX5_comes_1 6 rfl) ?_
      refine v_aload_n X (xdec_at tX5_comes_1 7 rfl) rfl rfl ?_
      refine r_A X 27 (by decide) rfl rfl (xdec_at tX5_comes_1 8 rfl) ?_
      refine v_iload_n X (xdec_at tX5_comes_1 9 rfl) rfl rfl ?_
      refine r_Zn (v := (μ.1 27 t)) X 27 (by decide) rfl rfl ht (xdec_at tX5_comes_1 10 rfl) rfl ?_
      refine v_if_ne (tgt := 203) X (xdec_at tX5_comes_1 11 rfl) (by decide) (fun h9 => absurd c_12 h9) (fun _ => ?_)
      refine v_aload_n X (xdec_at tX5_comes_1 12 rfl) rfl rfl ?_
      refine r_A X 8 (by decide) rfl rfl (xdec_at tX5_comes_1 13 rfl) ?_
      refine v_aload_n X (xdec_at tX5_comes_1 14 rfl) rfl rfl ?_
      refine r_A X 19 (by decide) rfl rfl (xdec_at tX5_comes_1 15 rfl) ?_
      refine v_iload_n X (xdec_at tX5_comes_1 16 rfl) rfl rfl ?_
      refine r_In (v := (μ.1 19 t)) X 19 (by decide) rfl rfl ht (xdec_at tX5_comes_1 17 rfl) rfl ?_
      refine v_dup2_11 X (xdec_at tX5_comes_1 18 rfl) rfl rfl ?_
      refine r_L (v := (μ.2 8 (ix (μ.1 19 t)))) X 8 (by decide) rfl rfl (hI.ta ht) (xdec_at tX5_comes_1 19 rfl) rfl ?_
      refine v_lload_n X (xdec_at tX5_comes_1 20 rfl) rfl rfl ?_
      refine v_ladd X (xdec_at tX5_comes_1 21 rfl) ?_
      refine r_PL X 8 (by decide) rfl rfl (hI.ta ht) (xdec_at tX5_comes_1 22 rfl) ?_
      refine v_aload_n X (xdec_at tX5_comes_1 23 rfl) rfl rfl ?_
      refine r_A X 19 (by decide) rfl rfl (xdec_at tX5_comes_1 24 rfl) ?_
      refine v_iload_n X (xdec_at tX5_comes_1 25 rfl) rfl rfl ?_
      refine r_In (v := (μ.1 19 t)) X 19 (by decide) rfl rfl ht (xdec_at tX5_comes_1 26 rfl) rfl ?_
      refine v_aload_n X (xdec_at tX5_comes_1 27 rfl) rfl rfl ?_
      refine r_A X 18 (by decide) rfl rfl (xdec_at tX5_comes_1 28 rfl) ?_
      refine v_iload_n X (xdec_at tX5_comes_1 29 rfl) rfl rfl ?_
      refine r_In (v := (μ.1 18 t)) X 18 (by decide) rfl rfl ht (xdec_at tX5_comes_1 30 rfl) rfl ?_
      refine v_icmp_ne (tgt := 116) X (xdec_at tX5_comes_1 31 rfl) (by decide) (fun c_109 => ?_) (fun c_109 => ?_)
      · refine v_aload_n X (xdec_at tX5_comes_1 34 rfl) rfl rfl ?_
        refine r_A X 3 (by decide) rfl rfl (xdec_at tX5_comes_1 35 rfl) ?_
        refine v_iconst (v := 3) X (xdec_at tX5_comes_1 36 rfl) (by decide) ?_
        refine v_aload_n X (xdec_at tX5_comes_1 37 rfl) rfl rfl ?_
        refine r_A X 19 (by decide) rfl rfl (xdec_at tX5_comes_1 38 rfl) ?_
        refine v_iload_n X (xdec_at tX5_comes_1 39 rfl) rfl rfl ?_
        refine r_In (v := (μ.1 19 t)) X 19 (by decide) rfl rfl ht (xdec_at tX5_comes_2 0 rfl) rfl ?_
        refine v_imul X (xdec_at tX5_comes_2 1 rfl) ?_
        refine v_aload_n X (xdec_at tX5_comes_2 2 rfl) rfl rfl ?_
        refine r_A X 17 (by decide) rfl rfl (xdec_at tX5_comes_2 3 rfl) ?_
        refine v_iload_n X (xdec_at tX5_comes_2 4 rfl) rfl rfl ?_
        refine r_In (v := (μ.1 17 t)) X 17 (by decide) rfl rfl ht (xdec_at tX5_comes_2 5 rfl) rfl ?_
        refine v_iadd X (xdec_at tX5_comes_2 6 rfl) ?_
        refine r_I (v := (μ.1 3 (ix ((3 * (μ.1 19 t)) + (μ.1 17 t))))) X 3 (by decide) rfl rfl (in_3k (hI.ta ht) (hI.kd ht)).1 (xdec_at tX5_comes_2 7 rfl) rfl ?_
        refine v_istore (lv' := [some (.ref (lay (100, 0))), some (.int (nI t)), some (.long (M_taxOf μ t)), none, some (.int (μ.1 3 (ix ((3 * (μ.1 19 t)) + (μ.1 17 t)))))]) X (xdec_at tX5_comes_2 8 rfl) (by decide) rfl ?_
        refine v_aload_n X (xdec_at tX5_comes_2 9 rfl) rfl rfl ?_
        refine r_A X 21 (by decide) rfl rfl (xdec_at tX5_comes_2 10 rfl) ?_
        refine v_iload_n X (xdec_at tX5_comes_2 11 rfl) rfl rfl ?_
        refine r_Zn (v := (μ.1 21 t)) X 21 (by decide) rfl rfl ht (xdec_at tX5_comes_2 12 rfl) rfl ?_
        refine v_if_eq (tgt := 169) X (xdec_at tX5_comes_2 13 rfl) (by decide) (fun c_144 => ?_) (fun c_144 => ?_)
        · refine v_aload_n X (xdec_at tX5_comes_2 27 rfl) rfl rfl ?_
          refine r_S (v := (μ.1 36 0)) X 36 (by decide) rfl rfl (xdec_at tX5_comes_2 28 rfl) rfl ?_
          refine v_if_eq (tgt := 203) X (xdec_at tX5_comes_2 29 rfl) (by decide) (fun c_173 => ?_) (fun c_173 => ?_)
          · refine v_iconst (v := 1) X (xdec_at tX5_comes_3 9 rfl) (by decide) ?_
            have e9 : M_comes μ t = (1, ((up2 μ.1 23 t 2), (up2 μ.2 8 (ix (μ.1 19 t)) ((μ.2 8 (ix (μ.1 19 t))) + (M_taxOf μ t))))) := by simp [M_comes, up2_at, (eq_true c_12), (eq_true c_21), c_109, (eq_true c_144), (eq_true c_173)]
            exact v_iret X hr (xdec_at tX5_comes_3 10 rfl) (Nat.le_of_ble_eq_true rfl) (Nat.le_of_ble_eq_true rfl) ⟨rfl, by rw [e9], by rw [e9]⟩
          · refine v_aload_n X (xdec_at tX5_comes_2 30 rfl) rfl rfl ?_
            refine r_A X 9 (by decide) rfl rfl (xdec_at tX5_comes_2 31 rfl) ?_
            refine v_bipush (v := 8) X (xdec_at tX5_comes_2 32 rfl) (by decide) ?_
            refine v_aload_n X (xdec_at tX5_comes_2 33 rfl) rfl rfl ?_
            refine r_A X 18 (by decide) rfl rfl (xdec_at tX5_comes_2 34 rfl) ?_
            refine v_iload_n X (xdec_at tX5_comes_2 35 rfl) rfl rfl ?_
            refine r_In (v := (μ.1 18 t)) X 18 (by decide) rfl rfl ht (xdec_at tX5_comes_2 36 rfl) rfl ?_
            refine v_imul X (xdec_at tX5_comes_2 37 rfl) ?_
            refine v_aload_n X (xdec_at tX5_comes_2 38 rfl) rfl rfl ?_
            refine r_A X 19 (by decide) rfl rfl (xdec_at tX5_comes_2 39 rfl) ?_
            refine v_iload_n X (xdec_at tX5_comes_3 0 rfl) rfl rfl ?_
            refine r_In (v := (μ.1 19 t)) X 19 (by decide) rfl rfl ht (xdec_at tX5_comes_3 1 rfl) rfl ?_
            refine v_iadd X (xdec_at tX5_comes_3 2 rfl) ?_
            refine v_dup2_11 X (xdec_at tX5_comes_3 3 rfl) rfl rfl ?_
            refine r_L (v := (μ.2 9 (ix ((8 * (μ.1 18 t)) + (μ.1 19 t))))) X 9 (by decide) rfl rfl (in_8k (hI.or ht) (hI.ta ht)).1 (xdec_at tX5_comes_3 4 rfl) rfl ?_
            refine v_iload X (xdec_at tX5_comes_3 5 rfl) rfl ?_
            refine v_i2l X (xdec_at tX5_comes_3 6 rfl) rfl ?_
            refine v_ladd X (xdec_at tX5_comes_3 7 rfl) ?_
            refine r_PL X 9 (by decide) rfl rfl (in_8k (hI.or ht) (hI.ta ht)).1 (xdec_at tX5_comes_3 8 rfl) ?_
            refine v_iconst (v := 1) X (xdec_at tX5_comes_3 9 rfl) (by decide) ?_
            have e9 : M_comes μ t = (1, ((up2 μ.1 23 t 2), (up2 (up2 μ.2 8 (ix (μ.1 19 t)) ((μ.2 8 (ix (μ.1 19 t))) + (M_taxOf μ t))) 9 (ix ((8 * (μ.1 18 t)) + (μ.1 19 t))) ((μ.2 9 (ix ((8 * (μ.1 18 t)) + (μ.1 19 t)))) + ((μ.1 3 (ix ((3 * (μ.1 19 t)) + (μ.1 17 t))))).toInt64)))) := by simp [M_comes, up2_at, (eq_true c_12), (eq_true c_21), c_109, (eq_true c_144), c_173]
            exact v_iret X hr (xdec_at tX5_comes_3 10 rfl) (Nat.le_of_ble_eq_true rfl) (Nat.le_of_ble_eq_true rfl) ⟨rfl, by rw [e9], by rw [e9]⟩
        · refine v_aload_n X (xdec_at tX5_comes_2 14 rfl) rfl rfl ?_
          refine v_aload_n X (xdec_at tX5_comes_2 15 rfl) rfl rfl ?_
          refine r_A X 18 (by decide) rfl rfl (xdec_at tX5_comes_2 16 rfl) ?_
          refine v_iload_n X (xdec_at tX5_comes_2 17 rfl) rfl rfl ?_
          refine r_In (v := (μ.1 18 t)) X 18 (by decide) rfl rfl ht (xdec_at tX5_comes_2 18 rfl) rfl ?_
          refine v_aload_n X (xdec_at tX5_comes_2 19 rfl) rfl rfl ?_
          refine r_A X 19 (by decide) rfl rfl (xdec_at tX5_comes_2 20 rfl) ?_
          refine v_iload_n X (xdec_at tX5_comes_2 21 rfl) rfl rfl ?_
          refine r_In (v := (μ.1 19 t)) X 19 (by decide) rfl rfl ht (xdec_at tX5_comes_2 22 rfl) rfl ?_
          refine v_iload X (xdec_at tX5_comes_2 23 rfl) rfl ?_
          refine v_i2l X (xdec_at tX5_comes_2 24 rfl) rfl ?_
          refine v_callV X myX5_pays [.int (μ.1 18 t), .int (μ.1 19 t), .long ((μ.1 3 (ix ((3 * (μ.1 19 t)) + (μ.1 17 t))))).toInt64] [] (c_pays l Z B0 lay ((up2 μ.1 23 t 2), (up2 μ.2 8 (ix (μ.1 19 t)) ((μ.2 8 (ix (μ.1 19 t))) + (M_taxOf μ t)))) r (μ.1 18 t) (μ.1 19 t) (hI.or ht) (hI.ta ht) (((μ.1 3 (ix ((3 * (μ.1 19 t)) + (μ.1 17 t))))).toInt64)) (xw_at tW_20 24 rfl) (100, 0) cM_0 rfl rfl rfl rfl (by rfl) (Nat.le_of_ble_eq_true rfl) (xdec_at tX5_comes_2 25 rfl) ⟨(Nat.le_of_ble_eq_true rfl), (Nat.le_of_ble_eq_true rfl)⟩ ⟨(Nat.le_of_ble_eq_true rfl), (Nat.le_of_ble_eq_true rfl)⟩ ?_
          rintro v9 lay9 C9 ⟨rfl, rfl, rfl⟩
          refine v_goto (tgt := 203) X (xdec_at tX5_comes_2 26 rfl) (by decide) ?_
          refine v_iconst (v := 1) X (xdec_at tX5_comes_3 9 rfl) (by decide) ?_
          have e9 : M_comes μ t = (1, (M_pays ((up2 μ.1 23 t 2), (up2 μ.2 8 (ix (μ.1 19 t)) ((μ.2 8 (ix (μ.1 19 t))) + (M_taxOf μ t)))) (ix (μ.1 18 t)) (ix (μ.1 19 t)) (((μ.1 3 (ix ((3 * (μ.1 19 t)) + (μ.1 17 t))))).toInt64))) := by simp [M_comes, up2_at, (eq_true c_12), (eq_true c_21), c_109, c_144]
          exact v_iret X hr (xdec_at tX5_comes_3 10 rfl) (Nat.le_of_ble_eq_true rfl) (Nat.le_of_ble_eq_true rfl) ⟨rfl, by rw [e9], by rw [e9]⟩
      · refine v_iconst (v := 0) X (xdec_at tX5_comes_1 32 rfl) (by decide) ?_
        refine v_goto (tgt := 136) X (xdec_at tX5_comes_1 33 rfl) (by decide) ?_
        refine v_istore (lv' := [some (.ref (lay (100, 0))), some (.int (nI t)), some (.long (M_taxOf μ t)), none, some (.int 0)]) X (xdec_at tX5_comes_2 8 rfl) (by decide) rfl ?_
        refine v_aload_n X (xdec_at tX5_comes_2 9 rfl) rfl rfl ?_
        refine r_A X 21 (by decide) rfl rfl (xdec_at tX5_comes_2 10 rfl) ?_
        refine v_iload_n X (xdec_at tX5_comes_2 11 rfl) rfl rfl ?_
        refine r_Zn (v := (μ.1 21 t)) X 21 (by decide) rfl rfl ht (xdec_at tX5_comes_2 12 rfl) rfl ?_
        refine v_if_eq (tgt := 169) X (xdec_at tX5_comes_2 13 rfl) (by decide) (fun c_144 => ?_) (fun c_144 => ?_)
        · refine v_aload_n X (xdec_at tX5_comes_2 27 rfl) rfl rfl ?_
          refine r_S (v := (μ.1 36 0)) X 36 (by decide) rfl rfl (xdec_at tX5_comes_2 28 rfl) rfl ?_
          refine v_if_eq (tgt := 203) X (xdec_at tX5_comes_2 29 rfl) (by decide) (fun c_173 => ?_) (fun c_173 => ?_)
          · refine v_iconst (v := 1) X (xdec_at tX5_comes_3 9 rfl) (by decide) ?_
            have e9 : M_comes μ t = (1, ((up2 μ.1 23 t 2), (up2 μ.2 8 (ix (μ.1 19 t)) ((μ.2 8 (ix (μ.1 19 t))) + (M_taxOf μ t))))) := by simp [M_comes, up2_at, (eq_true c_12), (eq_true c_21), (eq_true c_109), (eq_true c_144), (eq_true c_173)]
            exact v_iret X hr (xdec_at tX5_comes_3 10 rfl) (Nat.le_of_ble_eq_true rfl) (Nat.le_of_ble_eq_true rfl) ⟨rfl, by rw [e9], by rw [e9]⟩
          · refine v_aload_n X (xdec_at tX5_comes_2 30 rfl) rfl rfl ?_
            refine r_A X 9 (by decide) rfl rfl (xdec_at tX5_comes_2 31 rfl) ?_
            refine v_bipush (v := 8) X (xdec_at tX5_comes_2 32 rfl) (by decide) ?_
            refine v_aload_n X (xdec_at tX5_comes_2 33 rfl) rfl rfl ?_
            refine r_A X 18 (by decide) rfl rfl (xdec_at tX5_comes_2 34 rfl) ?_
            refine v_iload_n X (xdec_at tX5_comes_2 35 rfl) rfl rfl ?_
            refine r_In (v := (μ.1 18 t)) X 18 (by decide) rfl rfl ht (xdec_at tX5_comes_2 36 rfl) rfl ?_
            refine v_imul X (xdec_at tX5_comes_2 37 rfl) ?_
            refine v_aload_n X (xdec_at tX5_comes_2 38 rfl) rfl rfl ?_
            refine r_A X 19 (by decide) rfl rfl (xdec_at tX5_comes_2 39 rfl) ?_
            refine v_iload_n X (xdec_at tX5_comes_3 0 rfl) rfl rfl ?_
            refine r_In (v := (μ.1 19 t)) X 19 (by decide) rfl rfl ht (xdec_at tX5_comes_3 1 rfl) rfl ?_
            refine v_iadd X (xdec_at tX5_comes_3 2 rfl) ?_
            refine v_dup2_11 X (xdec_at tX5_comes_3 3 rfl) rfl rfl ?_
            refine r_L (v := (μ.2 9 (ix ((8 * (μ.1 18 t)) + (μ.1 19 t))))) X 9 (by decide) rfl rfl (in_8k (hI.or ht) (hI.ta ht)).1 (xdec_at tX5_comes_3 4 rfl) rfl ?_
            refine v_iload X (xdec_at tX5_comes_3 5 rfl) rfl ?_
            refine v_i2l (v := 0) X (xdec_at tX5_comes_3 6 rfl) (by decide) ?_
            refine v_ladd X (xdec_at tX5_comes_3 7 rfl) ?_
            refine r_PL X 9 (by decide) rfl rfl (in_8k (hI.or ht) (hI.ta ht)).1 (xdec_at tX5_comes_3 8 rfl) ?_
            refine v_iconst (v := 1) X (xdec_at tX5_comes_3 9 rfl) (by decide) ?_
            have e9 : M_comes μ t = (1, ((up2 μ.1 23 t 2), (up2 (up2 μ.2 8 (ix (μ.1 19 t)) ((μ.2 8 (ix (μ.1 19 t))) + (M_taxOf μ t))) 9 (ix ((8 * (μ.1 18 t)) + (μ.1 19 t))) ((μ.2 9 (ix ((8 * (μ.1 18 t)) + (μ.1 19 t)))) + 0)))) := by simp [M_comes, up2_at, (eq_true c_12), (eq_true c_21), (eq_true c_109), (eq_true c_144), c_173]
            exact v_iret X hr (xdec_at tX5_comes_3 10 rfl) (Nat.le_of_ble_eq_true rfl) (Nat.le_of_ble_eq_true rfl) ⟨rfl, by rw [e9], by rw [e9]⟩
        · refine v_aload_n X (xdec_at tX5_comes_2 14 rfl) rfl rfl ?_
          refine v_aload_n X (xdec_at tX5_comes_2 15 rfl) rfl rfl ?_
          refine r_A X 18 (by decide) rfl rfl (xdec_at tX5_comes_2 16 rfl) ?_
          refine v_iload_n X (xdec_at tX5_comes_2 17 rfl) rfl rfl ?_
          refine r_In (v := (μ.1 18 t)) X 18 (by decide) rfl rfl ht (xdec_at tX5_comes_2 18 rfl) rfl ?_
          refine v_aload_n X (xdec_at tX5_comes_2 19 rfl) rfl rfl ?_
          refine r_A X 19 (by decide) rfl rfl (xdec_at tX5_comes_2 20 rfl) ?_
          refine v_iload_n X (xdec_at tX5_comes_2 21 rfl) rfl rfl ?_
          refine r_In (v := (μ.1 19 t)) X 19 (by decide) rfl rfl ht (xdec_at tX5_comes_2 22 rfl) rfl ?_
          refine v_iload X (xdec_at tX5_comes_2 23 rfl) rfl ?_
          refine v_i2l (v := 0) X (xdec_at tX5_comes_2 24 rfl) (by decide) ?_
          refine v_callV X myX5_pays [.int (μ.1 18 t), .int (μ.1 19 t), .long 0] [] (c_pays l Z B0 lay ((up2 μ.1 23 t 2), (up2 μ.2 8 (ix (μ.1 19 t)) ((μ.2 8 (ix (μ.1 19 t))) + (M_taxOf μ t)))) r (μ.1 18 t) (μ.1 19 t) (hI.or ht) (hI.ta ht) 0) (xw_at tW_20 24 rfl) (100, 0) cM_0 rfl rfl rfl rfl (by rfl) (Nat.le_of_ble_eq_true rfl) (xdec_at tX5_comes_2 25 rfl) ⟨(Nat.le_of_ble_eq_true rfl), (Nat.le_of_ble_eq_true rfl)⟩ ⟨(Nat.le_of_ble_eq_true rfl), (Nat.le_of_ble_eq_true rfl)⟩ ?_
          rintro v9 lay9 C9 ⟨rfl, rfl, rfl⟩
          refine v_goto (tgt := 203) X (xdec_at tX5_comes_2 26 rfl) (by decide) ?_
          refine v_iconst (v := 1) X (xdec_at tX5_comes_3 9 rfl) (by decide) ?_
          have e9 : M_comes μ t = (1, (M_pays ((up2 μ.1 23 t 2), (up2 μ.2 8 (ix (μ.1 19 t)) ((μ.2 8 (ix (μ.1 19 t))) + (M_taxOf μ t)))) (ix (μ.1 18 t)) (ix (μ.1 19 t)) 0)) := by simp [M_comes, up2_at, (eq_true c_12), (eq_true c_21), (eq_true c_109), c_144]
          exact v_iret X hr (xdec_at tX5_comes_3 10 rfl) (Nat.le_of_ble_eq_true rfl) (Nat.le_of_ble_eq_true rfl) ⟨rfl, by rw [e9], by rw [e9]⟩
    · refine v_lload_n X (xdec_at tX5_comes_0 14 rfl) rfl rfl ?_
      refine v_lconst (v := 0) X (xdec_at tX5_comes_0 15 rfl) (by decide) ?_
      refine v_lcmp X (xdec_at tX5_comes_0 16 rfl) ?_
      refine v_if_le (tgt := 66) X (xdec_at tX5_comes_0 17 rfl) (by decide) (fun c_27 => ?_) (fun c_27 => ?_)
      · refine v_aload_n X (xdec_at tX5_comes_1 2 rfl) rfl rfl ?_
        refine r_A X 23 (by decide) rfl rfl (xdec_at tX5_comes_1 3 rfl) ?_
        refine v_iload_n X (xdec_at tX5_comes_1 4 rfl) rfl rfl ?_
        refine v_iconst (v := 2) X (xdec_at tX5_comes_1 5 rfl) (by decide) ?_
        refine r_PIn X 23 (by decide) rfl rfl ht (xdec_at tX5_comes_1 6 rfl) ?_
        refine v_aload_n X (xdec_at tX5_comes_1 7 rfl) rfl rfl ?_
        refine r_A X 27 (by decide) rfl rfl (xdec_at tX5_comes_1 8 rfl) ?_
        refine v_iload_n X (xdec_at tX5_comes_1 9 rfl) rfl rfl ?_
        refine r_Zn (v := (μ.1 27 t)) X 27 (by decide) rfl rfl ht (xdec_at tX5_comes_1 10 rfl) rfl ?_
        refine v_if_ne (tgt := 203) X (xdec_at tX5_comes_1 11 rfl) (by decide) (fun h9 => absurd c_12 h9) (fun _ => ?_)
        refine v_aload_n X (xdec_at tX5_comes_1 12 rfl) rfl rfl ?_
        refine r_A X 8 (by decide) rfl rfl (xdec_at tX5_comes_1 13 rfl) ?_
        refine v_aload_n X (xdec_at tX5_comes_1 14 rfl) rfl rfl ?_
        refine r_A X 19 (by decide) rfl rfl (xdec_at tX5_comes_1 15 rfl) ?_
        refine v_iload_n X (xdec_at tX5_comes_1 16 rfl) rfl rfl ?_
        refine r_In (v := (μ.1 19 t)) X 19 (by decide) rfl rfl ht (xdec_at tX5_comes_1 17 rfl) rfl ?_
        refine v_dup2_11 X (xdec_at tX5_comes_1 18 rfl) rfl rfl ?_
        refine r_L (v := (μ.2 8 (ix (μ.1 19 t)))) X 8 (by decide) rfl rfl (hI.ta ht) (xdec_at tX5_comes_1 19 rfl) rfl ?_
        refine v_lload_n X (xdec_at tX5_comes_1 20 rfl) rfl rfl ?_
        refine v_ladd X (xdec_at tX5_comes_1 21 rfl) ?_
        refine r_PL X 8 (by decide) rfl rfl (hI.ta ht) (xdec_at tX5_comes_1 22 rfl) ?_
        refine v_aload_n X (xdec_at tX5_comes_1 23 rfl) rfl rfl ?_
        refine r_A X 19 (by decide) rfl rfl (xdec_at tX5_comes_1 24 rfl) ?_
        refine v_iload_n X (xdec_at tX5_comes_1 25 rfl) rfl rfl ?_
        refine r_In (v := (μ.1 19 t)) X 19 (by decide) rfl rfl ht (xdec_at tX5_comes_1 26 rfl) rfl ?_
        refine v_aload_n X (xdec_at tX5_comes_1 27 rfl) rfl rfl ?_
        refine r_A X 18 (by decide) rfl rfl (xdec_at tX5_comes_1 28 rfl) ?_
        refine v_iload_n X (xdec_at tX5_comes_1 29 rfl) rfl rfl ?_
        refine r_In (v := (μ.1 18 t)) X 18 (by decide) rfl rfl ht (xdec_at tX5_comes_1 30 rfl) rfl ?_
        refine v_icmp_ne (tgt := 116) X (xdec_at tX5_comes_1 31 rfl) (by decide) (fun c_109 => ?_) (fun c_109 => ?_)
        · refine v_aload_n X (xdec_at tX5_comes_1 34 rfl) rfl rfl ?_
          refine r_A X 3 (by decide) rfl rfl (xdec_at tX5_comes_1 35 rfl) ?_
          refine v_iconst (v := 3) X (xdec_at tX5_comes_1 36 rfl) (by decide) ?_
          refine v_aload_n X (xdec_at tX5_comes_1 37 rfl) rfl rfl ?_
          refine r_A X 19 (by decide) rfl rfl (xdec_at tX5_comes_1 38 rfl) ?_
          refine v_iload_n X (xdec_at tX5_comes_1 39 rfl) rfl rfl ?_
          refine r_In (v := (μ.1 19 t)) X 19 (by decide) rfl rfl ht (xdec_at tX5_comes_2 0 rfl) rfl ?_
          refine v_imul X (xdec_at tX5_comes_2 1 rfl) ?_
          refine v_aload_n X (xdec_at tX5_comes_2 2 rfl) rfl rfl ?_
          refine r_A X 17 (by decide) rfl rfl (xdec_at tX5_comes_2 3 rfl) ?_
          refine v_iload_n X (xdec_at tX5_comes_2 4 rfl) rfl rfl ?_
          refine r_In (v := (μ.1 17 t)) X 17 (by decide) rfl rfl ht (xdec_at tX5_comes_2 5 rfl) rfl ?_
          refine v_iadd X (xdec_at tX5_comes_2 6 rfl) ?_
          refine r_I (v := (μ.1 3 (ix ((3 * (μ.1 19 t)) + (μ.1 17 t))))) X 3 (by decide) rfl rfl (in_3k (hI.ta ht) (hI.kd ht)).1 (xdec_at tX5_comes_2 7 rfl) rfl ?_
          refine v_istore (lv' := [some (.ref (lay (100, 0))), some (.int (nI t)), some (.long (M_taxOf μ t)), none, some (.int (μ.1 3 (ix ((3 * (μ.1 19 t)) + (μ.1 17 t)))))]) X (xdec_at tX5_comes_2 8 rfl) (by decide) rfl ?_
          refine v_aload_n X (xdec_at tX5_comes_2 9 rfl) rfl rfl ?_
          refine r_A X 21 (by decide) rfl rfl (xdec_at tX5_comes_2 10 rfl) ?_
          refine v_iload_n X (xdec_at tX5_comes_2 11 rfl) rfl rfl ?_
          refine r_Zn (v := (μ.1 21 t)) X 21 (by decide) rfl rfl ht (xdec_at tX5_comes_2 12 rfl) rfl ?_
          refine v_if_eq (tgt := 169) X (xdec_at tX5_comes_2 13 rfl) (by decide) (fun c_144 => ?_) (fun c_144 => ?_)
          · refine v_aload_n X (xdec_at tX5_comes_2 27 rfl) rfl rfl ?_
            refine r_S (v := (μ.1 36 0)) X 36 (by decide) rfl rfl (xdec_at tX5_comes_2 28 rfl) rfl ?_
            refine v_if_eq (tgt := 203) X (xdec_at tX5_comes_2 29 rfl) (by decide) (fun c_173 => ?_) (fun c_173 => ?_)
            · refine v_iconst (v := 1) X (xdec_at tX5_comes_3 9 rfl) (by decide) ?_
              have e9 : M_comes μ t = (1, ((up2 μ.1 23 t 2), (up2 μ.2 8 (ix (μ.1 19 t)) ((μ.2 8 (ix (μ.1 19 t))) + (M_taxOf μ t))))) := by simp [M_comes, up2_at, (eq_true c_12), c_21, c_27, c_109, (eq_true c_144), (eq_true c_173)]
              exact v_iret X hr (xdec_at tX5_comes_3 10 rfl) (Nat.le_of_ble_eq_true rfl) (Nat.le_of_ble_eq_true rfl) ⟨rfl, by rw [e9], by rw [e9]⟩
            · refine v_aload_n X (xdec_at tX5_comes_2 30 rfl) rfl rfl ?_
              refine r_A X 9 (by decide) rfl rfl (xdec_at tX5_comes_2 31 rfl) ?_
              refine v_bipush (v := 8) X (xdec_at tX5_comes_2 32 rfl) (by decide) ?_
              refine v_aload_n X (xdec_at tX5_comes_2 33 rfl) rfl rfl ?_
              refine r_A X 18 (by decide) rfl rfl (xdec_at tX5_comes_2 34 rfl) ?_
              refine v_iload_n X (xdec_at tX5_comes_2 35 rfl) rfl rfl ?_
              refine r_In (v := (μ.1 18 t)) X 18 (by decide) rfl rfl ht (xdec_at tX5_comes_2 36 rfl) rfl ?_
              refine v_imul X (xdec_at tX5_comes_2 37 rfl) ?_
              refine v_aload_n X (xdec_at tX5_comes_2 38 rfl) rfl rfl ?_
              refine r_A X 19 (by decide) rfl rfl (xdec_at tX5_comes_2 39 rfl) ?_
              refine v_iload_n X (xdec_at tX5_comes_3 0 rfl) rfl rfl ?_
              refine r_In (v := (μ.1 19 t)) X 19 (by decide) rfl rfl ht (xdec_at tX5_comes_3 1 rfl) rfl ?_
              refine v_iadd X (xdec_at tX5_comes_3 2 rfl) ?_
              refine v_dup2_11 X (xdec_at tX5_comes_3 3 rfl) rfl rfl ?_
              refine r_L (v := (μ.2 9 (ix ((8 * (μ.1 18 t)) + (μ.1 19 t))))) X 9 (by decide) rfl rfl (in_8k (hI.or ht) (hI.ta ht)).1 (xdec_at tX5_comes_3 4 rfl) rfl ?_
              refine v_iload X (xdec_at tX5_comes_3 5 rfl) rfl ?_
              refine v_i2l X (xdec_at tX5_comes_3 6 rfl) rfl ?_
              refine v_ladd X (xdec_at tX5_comes_3 7 rfl) ?_
              refine r_PL X 9 (by decide) rfl rfl (in_8k (hI.or ht) (hI.ta ht)).1 (xdec_at tX5_comes_3 8 rfl) ?_
              refine v_iconst (v := 1) X (xdec_at tX5_comes_3 9 rfl) (by decide) ?_
              have e9 : M_comes μ t = (1, ((up2 μ.1 23 t 2), (up2 (up2 μ.2 8 (ix (μ.1 19 t)) ((μ.2 8 (ix (μ.1 19 t))) + (M_taxOf μ t))) 9 (ix ((8 * (μ.1 18 t)) + (μ.1 19 t))) ((μ.2 9 (ix ((8 * (μ.1 18 t)) + (μ.1 19 t)))) + ((μ.1 3 (ix ((3 * (μ.1 19 t)) + (μ.1 17 t))))).toInt64)))) := by simp [M_comes, up2_at, (eq_true c_12), c_21, c_27, c_109, (eq_true c_144), c_173]
              exact v_iret X hr (xdec_at tX5_comes_3 10 rfl) (Nat.le_of_ble_eq_true rfl) (Nat.le_of_ble_eq_true rfl) ⟨rfl, by rw [e9], by rw [e9]⟩
          · refine v_aload_n X (xdec_at tX5_comes_2 14 rfl) rfl rfl ?_
            refine v_aload_n X (xdec_at tX5_comes_2 15 rfl) rfl rfl ?_
            refine r_A X 18 (by decide) rfl rfl (xdec_at tX5_comes_2 16 rfl) ?_
            refine v_iload_n X (xdec_at tX5_comes_2 17 rfl) rfl rfl ?_
            refine r_In (v := (μ.1 18 t)) X 18 (by decide) rfl rfl ht (xdec_at tX5_comes_2 18 rfl) rfl ?_
            refine v_aload_n X (xdec_at tX5_comes_2 19 rfl) rfl rfl ?_
            refine r_A X 19 (by decide) rfl rfl (xdec_at tX5_comes_2 20 rfl) ?_
            refine v_iload_n X (xdec_at tX5_comes_2 21 rfl) rfl rfl ?_
            refine r_In (v := (μ.1 19 t)) X 19 (by decide) rfl rfl ht (xdec_at tX5_comes_2 22 rfl) rfl ?_
            refine v_iload X (xdec_at tX5_comes_2 23 rfl) rfl ?_
            refine v_i2l X (xdec_at tX5_comes_2 24 rfl) rfl ?_
            refine v_callV X myX5_pays [.int (μ.1 18 t), .int (μ.1 19 t), .long ((μ.1 3 (ix ((3 * (μ.1 19 t)) + (μ.1 17 t))))).toInt64] [] (c_pays l Z B0 lay ((up2 μ.1 23 t 2), (up2 μ.2 8 (ix (μ.1 19 t)) ((μ.2 8 (ix (μ.1 19 t))) + (M_taxOf μ t)))) r (μ.1 18 t) (μ.1 19 t) (hI.or ht) (hI.ta ht) (((μ.1 3 (ix ((3 * (μ.1 19 t)) + (μ.1 17 t))))).toInt64)) (xw_at tW_20 24 rfl) (100, 0) cM_0 rfl rfl rfl rfl (by rfl) (Nat.le_of_ble_eq_true rfl) (xdec_at tX5_comes_2 25 rfl) ⟨(Nat.le_of_ble_eq_true rfl), (Nat.le_of_ble_eq_true rfl)⟩ ⟨(Nat.le_of_ble_eq_true rfl), (Nat.le_of_ble_eq_true rfl)⟩ ?_
            rintro v9 lay9 C9 ⟨rfl, rfl, rfl⟩
            refine v_goto (tgt := 203) X (xdec_at tX5_comes_2 26 rfl) (by decide) ?_
            refine v_iconst (v := 1) X (xdec_at tX5_comes_3 9 rfl) (by decide) ?_
            have e9 : M_comes μ t = (1, (M_pays ((up2 μ.1 23 t 2), (up2 μ.2 8 (ix (μ.1 19 t)) ((μ.2 8 (ix (μ.1 19 t))) + (M_taxOf μ t)))) (ix (μ.1 18 t)) (ix (μ.1 19 t)) (((μ.1 3 (ix ((3 * (μ.1 19 t)) + (μ.1 17 t))))).toInt64))) := by simp [M_comes, up2_at, (eq_true c_12), c_21, c_27, c_109, c_144]
            exact v_iret X hr (xdec_at tX5_comes_3 10 rfl) (Nat.le_of_ble_eq_true rfl) (Nat.le_of_ble_eq_true rfl) ⟨rfl, by rw [e9], by rw [e9]⟩
        · refine v_iconst (v := 0) X (xdec_at tX5_comes_1 32 rfl) (by decide) ?_
          refine v_goto (tgt := 136) X (xdec_at tX5_comes_1 33 rfl) (by decide) ?_
          refine v_istore (lv' := [some (.ref (lay (100, 0))), some (.int (nI t)), some (.long (M_taxOf μ t)), none, some (.int 0)]) X (xdec_at tX5_comes_2 8 rfl) (by decide) rfl ?_
          refine v_aload_n X (xdec_at tX5_comes_2 9 rfl) rfl rfl ?_
          refine r_A X 21 (by decide) rfl rfl (xdec_at tX5_comes_2 10 rfl) ?_
          refine v_iload_n X (xdec_at tX5_comes_2 11 rfl) rfl rfl ?_
          refine r_Zn (v := (μ.1 21 t)) X 21 (by decide) rfl rfl ht (xdec_at tX5_comes_2 12 rfl) rfl ?_
          refine v_if_eq (tgt := 169) X (xdec_at tX5_comes_2 13 rfl) (by decide) (fun c_144 => ?_) (fun c_144 => ?_)
          · refine v_aload_n X (xdec_at tX5_comes_2 27 rfl) rfl rfl ?_
            refine r_S (v := (μ.1 36 0)) X 36 (by decide) rfl rfl (xdec_at tX5_comes_2 28 rfl) rfl ?_
            refine v_if_eq (tgt := 203) X (xdec_at tX5_comes_2 29 rfl) (by decide) (fun c_173 => ?_) (fun c_173 => ?_)
            · refine v_iconst (v := 1) X (xdec_at tX5_comes_3 9 rfl) (by decide) ?_
              have e9 : M_comes μ t = (1, ((up2 μ.1 23 t 2), (up2 μ.2 8 (ix (μ.1 19 t)) ((μ.2 8 (ix (μ.1 19 t))) + (M_taxOf μ t))))) := by simp [M_comes, up2_at, (eq_true c_12), c_21, c_27, (eq_true c_109), (eq_true c_144), (eq_true c_173)]
              exact v_iret X hr (xdec_at tX5_comes_3 10 rfl) (Nat.le_of_ble_eq_true rfl) (Nat.le_of_ble_eq_true rfl) ⟨rfl, by rw [e9], by rw [e9]⟩
            · refine v_aload_n X (xdec_at tX5_comes_2 30 rfl) rfl rfl ?_
              refine r_A X 9 (by decide) rfl rfl (xdec_at tX5_comes_2 31 rfl) ?_
              refine v_bipush (v := 8) X (xdec_at tX5_comes_2 32 rfl) (by decide) ?_
              refine v_aload_n X (xdec_at tX5_comes_2 33 rfl) rfl rfl ?_
              refine r_A X 18 (by decide) rfl rfl (xdec_at tX5_comes_2 34 rfl) ?_
              refine v_iload_n X (xdec_at tX5_comes_2 35 rfl) rfl rfl ?_
              refine r_In (v := (μ.1 18 t)) X 18 (by decide) rfl rfl ht (xdec_at tX5_comes_2 36 rfl) rfl ?_
              refine v_imul X (xdec_at tX5_comes_2 37 rfl) ?_
              refine v_aload_n X (xdec_at tX5_comes_2 38 rfl) rfl rfl ?_
              refine r_A X 19 (by decide) rfl rfl (xdec_at tX5_comes_2 39 rfl) ?_
              refine v_iload_n X (xdec_at tX5_comes_3 0 rfl) rfl rfl ?_
              refine r_In (v := (μ.1 19 t)) X 19 (by decide) rfl rfl ht (xdec_at tX5_comes_3 1 rfl) rfl ?_
              refine v_iadd X (xdec_at tX5_comes_3 2 rfl) ?_
              refine v_dup2_11 X (xdec_at tX5_comes_3 3 rfl) rfl rfl ?_
              refine r_L (v := (μ.2 9 (ix ((8 * (μ.1 18 t)) + (μ.1 19 t))))) X 9 (by decide) rfl rfl (in_8k (hI.or ht) (hI.ta ht)).1 (xdec_at tX5_comes_3 4 rfl) rfl ?_
              refine v_iload X (xdec_at tX5_comes_3 5 rfl) rfl ?_
              refine v_i2l (v := 0) X (xdec_at tX5_comes_3 6 rfl) (by decide) ?_
              refine v_ladd X (xdec_at tX5_comes_3 7 rfl) ?_
              refine r_PL X 9 (by decide) rfl rfl (in_8k (hI.or ht) (hI.ta ht)).1 (xdec_at tX5_comes_3 8 rfl) ?_
              refine v_iconst (v := 1) X (xdec_at tX5_comes_3 9 rfl) (by decide) ?_
              have e9 : M_comes μ t = (1, ((up2 μ.1 23 t 2), (up2 (up2 μ.2 8 (ix (μ.1 19 t)) ((μ.2 8 (ix (μ.1 19 t))) + (M_taxOf μ t))) 9 (ix ((8 * (μ.1 18 t)) + (μ.1 19 t))) ((μ.2 9 (ix ((8 * (μ.1 18 t)) + (μ.1 19 t)))) + 0)))) := by simp [M_comes, up2_at, (eq_true c_12), c_21, c_27, (eq_true c_109), (eq_true c_144), c_173]
              exact v_iret X hr (xdec_at tX5_comes_3 10 rfl) (Nat.le_of_ble_eq_true rfl) (Nat.le_of_ble_eq_true rfl) ⟨rfl, by rw [e9], by rw [e9]⟩
          · refine v_aload_n X (xdec_at tX5_comes_2 14 rfl) rfl rfl ?_
            refine v_aload_n X (xdec_at tX5_comes_2 15 rfl) rfl rfl ?_
            refine r_A X 18 (by decide) rfl rfl (xdec_at tX5_comes_2 16 rfl) ?_
            refine v_iload_n X (xdec_at tX5_comes_2 17 rfl) rfl rfl ?_
            refine r_In (v := (μ.1 18 t)) X 18 (by decide) rfl rfl ht (xdec_at tX5_comes_2 18 rfl) rfl ?_
            refine v_aload_n X (xdec_at tX5_comes_2 19 rfl) rfl rfl ?_
            refine r_A X 19 (by decide) rfl rfl (xdec_at tX5_comes_2 20 rfl) ?_
            refine v_iload_n X (xdec_at tX5_comes_2 21 rfl) rfl rfl ?_
            refine r_In (v := (μ.1 19 t)) X 19 (by decide) rfl rfl ht (xdec_at tX5_comes_2 22 rfl) rfl ?_
            refine v_iload X (xdec_at tX5_comes_2 23 rfl) rfl ?_
            refine v_i2l (v := 0) X (xdec_at tX5_comes_2 24 rfl) (by decide) ?_
            refine v_callV X myX5_pays [.int (μ.1 18 t), .int (μ.1 19 t), .long 0] [] (c_pays l Z B0 lay ((up2 μ.1 23 t 2), (up2 μ.2 8 (ix (μ.1 19 t)) ((μ.2 8 (ix (μ.1 19 t))) + (M_taxOf μ t)))) r (μ.1 18 t) (μ.1 19 t) (hI.or ht) (hI.ta ht) 0) (xw_at tW_20 24 rfl) (100, 0) cM_0 rfl rfl rfl rfl (by rfl) (Nat.le_of_ble_eq_true rfl) (xdec_at tX5_comes_2 25 rfl) ⟨(Nat.le_of_ble_eq_true rfl), (Nat.le_of_ble_eq_true rfl)⟩ ⟨(Nat.le_of_ble_eq_true rfl), (Nat.le_of_ble_eq_true rfl)⟩ ?_
            rintro v9 lay9 C9 ⟨rfl, rfl, rfl⟩
            refine v_goto (tgt := 203) X (xdec_at tX5_comes_2 26 rfl) (by decide) ?_
            refine v_iconst (v := 1) X (xdec_at tX5_comes_3 9 rfl) (by decide) ?_
            have e9 : M_comes μ t = (1, (M_pays ((up2 μ.1 23 t 2), (up2 μ.2 8 (ix (μ.1 19 t)) ((μ.2 8 (ix (μ.1 19 t))) + (M_taxOf μ t)))) (ix (μ.1 18 t)) (ix (μ.1 19 t)) 0)) := by simp [M_comes, up2_at, (eq_true c_12), c_21, c_27, (eq_true c_109), c_144]
            exact v_iret X hr (xdec_at tX5_comes_3 10 rfl) (Nat.le_of_ble_eq_true rfl) (Nat.le_of_ble_eq_true rfl) ⟨rfl, by rw [e9], by rw [e9]⟩
      · refine v_aload_n X (xdec_at tX5_comes_0 18 rfl) rfl rfl ?_
        refine r_A X 19 (by decide) rfl rfl (xdec_at tX5_comes_0 19 rfl) ?_
        refine v_iload_n X (xdec_at tX5_comes_0 20 rfl) rfl rfl ?_
        refine r_In (v := (μ.1 19 t)) X 19 (by decide) rfl rfl ht (xdec_at tX5_comes_0 21 rfl) rfl ?_
        refine v_aload_n X (xdec_at tX5_comes_0 22 rfl) rfl rfl ?_
        refine r_A X 18 (by decide) rfl rfl (xdec_at tX5_comes_0 23 rfl) ?_
        refine v_iload_n X (xdec_at tX5_comes_0 24 rfl) rfl rfl ?_
        refine r_In (v := (μ.1 18 t)) X 18 (by decide) rfl rfl ht (xdec_at tX5_comes_0 25 rfl) rfl ?_
        refine v_icmp_eq (tgt := 66) X (xdec_at tX5_comes_0 26 rfl) (by decide) (fun c_42 => ?_) (fun c_42 => ?_)
        · refine v_aload_n X (xdec_at tX5_comes_1 2 rfl) rfl rfl ?_
          refine r_A X 23 (by decide) rfl rfl (xdec_at tX5_comes_1 3 rfl) ?_
          refine v_iload_n X (xdec_at tX5_comes_1 4 rfl) rfl rfl ?_
          refine v_iconst (v := 2) X (xdec_at tX5_comes_1 5 rfl) (by decide) ?_
          refine r_PIn X 23 (by decide) rfl rfl ht (xdec_at tX5_comes_1 6 rfl) ?_
          refine v_aload_n X (xdec_at tX5_comes_1 7 rfl) rfl rfl ?_
          refine r_A X 27 (by decide) rfl rfl (xdec_at tX5_comes_1 8 rfl) ?_
          refine v_iload_n X (xdec_at tX5_comes_1 9 rfl) rfl rfl ?_
          refine r_Zn (v := (μ.1 27 t)) X 27 (by decide) rfl rfl ht (xdec_at tX5_comes_1 10 rfl) rfl ?_
          refine v_if_ne (tgt := 203) X (xdec_at tX5_comes_1 11 rfl) (by decide) (fun h9 => absurd c_12 h9) (fun _ => ?_)
          refine v_aload_n X (xdec_at tX5_comes_1 12 rfl) rfl rfl ?_
          refine r_A X 8 (by decide) rfl rfl (xdec_at tX5_comes_1 13 rfl) ?_
          refine v_aload_n X (xdec_at tX5_comes_1 14 rfl) rfl rfl ?_
          refine r_A X 19 (by decide) rfl rfl (xdec_at tX5_comes_1 15 rfl) ?_
          refine v_iload_n X (xdec_at tX5_comes_1 16 rfl) rfl rfl ?_
          refine r_In (v := (μ.1 19 t)) X 19 (by decide) rfl rfl ht (xdec_at tX5_comes_1 17 rfl) rfl ?_
          refine v_dup2_11 X (xdec_at tX5_comes_1 18 rfl) rfl rfl ?_
          refine r_L (v := (μ.2 8 (ix (μ.1 19 t)))) X 8 (by decide) rfl rfl (hI.ta ht) (xdec_at tX5_comes_1 19 rfl) rfl ?_
          refine v_lload_n X (xdec_at tX5_comes_1 20 rfl) rfl rfl ?_
          refine v_ladd X (xdec_at tX5_comes_1 21 rfl) ?_
          refine r_PL X 8 (by decide) rfl rfl (hI.ta ht) (xdec_at tX5_comes_1 22 rfl) ?_
          refine v_aload_n X (xdec_at tX5_comes_1 23 rfl) rfl rfl ?_
          refine r_A X 19 (by decide) rfl rfl (xdec_at tX5_comes_1 24 rfl) ?_
          refine v_iload_n X (xdec_at tX5_comes_1 25 rfl) rfl rfl ?_
          refine r_In (v := (μ.1 19 t)) X 19 (by decide) rfl rfl ht (xdec_at tX5_comes_1 26 rfl) rfl ?_
          refine v_aload_n X (xdec_at tX5_comes_1 27 rfl) rfl rfl ?_
          refine r_A X 18 (by decide) rfl rfl (xdec_at tX5_comes_1 28 rfl) ?_
          refine v_iload_n X (xdec_at tX5_comes_1 29 rfl) rfl rfl ?_
          refine r_In (v := (μ.1 18 t)) X 18 (by decide) rfl rfl ht (xdec_at tX5_comes_1 30 rfl) rfl ?_
          refine v_icmp_ne (tgt := 116) X (xdec_at tX5_comes_1 31 rfl) (by decide) (fun h9 => absurd c_42 h9) (fun _ => ?_)
          refine v_iconst (v := 0) X (xdec_at tX5_comes_1 32 rfl) (by decide) ?_
          refine v_goto (tgt := 136) X (xdec_at tX5_comes_1 33 rfl) (by decide) ?_
          refine v_istore (lv' := [some (.ref (lay (100, 0))), some (.int (nI t)), some (.long (M_taxOf μ t)), none, some (.int 0)]) X (xdec_at tX5_comes_2 8 rfl) (by decide) rfl ?_
          refine v_aload_n X (xdec_at tX5_comes_2 9 rfl) rfl rfl ?_
          refine r_A X 21 (by decide) rfl rfl (xdec_at tX5_comes_2 10 rfl) ?_
          refine v_iload_n X (xdec_at tX5_comes_2 11 rfl) rfl rfl ?_
          refine r_Zn (v := (μ.1 21 t)) X 21 (by decide) rfl rfl ht (xdec_at tX5_comes_2 12 rfl) rfl ?_
          refine v_if_eq (tgt := 169) X (xdec_at tX5_comes_2 13 rfl) (by decide) (fun c_144 => ?_) (fun c_144 => ?_)
          · refine v_aload_n X (xdec_at tX5_comes_2 27 rfl) rfl rfl ?_
            refine r_S (v := (μ.1 36 0)) X 36 (by decide) rfl rfl (xdec_at tX5_comes_2 28 rfl) rfl ?_
            refine v_if_eq (tgt := 203) X (xdec_at tX5_comes_2 29 rfl) (by decide) (fun c_173 => ?_) (fun c_173 => ?_)
            · refine v_iconst (v := 1) X (xdec_at tX5_comes_3 9 rfl) (by decide) ?_
              have e9 : M_comes μ t = (1, ((up2 μ.1 23 t 2), (up2 μ.2 8 (ix (μ.1 19 t)) ((μ.2 8 (ix (μ.1 19 t))) + (M_taxOf μ t))))) := by simp [M_comes, up2_at, (eq_true c_12), c_21, c_27, (eq_true c_42), (eq_true c_144), (eq_true c_173)]
              exact v_iret X hr (xdec_at tX5_comes_3 10 rfl) (Nat.le_of_ble_eq_true rfl) (Nat.le_of_ble_eq_true rfl) ⟨rfl, by rw [e9], by rw [e9]⟩
            · refine v_aload_n X (xdec_at tX5_comes_2 30 rfl) rfl rfl ?_
              refine r_A X 9 (by decide) rfl rfl (xdec_at tX5_comes_2 31 rfl) ?_
              refine v_bipush (v := 8) X (xdec_at tX5_comes_2 32 rfl) (by decide) ?_
              refine v_aload_n X (xdec_at tX5_comes_2 33 rfl) rfl rfl ?_
              refine r_A X 18 (by decide) rfl rfl (xdec_at tX5_comes_2 34 rfl) ?_
              refine v_iload_n X (xdec_at tX5_comes_2 35 rfl) rfl rfl ?_
              refine r_In (v := (μ.1 18 t)) X 18 (by decide) rfl rfl ht (xdec_at tX5_comes_2 36 rfl) rfl ?_
              refine v_imul X (xdec_at tX5_comes_2 37 rfl) ?_
              refine v_aload_n X (xdec_at tX5_comes_2 38 rfl) rfl rfl ?_
              refine r_A X 19 (by decide) rfl rfl (xdec_at tX5_comes_2 39 rfl) ?_
              refine v_iload_n X (xdec_at tX5_comes_3 0 rfl) rfl rfl ?_
              refine r_In (v := (μ.1 19 t)) X 19 (by decide) rfl rfl ht (xdec_at tX5_comes_3 1 rfl) rfl ?_
              refine v_iadd X (xdec_at tX5_comes_3 2 rfl) ?_
              refine v_dup2_11 X (xdec_at tX5_comes_3 3 rfl) rfl rfl ?_
              refine r_L (v := (μ.2 9 (ix ((8 * (μ.1 18 t)) + (μ.1 19 t))))) X 9 (by decide) rfl rfl (in_8k (hI.or ht) (hI.ta ht)).1 (xdec_at tX5_comes_3 4 rfl) rfl ?_
              refine v_iload X (xdec_at tX5_comes_3 5 rfl) rfl ?_
              refine v_i2l (v := 0) X (xdec_at tX5_comes_3 6 rfl) (by decide) ?_
              refine v_ladd X (xdec_at tX5_comes_3 7 rfl) ?_
              refine r_PL X 9 (by decide) rfl rfl (in_8k (hI.or ht) (hI.ta ht)).1 (xdec_at tX5_comes_3 8 rfl) ?_
              refine v_iconst (v := 1) X (xdec_at tX5_comes_3 9 rfl) (by decide) ?_
              have e9 : M_comes μ t = (1, ((up2 μ.1 23 t 2), (up2 (up2 μ.2 8 (ix (μ.1 19 t)) ((μ.2 8 (ix (μ.1 19 t))) + (M_taxOf μ t))) 9 (ix ((8 * (μ.1 18 t)) + (μ.1 19 t))) ((μ.2 9 (ix ((8 * (μ.1 18 t)) + (μ.1 19 t)))) + 0)))) := by simp [M_comes, up2_at, (eq_true c_12), c_21, c_27, (eq_true c_42), (eq_true c_144), c_173]
              exact v_iret X hr (xdec_at tX5_comes_3 10 rfl) (Nat.le_of_ble_eq_true rfl) (Nat.le_of_ble_eq_true rfl) ⟨rfl, by rw [e9], by rw [e9]⟩
          · refine v_aload_n X (xdec_at tX5_comes_2 14 rfl) rfl rfl ?_
            refine v_aload_n X (xdec_at tX5_comes_2 15 rfl) rfl rfl ?_
            refine r_A X 18 (by decide) rfl rfl (xdec_at tX5_comes_2 16 rfl) ?_
            refine v_iload_n X (xdec_at tX5_comes_2 17 rfl) rfl rfl ?_
            refine r_In (v := (μ.1 18 t)) X 18 (by decide) rfl rfl ht (xdec_at tX5_comes_2 18 rfl) rfl ?_
            refine v_aload_n X (xdec_at tX5_comes_2 19 rfl) rfl rfl ?_
            refine r_A X 19 (by decide) rfl rfl (xdec_at tX5_comes_2 20 rfl) ?_
            refine v_iload_n X (xdec_at tX5_comes_2 21 rfl) rfl rfl ?_
            refine r_In (v := (μ.1 19 t)) X 19 (by decide) rfl rfl ht (xdec_at tX5_comes_2 22 rfl) rfl ?_
            refine v_iload X (xdec_at tX5_comes_2 23 rfl) rfl ?_
            refine v_i2l (v := 0) X (xdec_at tX5_comes_2 24 rfl) (by decide) ?_
            refine v_callV X myX5_pays [.int (μ.1 18 t), .int (μ.1 19 t), .long 0] [] (c_pays l Z B0 lay ((up2 μ.1 23 t 2), (up2 μ.2 8 (ix (μ.1 19 t)) ((μ.2 8 (ix (μ.1 19 t))) + (M_taxOf μ t)))) r (μ.1 18 t) (μ.1 19 t) (hI.or ht) (hI.ta ht) 0) (xw_at tW_20 24 rfl) (100, 0) cM_0 rfl rfl rfl rfl (by rfl) (Nat.le_of_ble_eq_true rfl) (xdec_at tX5_comes_2 25 rfl) ⟨(Nat.le_of_ble_eq_true rfl), (Nat.le_of_ble_eq_true rfl)⟩ ⟨(Nat.le_of_ble_eq_true rfl), (Nat.le_of_ble_eq_true rfl)⟩ ?_
            rintro v9 lay9 C9 ⟨rfl, rfl, rfl⟩
            refine v_goto (tgt := 203) X (xdec_at tX5_comes_2 26 rfl) (by decide) ?_
            refine v_iconst (v := 1) X (xdec_at tX5_comes_3 9 rfl) (by decide) ?_
            have e9 : M_comes μ t = (1, (M_pays ((up2 μ.1 23 t 2), (up2 μ.2 8 (ix (μ.1 19 t)) ((μ.2 8 (ix (μ.1 19 t))) + (M_taxOf μ t)))) (ix (μ.1 18 t)) (ix (μ.1 19 t)) 0)) := by simp [M_comes, up2_at, (eq_true c_12), c_21, c_27, (eq_true c_42), c_144]
            exact v_iret X hr (xdec_at tX5_comes_3 10 rfl) (Nat.le_of_ble_eq_true rfl) (Nat.le_of_ble_eq_true rfl) ⟨rfl, by rw [e9], by rw [e9]⟩
        · refine v_aload_n X (xdec_at tX5_comes_0 27 rfl) rfl rfl ?_
          refine r_A X 27 (by decide) rfl rfl (xdec_at tX5_comes_0 28 rfl) ?_
          refine v_iload_n X (xdec_at tX5_comes_0 29 rfl) rfl rfl ?_
          refine v_iconst (v := 1) X (xdec_at tX5_comes_0 30 rfl) (by decide) ?_
          refine r_PZn X 27 (by decide) rfl rfl (Or.inr rfl) ht (xdec_at tX5_comes_0 31 rfl) ?_
          refine v_aload_n X (xdec_at tX5_comes_0 32 rfl) rfl rfl ?_
          refine r_A X 19 (by decide) rfl rfl (xdec_at tX5_comes_0 33 rfl) ?_
          refine v_iload_n X (xdec_at tX5_comes_0 34 rfl) rfl rfl ?_
          refine v_aload_n X (xdec_at tX5_comes_0 35 rfl) rfl rfl ?_
          refine r_A X 18 (by decide) rfl rfl (xdec_at tX5_comes_0 36 rfl) ?_
          refine v_iload_n X (xdec_at tX5_comes_0 37 rfl) rfl rfl ?_
          refine r_In (v := (μ.1 18 t)) X 18 (by decide) rfl rfl ht (xdec_at tX5_comes_0 38 rfl) rfl ?_
          refine r_PIn X 19 (by decide) rfl rfl ht (xdec_at tX5_comes_0 39 rfl) ?_
          refine v_iconst (v := 0) X (xdec_at tX5_comes_1 0 rfl) (by decide) ?_
          have e9 : M_comes μ t = (0, ((up2 (up2 μ.1 27 t 1) 19 t (μ.1 18 t)), μ.2)) := by simp [M_comes, up2_at, (eq_true c_12), c_21, c_27, c_42]
          exact v_iret X hr (xdec_at tX5_comes_1 1 rfl) (Nat.le_of_ble_eq_true rfl) (Nat.le_of_ble_eq_true rfl) ⟨rfl, by rw [e9], by rw [e9]⟩
set_option maxRecDepth 100000 in
set_option maxHeartbeats 4000000 in
theorem c_travels (l : Launch) (Z : xZ) (B0 : Nat) (lay : xK → Nat) (μ : Mu) (r : xK → Option xE) (t : Nat) (ht : t < 40) (hI : RI μ) : YM l yX5_travels cX5_travels 2 ((some FieldType.int)) 2 48 0 0 Z B0 [.ref (lay (100, 0)), .int (nI t)] lay (cM Z lay μ r) (fun v lay' C' => lay = lay' ∧ v = some (.int (M_travels μ t).1) ∧ C' = cM Z lay (M_travels μ t).2 r) := by
  refine YM_of myX5_travels.2.2 RX5 rfl [some (.ref (lay (100, 0))), some (.int (nI t))] rfl (Nat.le_of_ble_eq_true rfl) ?_
  intro P1 P2 P3 P4 P5 P6 P7 P8 X hr hnm
  refine v_aload_n X (xdec_at tX5_travels_0 0 rfl) rfl rfl ?_
  refine r_A X 26 (by decide) rfl rfl (xdec_at tX5_travels_0 1 rfl) ?_
  refine v_iload_n X (xdec_at tX5_travels_0 2 rfl) rfl rfl ?_
  refine v_dup2_11 X (xdec_at tX5_travels_0 3 rfl) rfl rfl ?_
  refine r_In (v := (μ.1 26 t)) X 26 (by decide) rfl rfl ht (xdec_at tX5_travels_0 4 rfl) rfl ?_
  refine v_iconst (v := 1) X (xdec_at tX5_travels_0 5 rfl) (by decide) ?_
  refine v_isub X (xdec_at tX5_travels_0 6 rfl) ?_
  refine r_PIn X 26 (by decide) rfl rfl ht (xdec_at tX5_travels_0 7 rfl) ?_
  refine v_aload_n X (xdec_at tX5_travels_0 8 rfl) rfl rfl ?_
  refine r_A X 26 (by decide) rfl rfl (xdec_at tX5_travels_0 9 rfl) ?_
  refine v_iload_n X (xdec_at tX5_travels_0 10 rfl) rfl rfl ?_
  refine r_In (v := ((μ.1 26 t) - 1)) X 26 (by decide) rfl rfl ht (xdec_at tX5_travels_0 11 rfl) (by simp [up2_at]) ?_
  refine v_if_le (tgt := 21) X (xdec_at tX5_travels_0 12 rfl) (by decide) (fun c_16 => ?_) (fun c_16 => ?_)
  · refine v_aload_n X (xdec_at tX5_travels_0 15 rfl) rfl rfl ?_
    refine r_A X 23 (by decide) rfl rfl (xdec_at tX5_travels_0 16 rfl) ?_
    refine v_iload_n X (xdec_at tX5_travels_0 17 rfl) rfl rfl ?_
    refine v_iconst (v := 0) X (xdec_at tX5_travels_0 18 rfl) (by decide) ?_
    refine r_PIn X 23 (by decide) rfl rfl ht (xdec_at tX5_travels_0 19 rfl) ?_
    refine v_aload_n X (xdec_at tX5_travels_0 20 rfl) rfl rfl ?_
    refine r_A X 25 (by decide) rfl rfl (xdec_at tX5_travels_0 21 rfl) ?_
    refine v_iload_n X (xdec_at tX5_travels_0 22 rfl) rfl rfl ?_
    refine v_iconst (v := (-1)) X (xdec_at tX5_travels_0 23 rfl) (by decide) ?_
    refine r_PIn X 25 (by decide) rfl rfl ht (xdec_at tX5_travels_0 24 rfl) ?_
    refine v_aload_n X (xdec_at tX5_travels_0 25 rfl) rfl rfl ?_
    refine v_iload_n X (xdec_at tX5_travels_0 26 rfl) rfl rfl ?_
    refine v_aload_n X (xdec_at tX5_travels_0 27 rfl) rfl rfl ?_
    refine r_A X 24 (by decide) rfl rfl (xdec_at tX5_travels_0 28 rfl) ?_
    refine v_iload_n X (xdec_at tX5_travels_0 29 rfl) rfl rfl ?_
    refine r_In (v := (μ.1 24 t)) X 24 (by decide) rfl rfl ht (xdec_at tX5_travels_0 30 rfl) rfl ?_
    refine v_callV X myX5_signs [.int (nI t), .int (μ.1 24 t)] [] (c_signs l Z B0 lay ((up2 (up2 (up2 μ.1 26 t ((μ.1 26 t) - 1)) 23 t 0) 25 t (-1)), μ.2) r t ht (μ.1 24 t) (RI_up (RI_F (RI_F (A := μ.1) (J := μ.2) hI (j := 26) rfl _ _) (j := 23) rfl _ _) (ok25 (Or.inl rfl)))) (xw_at tW_19 33 rfl) (100, 0) cM_0 rfl rfl rfl rfl (by rfl) (Nat.le_of_ble_eq_true rfl) (xdec_at tX5_travels_0 31 rfl) ⟨(Nat.le_of_ble_eq_true rfl), (Nat.le_of_ble_eq_true rfl)⟩ ⟨(Nat.le_of_ble_eq_true rfl), (Nat.le_of_ble_eq_true rfl)⟩ ?_
    rintro v9 lay9 C9 ⟨rfl, rfl, rfl⟩
    refine v_aload_n X (xdec_at tX5_travels_0 32 rfl) rfl rfl ?_
    refine r_A X 24 (by decide) rfl rfl (xdec_at tX5_travels_0 33 rfl) ?_
    refine v_iload_n X (xdec_at tX5_travels_0 34 rfl) rfl rfl ?_
    refine r_In (v := ((M_signs ((up2 (up2 (up2 μ.1 26 t ((μ.1 26 t) - 1)) 23 t 0) 25 t (-1)), μ.2) t (μ.1 24 t)).1 24 t)) X 24 (by decide) rfl rfl ht (xdec_at tX5_travels_0 35 rfl) rfl ?_
    refine v_aload_n X (xdec_at tX5_travels_0 36 rfl) rfl rfl ?_
    refine r_A X 19 (by decide) rfl rfl (xdec_at tX5_travels_0 37 rfl) ?_
    refine v_iload_n X (xdec_at tX5_travels_0 38 rfl) rfl rfl ?_
    refine r_In (v := ((M_signs ((up2 (up2 (up2 μ.1 26 t ((μ.1 26 t) - 1)) 23 t 0) 25 t (-1)), μ.2) t (μ.1 24 t)).1 19 t)) X 19 (by decide) rfl rfl ht (xdec_at tX5_travels_0 39 rfl) rfl ?_
    refine v_icmp_ne (tgt := 69) X (xdec_at tX5_travels_1 0 rfl) (by decide) (fun c_58 => ?_) (fun c_58 => ?_)
    · refine v_iconst (v := 0) X (xdec_at tX5_travels_1 5 rfl) (by decide) ?_
      have e9 : M_travels μ t = (0, (M_signs ((up2 (up2 (up2 μ.1 26 t ((μ.1 26 t) - 1)) 23 t 0) 25 t (-1)), μ.2) t (μ.1 24 t))) := by simp [M_travels, up2_at, c_16, c_58]
      exact v_iret X hr (xdec_at tX5_travels_1 6 rfl) (Nat.le_of_ble_eq_true rfl) (Nat.le_of_ble_eq_true rfl) ⟨rfl, by rw [e9], by rw [e9]⟩
    · refine v_aload_n X (xdec_at tX5_travels_1 1 rfl) rfl rfl ?_
      refine v_iload_n X (xdec_at tX5_travels_1 2 rfl) rfl rfl ?_
      have hI2 : RI (M_signs ((up2 (up2 (up2 μ.1 26 t ((μ.1 26 t) - 1)) 23 t 0) 25 t (-1)), μ.2) t (μ.1 24 t)) := RI_signs (RI_up (RI_F (RI_F (A := μ.1) (J := μ.2) hI (j := 26) rfl _ _) (j := 23) rfl _ _) (ok25 (Or.inl rfl))) t (μ.1 24 t)
      refine v_callV X myX5_comes [.int (nI t)] [] (c_comes l Z B0 lay (M_signs ((up2 (up2 (up2 μ.1 26 t ((μ.1 26 t) - 1)) 23 t 0) 25 t (-1)), μ.2) t (μ.1 24 t)) r t ht hI2) (xw_at tW_20 17 rfl) (100, 0) cM_0 rfl rfl rfl rfl (by rfl) (Nat.le_of_ble_eq_true rfl) (xdec_at tX5_travels_1 3 rfl) ⟨(Nat.le_of_ble_eq_true rfl), (Nat.le_of_ble_eq_true rfl)⟩ ⟨(Nat.le_of_ble_eq_true rfl), (Nat.le_of_ble_eq_true rfl)⟩ ?_
      rintro v9 lay9 C9 ⟨rfl, rfl, rfl⟩
      refine v_goto (tgt := 70) X (xdec_at tX5_travels_1 4 rfl) (by decide) ?_
      have e9 : M_travels μ t = ((M_comes (M_signs ((up2 (up2 (up2 μ.1 26 t ((μ.1 26 t) - 1)) 23 t 0) 25 t (-1)), μ.2) t (μ.1 24 t)) t).1, (M_comes (M_signs ((up2 (up2 (up2 μ.1 26 t ((μ.1 26 t) - 1)) 23 t 0) 25 t (-1)), μ.2) t (μ.1 24 t)) t).2) := by simp [M_travels, up2_at, c_16, (eq_true c_58)]
      exact v_iret X hr (xdec_at tX5_travels_1 6 rfl) (Nat.le_of_ble_eq_true rfl) (Nat.le_of_ble_eq_true rfl) ⟨rfl, by rw [e9], by rw [e9]⟩
  · refine v_iconst (v := 0) X (xdec_at tX5_travels_0 13 rfl) (by decide) ?_
    have e9 : M_travels μ t = (0, ((up2 μ.1 26 t ((μ.1 26 t) - 1)), μ.2)) := by simp [M_travels, up2_at, c_16]
    exact v_iret X hr (xdec_at tX5_travels_0 14 rfl) (Nat.le_of_ble_eq_true rfl) (Nat.le_of_ble_eq_true rfl) ⟨rfl, by rw [e9], by rw [e9]⟩
end
section
/-! what the days' steps leave as it was -/
def kep (j : Nat) : Bool := !(j == 15 || j == 19 || j == 23 || j == 24 || j == 25 || j == 26 || j == 27 || j == 30 || j == 31 || j == 32 || j == 33 || j == 34 || j == 35)
theorem up2_k {A : Nat → Nat → Int32} {j i : Nat} {v : Int32} {a : Nat} (ha : kep a = true) (hj : kep j = false) : up2 A j i v a = A a := up2_ne _ _ _ _ _ (fun q => by rw [q, hj] at ha; cases ha)
theorem kep_signs (μ : Mu) (t : Nat) (a : Int32) {j : Nat} (h : kep j = true) : (M_signs μ t a).1 j = μ.1 j := by
  unfold M_signs
  split
  · rfl
  · dsimp only
    rw [up2_k h rfl, up2_k h rfl, up2_k h rfl]
    split
    · rw [up2_k h rfl, up2_k h rfl, up2_k h rfl]
    · rw [up2_k h rfl, up2_k h rfl, up2_k h rfl]
theorem kep_comes (μ : Mu) (t : Nat) {j : Nat} (h : kep j = true) : (M_comes μ t).2.1 j = μ.1 j := by
  unfold M_comes M_pays
  split
  · dsimp only; rw [up2_k h rfl, up2_k h rfl]
  · split
    · dsimp only
      split
      · exact up2_k h rfl
      · split
        · exact up2_k h rfl
        · exact up2_k h rfl
    · dsimp only; rw [up2_k h rfl]
theorem kep_travels (μ : Mu) (t : Nat) {j : Nat} (h : kep j = true) : (M_travels μ t).2.1 j = μ.1 j := by
  unfold M_travels
  split
  · dsimp only; rw [up2_k h rfl]
  · dsimp only
    split
    · rw [kep_comes _ _ h, kep_signs _ _ _ h]
      dsimp only
      rw [up2_k h rfl, up2_k h rfl, up2_k h rfl]
    · dsimp only
      rw [kep_signs _ _ _ h]
      dsimp only
      rw [up2_k h rfl, up2_k h rfl, up2_k h rfl]
theorem kep_leaves (μ : Mu) (t : Nat) {j : Nat} (h : kep j = true) : (M_leaves μ t).1 j = μ.1 j := by
  have h15 : j ≠ 15 := by rintro rfl; cases h
  have e : ∀ a b, (M_nextOf μ a b).2.1 j = μ.1 j := fun a b => M_meas_ne μ b h15
  unfold M_leaves M_pays
  split
  · rfl
  · dsimp only
    split
    · exact e _ _
    · split
      · dsimp only
        rw [up2_k h rfl, up2_k h rfl, up2_k h rfl, up2_k h rfl]; exact e _ _
      · dsimp only
        rw [up2_k h rfl, up2_k h rfl, up2_k h rfl, up2_k h rfl]; exact e _ _
theorem RI_comes {μ : Mu} (h : RI μ) {t : Nat} (ht : t < 40) : RI (M_comes μ t).2 := by
  unfold M_comes M_pays
  split
  · exact RI_up (RI_up (A := μ.1) (J := μ.2) h (okb (by simp) (Or.inr rfl))) (ok8 (by simp) (h.or ht))
  · have h1 : ∀ J, RI (up2 μ.1 23 t 2, J) := fun J => RI_F (A := μ.1) (J := J) h rfl _ _
    split
    · dsimp only
      split
      · exact h1 _
      · split
        · exact h1 _
        · exact h1 _
    · exact h1 _
theorem RI_travels {μ : Mu} (h : RI μ) {t : Nat} (ht : t < 40) : RI (M_travels μ t).2 := by
  unfold M_travels
  split
  · exact RI_F (A := μ.1) (J := μ.2) h rfl _ _
  · dsimp only
    have h1 : RI (M_signs (up2 (up2 (up2 μ.1 26 t (μ.1 26 t - 1)) 23 t 0) 25 t (-1), μ.2) t (μ.1 24 t)) := RI_signs (RI_up (RI_F (RI_F (A := μ.1) (J := μ.2) h (j := 26) rfl _ _) (j := 23) rfl _ _) (ok25 (Or.inl rfl))) t _
    split
    · exact RI_comes h1 ht
    · exact h1
theorem M_nx_in (A : Nat → Nat → Int32) (fr : Int32) : ∀ (n : Nat) (fd : Int32), M_nx A fr n fd = fd ∨ ∃ g, g < n ∧ M_nx A fr n fd = nI g
  | 0, fd => Or.inl rfl
  | n + 1, fd => by
    rw [M_nx]
    rcases M_nx_in A fr n (M_nxs A fr n fd) with h | ⟨g, hg, h⟩
    · rw [h]
      unfold M_nxs
      split
      · split
        · exact Or.inr ⟨n, by omega, rfl⟩
        · exact Or.inl rfl
      · exact Or.inl rfl
    · exact Or.inr ⟨g, by omega, h⟩
theorem M_nextOf_in {μ : Mu} (h : RI μ) (a b : Int32) : (M_nextOf μ a b).1 = -1 ∨ (vp_in (M_nextOf μ a b).1 20 ∧ ix (M_nextOf μ a b).1 < ix (μ.1 10 0)) := by
  unfold M_nextOf
  obtain ⟨n, hn, e⟩ := h.2.1
  have hx : ix (μ.1 10 0) = n := by rw [e, ix_nI (by omega)]
  dsimp only
  split
  · rcases M_nx_in (M_meas μ b).1 a (ix (μ.1 10 0)) (-1) with q | ⟨g, hg, q⟩
    · exact Or.inl q
    · right
      rw [q, hx] at *
      exact ⟨vp_in_nI (by omega) (by decide), by rw [ix_nI (by omega)]; exact hg⟩
  · exact Or.inl rfl
theorem across_in {μ : Mu} (h : RI μ) {g : Nat} (hg : g < 20) (f : Int32) : vp_in (M_across μ.1 g f) 8 := by
  unfold M_across
  split
  · exact h.o2 hg
  · exact h.o1 hg
theorem RI_leaves {μ : Mu} (h : RI μ) {t : Nat} (ht : t < 40) : RI (M_leaves μ t) := by
  unfold M_leaves M_pays
  split
  · exact h
  · dsimp only
    have h1 : RI (M_nextOf μ (μ.1 24 t) (μ.1 19 t)).2 := RI_meas h _
    split
    · exact h1
    · next q =>
      rcases M_nextOf_in h (μ.1 24 t) (μ.1 19 t) with z | ⟨z, -⟩
      · exact absurd z q
      · have h2 : ∀ J, RI (up2 (up2 (up2 (up2 (M_nextOf μ (μ.1 24 t) (μ.1 19 t)).2.1 23 t 1) 25 t (M_nextOf μ (μ.1 24 t) (μ.1 19 t)).1) 26 t ((M_nextOf μ (μ.1 24 t) (μ.1 19 t)).2.1 13 (ix (M_nextOf μ (μ.1 24 t) (μ.1 19 t)).1))) 24 t (M_across (M_nextOf μ (μ.1 24 t) (μ.1 19 t)).2.1 (ix (M_nextOf μ (μ.1 24 t) (μ.1 19 t)).1) (μ.1 24 t)), J) := fun J => RI_up (RI_F (RI_up (RI_F (A := (M_nextOf μ (μ.1 24 t) (μ.1 19 t)).2.1) (J := J) h1 rfl _ _) (ok25 (Or.inr z))) rfl _ _) (ok8 (by simp) (across_in h1 (in_ix z) _))
        split
        · exact h2 _
        · exact h2 _
theorem RI_g1 {q : Int32 × Mu} (h : RI q.2) (tn : Nat) : ∀ (n : Nat), n ≤ 40 → RI (M_g1 tn n q).2
  | 0, _ => h
  | n + 1, hn => by
    rw [M_g1]
    split
    · exact RI_travels (RI_g1 h tn n (by omega)) (by omega)
    · exact RI_g1 h tn n (by omega)
theorem RI_g2 {μ : Mu} (h : RI μ) : ∀ (n : Nat), n ≤ 40 → RI (M_g2 n μ)
  | 0, _ => h
  | n + 1, hn => by
    rw [M_g2]
    split
    · exact RI_leaves (RI_g2 h n (by omega)) (by omega)
    · exact RI_g2 h n (by omega)
theorem kep_g1 (q : Int32 × Mu) (tn : Nat) {j : Nat} (h : kep j = true) : ∀ (n : Nat), (M_g1 tn n q).2.1 j = q.2.1 j
  | 0 => rfl
  | n + 1 => by
    rw [M_g1]
    split
    · dsimp only; rw [kep_travels _ _ h, kep_g1 q tn h n]
    · dsimp only; rw [kep_g1 q tn h n]
theorem kep_g2 (μ : Mu) {j : Nat} (h : kep j = true) : ∀ (n : Nat), (M_g2 n μ).1 j = μ.1 j
  | 0 => rfl
  | n + 1 => by
    rw [M_g2]
    split
    · rw [kep_leaves _ _ h, kep_g2 μ h n]
    · rw [kep_g2 μ h n]
theorem RI_day {q : Int32 × Mu} (h : RI q.2) : RI (M_day q).2 := by
  obtain ⟨n, hn, e⟩ := h.2.2.1
  have hx : ix (q.2.1 16 0) = n := by rw [e, ix_nI (by omega)]
  unfold M_day
  rw [hx]
  exact RI_g2 (RI_g1 h n n hn) n hn
theorem kep_day (q : Int32 × Mu) {j : Nat} (h : kep j = true) : (M_day q).2.1 j = q.2.1 j := by
  unfold M_day
  show (M_g2 _ _).1 j = _
  rw [kep_g2 _ h, kep_g1 _ _ h]
theorem RI_days {q : Int32 × Mu} (h : RI q.2) : ∀ (n : Nat), RI (M_days n q).2
  | 0 => h
  | n + 1 => RI_day (RI_days h n)
theorem kep_days (q : Int32 × Mu) {j : Nat} (h : kep j = true) : ∀ (n : Nat), (M_days n q).2.1 j = q.2.1 j
  | 0 => rfl
  | n + 1 => by rw [M_days, kep_day _ h, kep_days q h n]
theorem im1 (x : Int32) : x + Int32.ofInt (-1) = x - 1 := by
  rw [Int32.sub_eq_add_neg]
  rfl
section XG
variable {p : Program} {l : Launch} {e : Env} {R : Room} {s : State} {m : MethodId} {args : Array Value} {below : List Frame} {meth : Method} {c : Code} {Q : State → Prop} {Z : xZ} {B0 nL : Nat} {lay : xK → Nat} {cells slots : Nat}
/-- a loop that counts down, with a state of its own -/
theorem v_down {σ : Type} (Cf : xK → Option xE) (lvf : Nat → σ → List (Option Value)) (head : Nat) (I : Nat → σ → Prop) (step : ∀ k x, I (k + 1) x → (∀ y, I k y → V p l e R s m args below meth c Q Z B0 nL lay Cf cells slots head (lvf k y) []) → V p l e R s m args below meth c Q Z B0 nL lay Cf cells slots head (lvf (k + 1) x) []) (ex : ∀ x, I 0 x → V p l e R s m args below meth c Q Z B0 nL lay Cf cells slots head (lvf 0 x) []) : ∀ (n : Nat) (x : σ), I n x → V p l e R s m args below meth c Q Z B0 nL lay Cf cells slots head (lvf n x) []
  | 0, x, h => ex x h
  | n + 1, x, h => step n x h (fun y hy => v_down Cf lvf head I step ex n y hy)
end XG
theorem M_paysFor_1 (μ : Mu) (t : Nat) (a k : Int32) : (M_paysFor μ t a k).2.1 = μ.1 := by
  unfold M_paysFor M_pays
  split <;> rfl
theorem d8 {i : Nat} (h : i < 64) : nI i / 8 = nI (i / 8) := by rw [n8]; exact pk_div (by omega) (by decide) (by decide)
theorem r8 {i : Nat} (h : i < 64) : nI i - nI i / 8 * 8 = nI (i % 8) := by rw [n8]; exact pk_rem (by omega) (by decide) (by decide)
theorem inR_ix {d : Int32} {M : Nat} (hM : M < 2 ^ 31) (h1 : inR d 1 (nI M)) : d = nI (ix d) ∧ 1 ≤ ix d ∧ ix d ≤ M := by
  have h0 : (0 : Int32) ≤ d := Int32.le_trans (by decide) h1.1
  obtain ⟨j, hj, rfl⟩ := inR_k hM ⟨h0, h1.2⟩
  rw [ix_nI (by omega)]
  refine ⟨rfl, ?_, hj⟩
  have := h1.1
  rw [show (1 : Int32) = nI 1 by decide] at this
  exact (nI_leI (by decide) (by omega)).mp this
theorem M_gs_ne (a b : Nat) (A : Nat → Nat → Int32) {j : Nat} (h : j ≠ 37) : M_gs a b A j = A j := by
  unfold M_gs
  split
  · rw [up2_ne _ _ _ _ _ h, up2_ne _ _ _ _ _ h, up2_ne _ _ _ _ _ h]
  · rfl
theorem M_g3_ne (a n : Nat) (A : Nat → Nat → Int32) {j : Nat} (h : j ≠ 37) : M_g3 a n A j = A j := by
  induction n with
  | zero => rfl
  | succ n ih => rw [M_g3, M_gs_ne _ _ _ h, ih]
theorem M_g4_ne (k n : Nat) (A : Nat → Nat → Int32) {j : Nat} (h : j ≠ 37) : M_g4 k n A j = A j := by
  induction n with
  | zero => rfl
  | succ n ih => rw [M_g4, M_g3_ne _ _ _ h, ih]
end
section
set_option maxRecDepth 100000 in
set_option maxHeartbeats 4000000 in
theorem c_measures (l : Launch) (Z : xZ) (B0 : Nat) (lay : xK → Nat) (μ : Mu) (r : xK → Option xE) (to : Int32) (hI : RI μ) : YM l yX5_measures cX5_measures 6 ((none : Option FieldType)) 0 0 0 0 Z B0 [.ref (lay (100, 0)), .int to] lay (cM Z lay μ r) (fun v lay' C' => lay = lay' ∧ v = none ∧ C' = cM Z lay (M_meas μ to) r) := by
  refine YM_of myX5_measures.2.2 RX5 rfl [some (.ref (lay (100, 0))), some (.int to), none, none, none, none] rfl (Nat.le_of_ble_eq_true rfl) ?_
  intro P1 P2 P3 P4 P5 P6 P7 P8 X hr hnm
  obtain ⟨nl, hnl, eL⟩ := hI.2.1
  have hix : ix (μ.1 10 0) = nl := by rw [eL, ix_nI (by omega)]
  refine v_iconst (v := 0) X (xdec_at tX5_measures_0 0 rfl) (by decide) ?_
  refine v_istore_n (lv' := [some (.ref (lay (100, 0))), some (.int to), some (.int 0), none, none, none]) X (xdec_at tX5_measures_0 1 rfl) rfl (by decide) rfl ?_
  refine v_for 8 (fun j9 => cM Z lay ((M_m1 to j9 μ.1), μ.2) r) (fun j9 => [some (.ref (lay (100, 0))), some (.int to), some (.int (nI j9)), none, none, none]) 2 [] (fun i1 hi1 ih1 => ?_) ?_
  · refine v_iload_n X (xdec_at tX5_measures_0 2 rfl) rfl rfl ?_
    refine v_bipush (v := 8) X (xdec_at tX5_measures_0 3 rfl) (by decide) ?_
    refine v_icmp_ge (tgt := 31) X (xdec_at tX5_measures_0 4 rfl) (by decide) (fun c_5 => ?_) (fun c_5 => ?_)
    · exact absurd c_5 (nI_ge (b := 8) hi1 (by decide))
    · refine v_aload_n X (xdec_at tX5_measures_0 5 rfl) rfl rfl ?_
      refine r_A X 15 (by decide) rfl rfl (xdec_at tX5_measures_0 6 rfl) ?_
      refine v_iload_n X (xdec_at tX5_measures_0 7 rfl) rfl rfl ?_
      refine v_iload_n X (xdec_at tX5_measures_0 8 rfl) rfl rfl ?_
      refine v_iload_n X (xdec_at tX5_measures_0 9 rfl) rfl rfl ?_
      refine v_icmp_ne (tgt := 22) X (xdec_at tX5_measures_0 10 rfl) (by decide) (fun c_15 => ?_) (fun c_15 => ?_)
      · refine v_ldc (v := 1000000) X (xw_at tW_19 4 rfl) (xdec_at tX5_measures_0 13 rfl) ?_
        refine r_PIn X 15 (by decide) rfl rfl hi1 (xdec_at tX5_measures_0 14 rfl) ?_
        refine v_iinc (v := (nI (i1 + 1))) (lv' := [some (.ref (lay (100, 0))), some (.int to), some (.int (nI (i1 + 1))), none, none, none]) X (xdec_at tX5_measures_0 15 rfl) rfl (nI_1 _) (by decide) rfl ?_
        refine v_goto (tgt := 2) X (xdec_at tX5_measures_0 16 rfl) (by decide) ?_
        refine v_le (lv' := [some (.ref (lay (100, 0))), some (.int to), some (.int (nI (i1 + 1))), none, none, none]) (by simp [xle]) ?_
        exact v_mu (μ' := ((M_m1 to (i1 + 1) μ.1), μ.2)) (by simp [M_m1, c_15]) ih1
      · refine v_iconst (v := 0) X (xdec_at tX5_measures_0 11 rfl) (by decide) ?_
        refine v_goto (tgt := 24) X (xdec_at tX5_measures_0 12 rfl) (by decide) ?_
        refine r_PIn X 15 (by decide) rfl rfl hi1 (xdec_at tX5_measures_0 14 rfl) ?_
        refine v_iinc (v := (nI (i1 + 1))) (lv' := [some (.ref (lay (100, 0))), some (.int to), some (.int (nI (i1 + 1))), none, none, none]) X (xdec_at tX5_measures_0 15 rfl) rfl (nI_1 _) (by decide) rfl ?_
        refine v_goto (tgt := 2) X (xdec_at tX5_measures_0 16 rfl) (by decide) ?_
        refine v_le (lv' := [some (.ref (lay (100, 0))), some (.int to), some (.int (nI (i1 + 1))), none, none, none]) (by simp [xle]) ?_
        exact v_mu (μ' := ((M_m1 to (i1 + 1) μ.1), μ.2)) (by simp [M_m1, (eq_true c_15)]) ih1
  · refine v_iload_n X (xdec_at tX5_measures_0 2 rfl) rfl rfl ?_
    refine v_bipush (v := 8) X (xdec_at tX5_measures_0 3 rfl) (by decide) ?_
    refine v_icmp_ge (tgt := 31) X (xdec_at tX5_measures_0 4 rfl) (by decide) (fun c_5 => ?_) (fun c_5 => ?_)
    · refine v_iconst (v := 0) X (xdec_at tX5_measures_0 17 rfl) (by decide) ?_
      refine v_istore_n (lv' := [some (.ref (lay (100, 0))), some (.int to), some (.int 0), none, none, none]) X (xdec_at tX5_measures_0 18 rfl) rfl (by decide) rfl ?_
      refine v_for 8 (fun j9 => cM Z lay ((M_m4 nl j9 (M_m1 to 8 μ.1)), μ.2) r) (fun j9 => [some (.ref (lay (100, 0))), some (.int to), some (.int (nI j9)), none, none, none]) 33 [] (fun i2 hi2 ih2 => ?_) ?_
      · obtain ⟨A, hA⟩ : ∃ A, A = M_m4 nl i2 (M_m1 to 8 μ.1) := ⟨_, rfl⟩
        have hkA : ∀ j, j ≠ 15 → A j = μ.1 j := fun j hj => by rw [hA, M_m4_ne _ _ _ hj, M_m1_ne _ _ _ hj]
        refine v_mu (μ' := (A, μ.2)) (by rw [hA]) ?_
        refine v_iload_n X (xdec_at tX5_measures_0 19 rfl) rfl rfl ?_
        refine v_bipush (v := 8) X (xdec_at tX5_measures_0 20 rfl) (by decide) ?_
        refine v_icmp_ge (tgt := 205) X (xdec_at tX5_measures_0 21 rfl) (by decide) (fun c_36 => ?_) (fun c_36 => ?_)
        · exact absurd c_36 (nI_ge (b := 8) hi2 (by decide))
        · refine v_iconst (v := 0) X (xdec_at tX5_measures_0 22 rfl) (by decide) ?_
          refine v_istore_n (lv' := [some (.ref (lay (100, 0))), some (.int to), some (.int (nI i2)), some (.int 0), none, none]) X (xdec_at tX5_measures_0 23 rfl) rfl (by decide) rfl ?_
          refine v_for nl (fun j9 => cM Z lay ((M_m3 j9 A), μ.2) r) (fun j9 => [some (.ref (lay (100, 0))), some (.int to), some (.int (nI i2)), some (.int (nI j9)), none, none]) 41 [] (fun i3 hi3 ih3 => ?_) ?_
          · obtain ⟨B, hB⟩ : ∃ B, B = M_m3 i3 A := ⟨_, rfl⟩
            have hkB : ∀ j, j ≠ 15 → B j = μ.1 j := fun j hj => by rw [hB, M_m3_ne _ _ hj, hkA j hj]
            have hIB : RI (B, μ.2) := RI_same hI hkB
            have hBl : B 10 0 = nI nl := by rw [hkB 10 (by decide), eL]
            have hg20 : i3 < 20 := by omega
            refine v_mu (μ' := (B, μ.2)) (by rw [hB]) ?_
            refine v_iload_n X (xdec_at tX5_measures_0 24 rfl) rfl rfl ?_
            refine v_aload_n X (xdec_at tX5_measures_0 25 rfl) rfl rfl ?_
            refine r_S (v := (B 10 0)) X 10 (by decide) rfl rfl (xdec_at tX5_measures_0 26 rfl) rfl ?_
            refine v_icmp_ge (tgt := 199) X (xdec_at tX5_measures_0 27 rfl) (by decide) (fun c_46 => ?_) (fun c_46 => ?_)
            · exact absurd c_46 (by rw [hBl]; exact nI_ge hi3 (by omega))
            · refine v_aload_n X (xdec_at tX5_measures_0 28 rfl) rfl rfl ?_
              refine r_A X 15 (by decide) rfl rfl (xdec_at tX5_measures_0 29 rfl) ?_
              refine v_aload_n X (xdec_at tX5_measures_0 30 rfl) rfl rfl ?_
              refine r_A X 11 (by decide) rfl rfl (xdec_at tX5_measures_0 31 rfl) ?_
              refine v_iload_n X (xdec_at tX5_measures_0 32 rfl) rfl rfl ?_
              refine r_In (v := (B 11 i3)) X 11 (by decide) rfl rfl hg20 (xdec_at tX5_measures_0 33 rfl) rfl ?_
              refine r_I (v := (B 15 (ix (B 11 i3)))) X 15 (by decide) rfl rfl (hIB.o1 hg20) (xdec_at tX5_measures_0 34 rfl) rfl ?_
              refine v_aload_n X (xdec_at tX5_measures_0 35 rfl) rfl rfl ?_
              refine r_A X 13 (by decide) rfl rfl (xdec_at tX5_measures_0 36 rfl) ?_
              refine v_iload_n X (xdec_at tX5_measures_0 37 rfl) rfl rfl ?_
              refine r_In (v := (B 13 i3)) X 13 (by decide) rfl rfl hg20 (xdec_at tX5_measures_0 38 rfl) rfl ?_
              refine v_iadd X (xdec_at tX5_measures_0 39 rfl) ?_
              refine v_istore (lv' := [some (.ref (lay (100, 0))), some (.int to), some (.int (nI i2)), some (.int (nI i3)), some (.int ((B 15 (ix (B 11 i3))) + (B 13 i3))), none]) X (xdec_at tX5_measures_1 0 rfl) (by decide) rfl ?_
              refine v_aload_n X (xdec_at tX5_measures_1 1 rfl) rfl rfl ?_
              refine r_A X 15 (by decide) rfl rfl (xdec_at tX5_measures_1 2 rfl) ?_
              refine v_aload_n X (xdec_at tX5_measures_1 3 rfl) rfl rfl ?_
              refine r_A X 12 (by decide) rfl rfl (xdec_at tX5_measures_1 4 rfl) ?_
              refine v_iload_n X (xdec_at tX5_measures_1 5 rfl) rfl rfl ?_
              refine r_In (v := (B 12 i3)) X 12 (by decide) rfl rfl hg20 (xdec_at tX5_measures_1 6 rfl) rfl ?_
              refine r_I (v := (B 15 (ix (B 12 i3)))) X 15 (by decide) rfl rfl (hIB.o2 hg20) (xdec_at tX5_measures_1 7 rfl) rfl ?_
              refine v_aload_n X (xdec_at tX5_measures_1 8 rfl) rfl rfl ?_
              refine r_A X 13 (by decide) rfl rfl (xdec_at tX5_measures_1 9 rfl) ?_
              refine v_iload_n X (xdec_at tX5_measures_1 10 rfl) rfl rfl ?_
              refine r_In (v := (B 13 i3)) X 13 (by decide) rfl rfl hg20 (xdec_at tX5_measures_1 11 rfl) rfl ?_
              refine v_iadd X (xdec_at tX5_measures_1 12 rfl) ?_
              refine v_istore (lv' := [some (.ref (lay (100, 0))), some (.int to), some (.int (nI i2)), some (.int (nI i3)), some (.int ((B 15 (ix (B 11 i3))) + (B 13 i3))), some (.int ((B 15 (ix (B 12 i3))) + (B 13 i3)))]) X (xdec_at tX5_measures_1 13 rfl) (by decide) rfl ?_
              refine v_aload_n X (xdec_at tX5_measures_1 14 rfl) rfl rfl ?_
              refine r_A X 15 (by decide) rfl rfl (xdec_at tX5_measures_1 15 rfl) ?_
              refine v_aload_n X (xdec_at tX5_measures_1 16 rfl) rfl rfl ?_
              refine r_A X 12 (by decide) rfl rfl (xdec_at tX5_measures_1 17 rfl) ?_
              refine v_iload_n X (xdec_at tX5_measures_1 18 rfl) rfl rfl ?_
              refine r_In (v := (B 12 i3)) X 12 (by decide) rfl rfl hg20 (xdec_at tX5_measures_1 19 rfl) rfl ?_
              refine v_aload_n X (xdec_at tX5_measures_1 20 rfl) rfl rfl ?_
              refine r_A X 14 (by decide) rfl rfl (xdec_at tX5_measures_1 21 rfl) ?_
              refine v_iload_n X (xdec_at tX5_measures_1 22 rfl) rfl rfl ?_
              refine r_Zn (v := (B 14 i3)) X 14 (by decide) rfl rfl hg20 (xdec_at tX5_measures_1 23 rfl) rfl ?_
              refine v_if_ne (tgt := 129) X (xdec_at tX5_measures_1 24 rfl) (by decide) (fun c_105 => ?_) (fun c_105 => ?_)
              · refine v_aload_n X (xdec_at tX5_measures_1 36 rfl) rfl rfl ?_
                refine r_A X 15 (by decide) rfl rfl (xdec_at tX5_measures_1 37 rfl) ?_
                refine v_aload_n X (xdec_at tX5_measures_1 38 rfl) rfl rfl ?_
                refine r_A X 12 (by decide) rfl rfl (xdec_at tX5_measures_1 39 rfl) ?_
                refine v_iload_n X (xdec_at tX5_measures_2 0 rfl) rfl rfl ?_
                refine r_In (v := (B 12 i3)) X 12 (by decide) rfl rfl hg20 (xdec_at tX5_measures_2 1 rfl) rfl ?_
                refine r_I (v := (B 15 (ix (B 12 i3)))) X 15 (by decide) rfl rfl (hIB.o2 hg20) (xdec_at tX5_measures_2 2 rfl) rfl ?_
                refine r_PI X 15 (by decide) rfl rfl (hIB.o2 hg20) (xdec_at tX5_measures_2 3 rfl) ?_
                refine v_aload_n X (xdec_at tX5_measures_2 4 rfl) rfl rfl ?_
                refine r_A X 15 (by decide) rfl rfl (xdec_at tX5_measures_2 5 rfl) ?_
                refine v_aload_n X (xdec_at tX5_measures_2 6 rfl) rfl rfl ?_
                refine r_A X 11 (by decide) rfl rfl (xdec_at tX5_measures_2 7 rfl) ?_
                refine v_iload_n X (xdec_at tX5_measures_2 8 rfl) rfl rfl ?_
                refine r_In (v := (B 11 i3)) X 11 (by decide) rfl rfl hg20 (xdec_at tX5_measures_2 9 rfl) rfl ?_
                refine v_aload_n X (xdec_at tX5_measures_2 10 rfl) rfl rfl ?_
                refine r_A X 14 (by decide) rfl rfl (xdec_at tX5_measures_2 11 rfl) ?_
                refine v_iload_n X (xdec_at tX5_measures_2 12 rfl) rfl rfl ?_
                refine r_Zn (v := (B 14 i3)) X 14 (by decide) rfl rfl hg20 (xdec_at tX5_measures_2 13 rfl) rfl ?_
                refine v_if_ne (tgt := 181) X (xdec_at tX5_measures_2 14 rfl) (by decide) (fun _ => ?_) (fun h9 => absurd h9 c_105)
                refine v_aload_n X (xdec_at tX5_measures_2 26 rfl) rfl rfl ?_
                refine r_A X 15 (by decide) rfl rfl (xdec_at tX5_measures_2 27 rfl) ?_
                refine v_aload_n X (xdec_at tX5_measures_2 28 rfl) rfl rfl ?_
                refine r_A X 11 (by decide) rfl rfl (xdec_at tX5_measures_2 29 rfl) ?_
                refine v_iload_n X (xdec_at tX5_measures_2 30 rfl) rfl rfl ?_
                refine r_In (v := (B 11 i3)) X 11 (by decide) rfl rfl hg20 (xdec_at tX5_measures_2 31 rfl) rfl ?_
                refine r_I (v := ((up2 B 15 (ix (B 12 i3)) (B 15 (ix (B 12 i3)))) 15 (ix (B 11 i3)))) X 15 (by decide) rfl rfl (hIB.o1 hg20) (xdec_at tX5_measures_2 32 rfl) rfl ?_
                refine r_PI X 15 (by decide) rfl rfl (hIB.o1 hg20) (xdec_at tX5_measures_2 33 rfl) ?_
                refine v_iinc (v := (nI (i3 + 1))) (lv' := [some (.ref (lay (100, 0))), some (.int to), some (.int (nI i2)), some (.int (nI (i3 + 1))), some (.int ((B 15 (ix (B 11 i3))) + (B 13 i3))), some (.int ((B 15 (ix (B 12 i3))) + (B 13 i3)))]) X (xdec_at tX5_measures_2 34 rfl) rfl (nI_1 _) (by decide) rfl ?_
                refine v_goto (tgt := 41) X (xdec_at tX5_measures_2 35 rfl) (by decide) ?_
                refine v_le (lv' := [some (.ref (lay (100, 0))), some (.int to), some (.int (nI i2)), some (.int (nI (i3 + 1))), none, none]) (by simp [xle]) ?_
                exact v_mu (μ' := ((M_m3 (i3 + 1) A), μ.2)) (by show _ = (M_m2 (M_m3 i3 A) i3, μ.2); rw [← hB]; simp [M_m2, M_m2a, c_105]) ih3
              · refine v_iload X (xdec_at tX5_measures_1 25 rfl) rfl ?_
                refine v_aload_n X (xdec_at tX5_measures_1 26 rfl) rfl rfl ?_
                refine r_A X 15 (by decide) rfl rfl (xdec_at tX5_measures_1 27 rfl) ?_
                refine v_aload_n X (xdec_at tX5_measures_1 28 rfl) rfl rfl ?_
                refine r_A X 12 (by decide) rfl rfl (xdec_at tX5_measures_1 29 rfl) ?_
                refine v_iload_n X (xdec_at tX5_measures_1 30 rfl) rfl rfl ?_
                refine r_In (v := (B 12 i3)) X 12 (by decide) rfl rfl hg20 (xdec_at tX5_measures_1 31 rfl) rfl ?_
                refine r_I (v := (B 15 (ix (B 12 i3)))) X 15 (by decide) rfl rfl (hIB.o2 hg20) (xdec_at tX5_measures_1 32 rfl) rfl ?_
                refine v_icmp_ge (tgt := 129) X (xdec_at tX5_measures_1 33 rfl) (by decide) (fun c_121 => ?_) (fun c_121 => ?_)
                · refine v_aload_n X (xdec_at tX5_measures_1 36 rfl) rfl rfl ?_
                  refine r_A X 15 (by decide) rfl rfl (xdec_at tX5_measures_1 37 rfl) ?_
                  refine v_aload_n X (xdec_at tX5_measures_1 38 rfl) rfl rfl ?_
                  refine r_A X 12 (by decide) rfl rfl (xdec_at tX5_measures_1 39 rfl) ?_
                  refine v_iload_n X (xdec_at tX5_measures_2 0 rfl) rfl rfl ?_
                  refine r_In (v := (B 12 i3)) X 12 (by decide) rfl rfl hg20 (xdec_at tX5_measures_2 1 rfl) rfl ?_
                  refine r_I (v := (B 15 (ix (B 12 i3)))) X 15 (by decide) rfl rfl (hIB.o2 hg20) (xdec_at tX5_measures_2 2 rfl) rfl ?_
                  refine r_PI X 15 (by decide) rfl rfl (hIB.o2 hg20) (xdec_at tX5_measures_2 3 rfl) ?_
                  refine v_aload_n X (xdec_at tX5_measures_2 4 rfl) rfl rfl ?_
                  refine r_A X 15 (by decide) rfl rfl (xdec_at tX5_measures_2 5 rfl) ?_
                  refine v_aload_n X (xdec_at tX5_measures_2 6 rfl) rfl rfl ?_
                  refine r_A X 11 (by decide) rfl rfl (xdec_at tX5_measures_2 7 rfl) ?_
                  refine v_iload_n X (xdec_at tX5_measures_2 8 rfl) rfl rfl ?_
                  refine r_In (v := (B 11 i3)) X 11 (by decide) rfl rfl hg20 (xdec_at tX5_measures_2 9 rfl) rfl ?_
                  refine v_aload_n X (xdec_at tX5_measures_2 10 rfl) rfl rfl ?_
                  refine r_A X 14 (by decide) rfl rfl (xdec_at tX5_measures_2 11 rfl) ?_
                  refine v_iload_n X (xdec_at tX5_measures_2 12 rfl) rfl rfl ?_
                  refine r_Zn (v := (B 14 i3)) X 14 (by decide) rfl rfl hg20 (xdec_at tX5_measures_2 13 rfl) rfl ?_
                  refine v_if_ne (tgt := 181) X (xdec_at tX5_measures_2 14 rfl) (by decide) (fun h9 => absurd c_105 h9) (fun _ => ?_)
                  refine v_iload X (xdec_at tX5_measures_2 15 rfl) rfl ?_
                  refine v_aload_n X (xdec_at tX5_measures_2 16 rfl) rfl rfl ?_
                  refine r_A X 15 (by decide) rfl rfl (xdec_at tX5_measures_2 17 rfl) ?_
                  refine v_aload_n X (xdec_at tX5_measures_2 18 rfl) rfl rfl ?_
                  refine r_A X 11 (by decide) rfl rfl (xdec_at tX5_measures_2 19 rfl) ?_
                  refine v_iload_n X (xdec_at tX5_measures_2 20 rfl) rfl rfl ?_
                  refine r_In (v := (B 11 i3)) X 11 (by decide) rfl rfl hg20 (xdec_at tX5_measures_2 21 rfl) rfl ?_
                  refine r_I (v := ((up2 B 15 (ix (B 12 i3)) (B 15 (ix (B 12 i3)))) 15 (ix (B 11 i3)))) X 15 (by decide) rfl rfl (hIB.o1 hg20) (xdec_at tX5_measures_2 22 rfl) rfl ?_
                  refine v_icmp_ge (tgt := 181) X (xdec_at tX5_measures_2 23 rfl) (by decide) (fun c_173 => ?_) (fun c_173 => ?_)
                  · refine v_aload_n X (xdec_at tX5_measures_2 26 rfl) rfl rfl ?_
                    refine r_A X 15 (by decide) rfl rfl (xdec_at tX5_measures_2 27 rfl) ?_
                    refine v_aload_n X (xdec_at tX5_measures_2 28 rfl) rfl rfl ?_
                    refine r_A X 11 (by decide) rfl rfl (xdec_at tX5_measures_2 29 rfl) ?_
                    refine v_iload_n X (xdec_at tX5_measures_2 30 rfl) rfl rfl ?_
                    refine r_In (v := (B 11 i3)) X 11 (by decide) rfl rfl hg20 (xdec_at tX5_measures_2 31 rfl) rfl ?_
                    refine r_I (v := ((up2 B 15 (ix (B 12 i3)) (B 15 (ix (B 12 i3)))) 15 (ix (B 11 i3)))) X 15 (by decide) rfl rfl (hIB.o1 hg20) (xdec_at tX5_measures_2 32 rfl) rfl ?_
                    refine r_PI X 15 (by decide) rfl rfl (hIB.o1 hg20) (xdec_at tX5_measures_2 33 rfl) ?_
                    refine v_iinc (v := (nI (i3 + 1))) (lv' := [some (.ref (lay (100, 0))), some (.int to), some (.int (nI i2)), some (.int (nI (i3 + 1))), some (.int ((B 15 (ix (B 11 i3))) + (B 13 i3))), some (.int ((B 15 (ix (B 12 i3))) + (B 13 i3)))]) X (xdec_at tX5_measures_2 34 rfl) rfl (nI_1 _) (by decide) rfl ?_
                    refine v_goto (tgt := 41) X (xdec_at tX5_measures_2 35 rfl) (by decide) ?_
                    refine v_le (lv' := [some (.ref (lay (100, 0))), some (.int to), some (.int (nI i2)), some (.int (nI (i3 + 1))), none, none]) (by simp [xle]) ?_
                    exact v_mu (μ' := ((M_m3 (i3 + 1) A), μ.2)) (by show _ = (M_m2 (M_m3 i3 A) i3, μ.2); rw [← hB]; simp [M_m2, M_m2a, (eq_true c_105), c_121, c_173]) ih3
                  · refine v_iload X (xdec_at tX5_measures_2 24 rfl) rfl ?_
                    refine v_goto (tgt := 192) X (xdec_at tX5_measures_2 25 rfl) (by decide) ?_
                    refine r_PI X 15 (by decide) rfl rfl (hIB.o1 hg20) (xdec_at tX5_measures_2 33 rfl) ?_
                    refine v_iinc (v := (nI (i3 + 1))) (lv' := [some (.ref (lay (100, 0))), some (.int to), some (.int (nI i2)), some (.int (nI (i3 + 1))), some (.int ((B 15 (ix (B 11 i3))) + (B 13 i3))), some (.int ((B 15 (ix (B 12 i3))) + (B 13 i3)))]) X (xdec_at tX5_measures_2 34 rfl) rfl (nI_1 _) (by decide) rfl ?_
                    refine v_goto (tgt := 41) X (xdec_at tX5_measures_2 35 rfl) (by decide) ?_
                    refine v_le (lv' := [some (.ref (lay (100, 0))), some (.int to), some (.int (nI i2)), some (.int (nI (i3 + 1))), none, none]) (by simp [xle]) ?_
                    exact v_mu (μ' := ((M_m3 (i3 + 1) A), μ.2)) (by show _ = (M_m2 (M_m3 i3 A) i3, μ.2); rw [← hB]; simp [M_m2, M_m2a, (eq_true c_105), c_121, c_173]) ih3
                · refine v_iload X (xdec_at tX5_measures_1 34 rfl) rfl ?_
                  refine v_goto (tgt := 140) X (xdec_at tX5_measures_1 35 rfl) (by decide) ?_
                  refine r_PI X 15 (by decide) rfl rfl (hIB.o2 hg20) (xdec_at tX5_measures_2 3 rfl) ?_
                  refine v_aload_n X (xdec_at tX5_measures_2 4 rfl) rfl rfl ?_
                  refine r_A X 15 (by decide) rfl rfl (xdec_at tX5_measures_2 5 rfl) ?_
                  refine v_aload_n X (xdec_at tX5_measures_2 6 rfl) rfl rfl ?_
                  refine r_A X 11 (by decide) rfl rfl (xdec_at tX5_measures_2 7 rfl) ?_
                  refine v_iload_n X (xdec_at tX5_measures_2 8 rfl) rfl rfl ?_
                  refine r_In (v := (B 11 i3)) X 11 (by decide) rfl rfl hg20 (xdec_at tX5_measures_2 9 rfl) rfl ?_
                  refine v_aload_n X (xdec_at tX5_measures_2 10 rfl) rfl rfl ?_
                  refine r_A X 14 (by decide) rfl rfl (xdec_at tX5_measures_2 11 rfl) ?_
                  refine v_iload_n X (xdec_at tX5_measures_2 12 rfl) rfl rfl ?_
                  refine r_Zn (v := (B 14 i3)) X 14 (by decide) rfl rfl hg20 (xdec_at tX5_measures_2 13 rfl) rfl ?_
                  refine v_if_ne (tgt := 181) X (xdec_at tX5_measures_2 14 rfl) (by decide) (fun h9 => absurd c_105 h9) (fun _ => ?_)
                  refine v_iload X (xdec_at tX5_measures_2 15 rfl) rfl ?_
                  refine v_aload_n X (xdec_at tX5_measures_2 16 rfl) rfl rfl ?_
                  refine r_A X 15 (by decide) rfl rfl (xdec_at tX5_measures_2 17 rfl) ?_
                  refine v_aload_n X (xdec_at tX5_measures_2 18 rfl) rfl rfl ?_
                  refine r_A X 11 (by decide) rfl rfl (xdec_at tX5_measures_2 19 rfl) ?_
                  refine v_iload_n X (xdec_at tX5_measures_2 20 rfl) rfl rfl ?_
                  refine r_In (v := (B 11 i3)) X 11 (by decide) rfl rfl hg20 (xdec_at tX5_measures_2 21 rfl) rfl ?_
                  refine r_I (v := ((up2 B 15 (ix (B 12 i3)) ((B 15 (ix (B 11 i3))) + (B 13 i3))) 15 (ix (B 11 i3)))) X 15 (by decide) rfl rfl (hIB.o1 hg20) (xdec_at tX5_measures_2 22 rfl) rfl ?_
                  refine v_icmp_ge (tgt := 181) X (xdec_at tX5_measures_2 23 rfl) (by decide) (fun c_173 => ?_) (fun c_173 => ?_)
                  · refine v_aload_n X (xdec_at tX5_measures_2 26 rfl) rfl rfl ?_
                    refine r_A X 15 (by decide) rfl rfl (xdec_at tX5_measures_2 27 rfl) ?_
                    refine v_aload_n X (xdec_at tX5_measures_2 28 rfl) rfl rfl ?_
                    refine r_A X 11 (by decide) rfl rfl (xdec_at tX5_measures_2 29 rfl) ?_
                    refine v_iload_n X (xdec_at tX5_measures_2 30 rfl) rfl rfl ?_
                    refine r_In (v := (B 11 i3)) X 11 (by decide) rfl rfl hg20 (xdec_at tX5_measures_2 31 rfl) rfl ?_
                    refine r_I (v := ((up2 B 15 (ix (B 12 i3)) ((B 15 (ix (B 11 i3))) + (B 13 i3))) 15 (ix (B 11 i3)))) X 15 (by decide) rfl rfl (hIB.o1 hg20) (xdec_at tX5_measures_2 32 rfl) rfl ?_
                    refine r_PI X 15 (by decide) rfl rfl (hIB.o1 hg20) (xdec_at tX5_measures_2 33 rfl) ?_
                    refine v_iinc (v := (nI (i3 + 1))) (lv' := [some (.ref (lay (100, 0))), some (.int to), some (.int (nI i2)), some (.int (nI (i3 + 1))), some (.int ((B 15 (ix (B 11 i3))) + (B 13 i3))), some (.int ((B 15 (ix (B 12 i3))) + (B 13 i3)))]) X (xdec_at tX5_measures_2 34 rfl) rfl (nI_1 _) (by decide) rfl ?_
                    refine v_goto (tgt := 41) X (xdec_at tX5_measures_2 35 rfl) (by decide) ?_
                    refine v_le (lv' := [some (.ref (lay (100, 0))), some (.int to), some (.int (nI i2)), some (.int (nI (i3 + 1))), none, none]) (by simp [xle]) ?_
                    exact v_mu (μ' := ((M_m3 (i3 + 1) A), μ.2)) (by show _ = (M_m2 (M_m3 i3 A) i3, μ.2); rw [← hB]; simp [M_m2, M_m2a, (eq_true c_105), c_121, c_173]) ih3
                  · refine v_iload X (xdec_at tX5_measures_2 24 rfl) rfl ?_
                    refine v_goto (tgt := 192) X (xdec_at tX5_measures_2 25 rfl) (by decide) ?_
                    refine r_PI X 15 (by decide) rfl rfl (hIB.o1 hg20) (xdec_at tX5_measures_2 33 rfl) ?_
                    refine v_iinc (v := (nI (i3 + 1))) (lv' := [some (.ref (lay (100, 0))), some (.int to), some (.int (nI i2)), some (.int (nI (i3 + 1))), some (.int ((B 15 (ix (B 11 i3))) + (B 13 i3))), some (.int ((B 15 (ix (B 12 i3))) + (B 13 i3)))]) X (xdec_at tX5_measures_2 34 rfl) rfl (nI_1 _) (by decide) rfl ?_
                    refine v_goto (tgt := 41) X (xdec_at tX5_measures_2 35 rfl) (by decide) ?_
                    refine v_le (lv' := [some (.ref (lay (100, 0))), some (.int to), some (.int (nI i2)), some (.int (nI (i3 + 1))), none, none]) (by simp [xle]) ?_
                    exact v_mu (μ' := ((M_m3 (i3 + 1) A), μ.2)) (by show _ = (M_m2 (M_m3 i3 A) i3, μ.2); rw [← hB]; simp [M_m2, M_m2a, (eq_true c_105), c_121, c_173]) ih3
          · obtain ⟨B, hB⟩ : ∃ B, B = M_m3 nl A := ⟨_, rfl⟩
            have hBl : B 10 0 = nI nl := by rw [hB, M_m3_ne _ _ (by decide), hkA 10 (by decide), eL]
            refine v_mu (μ' := (B, μ.2)) (by rw [hB]) ?_
            refine v_iload_n X (xdec_at tX5_measures_0 24 rfl) rfl rfl ?_
            refine v_aload_n X (xdec_at tX5_measures_0 25 rfl) rfl rfl ?_
            refine r_S (v := (B 10 0)) X 10 (by decide) rfl rfl (xdec_at tX5_measures_0 26 rfl) rfl ?_
            refine v_icmp_ge (tgt := 199) X (xdec_at tX5_measures_0 27 rfl) (by decide) (fun c_46 => ?_) (fun c_46 => ?_)
            · refine v_iinc (v := (nI (i2 + 1))) (lv' := [some (.ref (lay (100, 0))), some (.int to), some (.int (nI (i2 + 1))), some (.int (nI nl)), none, none]) X (xdec_at tX5_measures_2 36 rfl) rfl (nI_1 _) (by decide) rfl ?_
              refine v_goto (tgt := 33) X (xdec_at tX5_measures_2 37 rfl) (by decide) ?_
              refine v_le (lv' := [some (.ref (lay (100, 0))), some (.int to), some (.int (nI (i2 + 1))), none, none, none]) (by simp [xle]) ?_
              exact v_mu (μ' := ((M_m4 nl (i2 + 1) (M_m1 to 8 μ.1)), μ.2)) (by rw [hB, hA]; rfl) ih2
            · exact absurd (show B 10 0 ≤ nI nl by rw [hBl]; exact nI_le (Nat.le_refl _) (by omega)) c_46
      · refine v_iload_n X (xdec_at tX5_measures_0 19 rfl) rfl rfl ?_
        refine v_bipush (v := 8) X (xdec_at tX5_measures_0 20 rfl) (by decide) ?_
        refine v_icmp_ge (tgt := 205) X (xdec_at tX5_measures_0 21 rfl) (by decide) (fun _ => ?_) (fun h9 => absurd c_5 h9)
        have e9 : M_meas μ to = ((M_m4 nl 8 (M_m1 to 8 μ.1)), μ.2) := by rw [M_meas, hix]
        exact v_vret X hr (xdec_at tX5_measures_2 38 rfl) (Nat.le_of_ble_eq_true rfl) (Nat.le_of_ble_eq_true rfl) ⟨rfl, rfl, by rw [e9]⟩
    · exact absurd (show (8 : Int32) ≤ nI 8 by decide) c_5
set_option maxRecDepth 100000 in
set_option maxHeartbeats 4000000 in
theorem c_daysTold (l : Launch) (Z : xZ) (B0 : Nat) (lay : xK → Nat) (μ : Mu) (r : xK → Option xE) (a b : Int32) (hI : RI μ) : YM l yX5_daysTold cX5_daysTold 3 ((some FieldType.int)) 2 43 0 0 Z B0 [.ref (lay (100, 0)), .int a, .int b] lay (cM Z lay μ r) (fun v lay' C' => lay = lay' ∧ v = some (.int (M_told μ a b).1) ∧ C' = cM Z lay (M_told μ a b).2 r) := by
  refine YM_of myX5_daysTold.2.2 RX5 rfl [some (.ref (lay (100, 0))), some (.int a), some (.int b)] rfl (Nat.le_of_ble_eq_true rfl) ?_
  intro P1 P2 P3 P4 P5 P6 P7 P8 X hr hnm
  refine v_aload_n X (xdec_at tX5_daysTold_0 0 rfl) rfl rfl ?_
  refine v_aload_n X (xdec_at tX5_daysTold_0 1 rfl) rfl rfl ?_
  refine v_iload_n X (xdec_at tX5_daysTold_0 2 rfl) rfl rfl ?_
  refine v_callV X myX5_isPost [.int a] [.ref (lay (100, 0))] (c_isPost l Z B0 lay μ r a) (xw_at tW_17 38 rfl) (100, 0) cM_0 rfl rfl rfl rfl (by rfl) (Nat.le_of_ble_eq_true rfl) (xdec_at tX5_daysTold_0 3 rfl) ⟨(Nat.le_of_ble_eq_true rfl), (Nat.le_of_ble_eq_true rfl)⟩ ⟨(Nat.le_of_ble_eq_true rfl), (Nat.le_of_ble_eq_true rfl)⟩ ?_
  rintro v9 lay9 C9 ⟨rfl, rfl, ⟨rfl, q_3⟩ | ⟨rfl, q_3⟩⟩
  · refine v_if_eq (tgt := 21) X (xdec_at tX5_daysTold_0 4 rfl) (by decide) (fun h9 => absurd h9 (by decide)) (fun _ => ?_)
    refine v_aload_n X (xdec_at tX5_daysTold_0 5 rfl) rfl rfl ?_
    refine v_iload_n X (xdec_at tX5_daysTold_0 6 rfl) rfl rfl ?_
    refine v_callV X myX5_isPost [.int b] [.ref (lay (100, 0))] (c_isPost l Z B0 lay μ r b) (xw_at tW_17 38 rfl) (100, 0) cM_0 rfl rfl rfl rfl (by rfl) (Nat.le_of_ble_eq_true rfl) (xdec_at tX5_daysTold_0 7 rfl) ⟨(Nat.le_of_ble_eq_true rfl), (Nat.le_of_ble_eq_true rfl)⟩ ⟨(Nat.le_of_ble_eq_true rfl), (Nat.le_of_ble_eq_true rfl)⟩ ?_
    rintro v9 lay9 C9 ⟨rfl, rfl, ⟨rfl, q_11⟩ | ⟨rfl, q_11⟩⟩
    · refine v_if_eq (tgt := 21) X (xdec_at tX5_daysTold_0 8 rfl) (by decide) (fun h9 => absurd h9 (by decide)) (fun _ => ?_)
      refine v_iconst (v := 1) X (xdec_at tX5_daysTold_0 9 rfl) (by decide) ?_
      refine v_goto (tgt := 22) X (xdec_at tX5_daysTold_0 10 rfl) (by decide) ?_
      refine v_callV X myX5_asks [.int 1] [] (c_asks1 l Z B0 lay μ r) (xw_at tW_17 31 rfl) (100, 0) cM_0 rfl rfl rfl rfl (by rfl) (Nat.le_of_ble_eq_true rfl) (xdec_at tX5_daysTold_0 12 rfl) ⟨(Nat.le_of_ble_eq_true rfl), (Nat.le_of_ble_eq_true rfl)⟩ ⟨(Nat.le_of_ble_eq_true rfl), (Nat.le_of_ble_eq_true rfl)⟩ ?_
      rintro v9 lay9 C9 ⟨rfl, rfl, rfl⟩
      refine v_if_ne (tgt := 30) X (xdec_at tX5_daysTold_0 13 rfl) (by decide) (fun _ => ?_) (fun h9 => absurd h9 (by decide))
      refine v_aload_n X (xdec_at tX5_daysTold_0 16 rfl) rfl rfl ?_
      refine v_iload_n X (xdec_at tX5_daysTold_0 17 rfl) rfl rfl ?_
      refine v_callV X myX5_measures [.int b] [] (c_measures l Z B0 lay ((up2 μ.1 38 0 0), μ.2) r b (RI_th hI 0)) (xw_at tW_19 1 rfl) (100, 0) cM_0 rfl rfl rfl rfl (by rfl) (Nat.le_of_ble_eq_true rfl) (xdec_at tX5_daysTold_0 18 rfl) ⟨(Nat.le_of_ble_eq_true rfl), (Nat.le_of_ble_eq_true rfl)⟩ ⟨(Nat.le_of_ble_eq_true rfl), (Nat.le_of_ble_eq_true rfl)⟩ ?_
      rintro v9 lay9 C9 ⟨rfl, rfl, rfl⟩
      refine v_aload_n X (xdec_at tX5_daysTold_0 19 rfl) rfl rfl ?_
      refine r_A X 15 (by decide) rfl rfl (xdec_at tX5_daysTold_0 20 rfl) ?_
      refine v_iload_n X (xdec_at tX5_daysTold_0 21 rfl) rfl rfl ?_
      refine r_I (v := ((M_meas ((up2 μ.1 38 0 0), μ.2) b).1 15 (ix a))) X 15 (by decide) rfl rfl (hI.P (by assumption)) (xdec_at tX5_daysTold_0 22 rfl) rfl ?_
      refine v_ldc (v := 1000000) X (xw_at tW_19 4 rfl) (xdec_at tX5_daysTold_0 23 rfl) ?_
      refine v_icmp_lt (tgt := 50) X (xdec_at tX5_daysTold_0 24 rfl) (by decide) (fun c_43 => ?_) (fun c_43 => ?_)
      · refine v_aload_n X (xdec_at tX5_daysTold_0 27 rfl) rfl rfl ?_
        refine r_A X 15 (by decide) rfl rfl (xdec_at tX5_daysTold_0 28 rfl) ?_
        refine v_iload_n X (xdec_at tX5_daysTold_0 29 rfl) rfl rfl ?_
        refine r_I (v := ((M_meas ((up2 μ.1 38 0 0), μ.2) b).1 15 (ix a))) X 15 (by decide) rfl rfl (hI.P (by assumption)) (xdec_at tX5_daysTold_0 30 rfl) rfl ?_
        have e9 : M_told μ a b = (((M_meas ((up2 μ.1 38 0 0), μ.2) b).1 15 (ix a)), (M_meas ((up2 μ.1 38 0 0), μ.2) b)) := by simp [M_told, up2_at, (eq_true q_3), (eq_true q_11), c_43]
        exact v_iret X hr (xdec_at tX5_daysTold_0 31 rfl) (Nat.le_of_ble_eq_true rfl) (Nat.le_of_ble_eq_true rfl) ⟨rfl, by rw [e9], by rw [e9]⟩
      · refine v_iconst (v := (-1)) X (xdec_at tX5_daysTold_0 25 rfl) (by decide) ?_
        refine v_goto (tgt := 56) X (xdec_at tX5_daysTold_0 26 rfl) (by decide) ?_
        have e9 : M_told μ a b = ((-1), (M_meas ((up2 μ.1 38 0 0), μ.2) b)) := by simp [M_told, up2_at, (eq_true q_3), (eq_true q_11), c_43]
        exact v_iret X hr (xdec_at tX5_daysTold_0 31 rfl) (Nat.le_of_ble_eq_true rfl) (Nat.le_of_ble_eq_true rfl) ⟨rfl, by rw [e9], by rw [e9]⟩
    · refine v_if_eq (tgt := 21) X (xdec_at tX5_daysTold_0 8 rfl) (by decide) (fun _ => ?_) (fun h9 => absurd h9 (by decide))
      refine v_iconst (v := 0) X (xdec_at tX5_daysTold_0 11 rfl) (by decide) ?_
      refine v_callV X myX5_asks [.int 0] [] (c_asks0 l Z B0 lay μ r) (xw_at tW_17 31 rfl) (100, 0) cM_0 rfl rfl rfl rfl (by rfl) (Nat.le_of_ble_eq_true rfl) (xdec_at tX5_daysTold_0 12 rfl) ⟨(Nat.le_of_ble_eq_true rfl), (Nat.le_of_ble_eq_true rfl)⟩ ⟨(Nat.le_of_ble_eq_true rfl), (Nat.le_of_ble_eq_true rfl)⟩ ?_
      rintro v9 lay9 C9 ⟨rfl, rfl, rfl⟩
      refine v_if_ne (tgt := 30) X (xdec_at tX5_daysTold_0 13 rfl) (by decide) (fun h9 => absurd h9 (by decide)) (fun _ => ?_)
      refine v_iconst (v := 0) X (xdec_at tX5_daysTold_0 14 rfl) (by decide) ?_
      have e9 : M_told μ a b = (0, ((up2 μ.1 38 0 1), μ.2)) := by simp [M_told, up2_at, (eq_true q_3), q_11]
      exact v_iret X hr (xdec_at tX5_daysTold_0 15 rfl) (Nat.le_of_ble_eq_true rfl) (Nat.le_of_ble_eq_true rfl) ⟨rfl, by rw [e9], by rw [e9]⟩
  · refine v_if_eq (tgt := 21) X (xdec_at tX5_daysTold_0 4 rfl) (by decide) (fun _ => ?_) (fun h9 => absurd h9 (by decide))
    refine v_iconst (v := 0) X (xdec_at tX5_daysTold_0 11 rfl) (by decide) ?_
    refine v_callV X myX5_asks [.int 0] [] (c_asks0 l Z B0 lay μ r) (xw_at tW_17 31 rfl) (100, 0) cM_0 rfl rfl rfl rfl (by rfl) (Nat.le_of_ble_eq_true rfl) (xdec_at tX5_daysTold_0 12 rfl) ⟨(Nat.le_of_ble_eq_true rfl), (Nat.le_of_ble_eq_true rfl)⟩ ⟨(Nat.le_of_ble_eq_true rfl), (Nat.le_of_ble_eq_true rfl)⟩ ?_
    rintro v9 lay9 C9 ⟨rfl, rfl, rfl⟩
    refine v_if_ne (tgt := 30) X (xdec_at tX5_daysTold_0 13 rfl) (by decide) (fun h9 => absurd h9 (by decide)) (fun _ => ?_)
    refine v_iconst (v := 0) X (xdec_at tX5_daysTold_0 14 rfl) (by decide) ?_
    have e9 : M_told μ a b = (0, ((up2 μ.1 38 0 1), μ.2)) := by simp [M_told, up2_at, q_3]
    exact v_iret X hr (xdec_at tX5_daysTold_0 15 rfl) (Nat.le_of_ble_eq_true rfl) (Nat.le_of_ble_eq_true rfl) ⟨rfl, by rw [e9], by rw [e9]⟩
set_option maxRecDepth 100000 in
set_option maxHeartbeats 4000000 in
theorem c_days (l : Launch) (Z : xZ) (B0 : Nat) (lay : xK → Nat) (μ : Mu) (r : xK → Option xE) (a b : Int32) (hI : RI μ) : YM l yX5_days cX5_days 3 ((some FieldType.int)) 3 65 0 0 Z B0 [.ref (lay (100, 0)), .int a, .int b] lay (cM Z lay μ r) (fun v lay' C' => lay = lay' ∧ v = some (.int (M_told μ a b).1) ∧ C' = cM Z lay (M_told μ a b).2 r) := by
  refine YM_of myX5_days.2.2 RX5 rfl [some (.ref (lay (100, 0))), some (.int a), some (.int b)] rfl (Nat.le_of_ble_eq_true rfl) ?_
  intro P1 P2 P3 P4 P5 P6 P7 P8 X hr hnm
  refine v_aload_n X (xdec_at tX5_days_0 0 rfl) rfl rfl ?_
  refine v_iload_n X (xdec_at tX5_days_0 1 rfl) rfl rfl ?_
  refine v_iload_n X (xdec_at tX5_days_0 2 rfl) rfl rfl ?_
  refine v_callV X myX5_daysTold [.int a, .int b] [] (c_daysTold l Z B0 lay μ r a b hI) (xw_at tW_18 38 rfl) (100, 0) cM_0 rfl rfl rfl rfl (by rfl) (Nat.le_of_ble_eq_true rfl) (xdec_at tX5_days_0 3 rfl) ⟨(Nat.le_of_ble_eq_true rfl), (Nat.le_of_ble_eq_true rfl)⟩ ⟨(Nat.le_of_ble_eq_true rfl), (Nat.le_of_ble_eq_true rfl)⟩ ?_
  rintro v9 lay9 C9 ⟨rfl, rfl, rfl⟩
  exact v_iret X hr (xdec_at tX5_days_0 4 rfl) (Nat.le_of_ble_eq_true rfl) (Nat.le_of_ble_eq_true rfl) ⟨rfl, rfl, rfl⟩
set_option maxRecDepth 100000 in
set_option maxHeartbeats 4000000 in
theorem c_daysAnew (l : Launch) (Z : xZ) (B0 : Nat) (lay : xK → Nat) (μ : Mu) (r : xK → Option xE) (a b : Int32) (hI : RI μ) : YM l yX5_daysAnew cX5_daysAnew 3 ((some FieldType.int)) 3 65 0 0 Z B0 [.ref (lay (100, 0)), .int a, .int b] lay (cM Z lay μ r) (fun v lay' C' => lay = lay' ∧ v = some (.int (M_told μ a b).1) ∧ C' = cM Z lay (M_told μ a b).2 r) := by
  refine YM_of myX5_daysAnew.2.2 RX5 rfl [some (.ref (lay (100, 0))), some (.int a), some (.int b)] rfl (Nat.le_of_ble_eq_true rfl) ?_
  intro P1 P2 P3 P4 P5 P6 P7 P8 X hr hnm
  refine v_aload_n X (xdec_at tX5_daysAnew_0 0 rfl) rfl rfl ?_
  refine v_iload_n X (xdec_at tX5_daysAnew_0 1 rfl) rfl rfl ?_
  refine v_iload_n X (xdec_at tX5_daysAnew_0 2 rfl) rfl rfl ?_
  refine v_callV X myX5_daysTold [.int a, .int b] [] (c_daysTold l Z B0 lay μ r a b hI) (xw_at tW_18 38 rfl) (100, 0) cM_0 rfl rfl rfl rfl (by rfl) (Nat.le_of_ble_eq_true rfl) (xdec_at tX5_daysAnew_0 3 rfl) ⟨(Nat.le_of_ble_eq_true rfl), (Nat.le_of_ble_eq_true rfl)⟩ ⟨(Nat.le_of_ble_eq_true rfl), (Nat.le_of_ble_eq_true rfl)⟩ ?_
  rintro v9 lay9 C9 ⟨rfl, rfl, rfl⟩
  exact v_iret X hr (xdec_at tX5_daysAnew_0 4 rfl) (Nat.le_of_ble_eq_true rfl) (Nat.le_of_ble_eq_true rfl) ⟨rfl, rfl, rfl⟩
set_option maxRecDepth 100000 in
set_option maxHeartbeats 4000000 in
theorem c_nextOf (l : Launch) (Z : xZ) (B0 : Nat) (lay : xK → Nat) (μ : Mu) (r : xK → Option xE) (a b : Int32) (ha : vp_in a 8) (hI : RI μ) : YM l yX5_nextOf cX5_nextOf 7 ((some FieldType.int)) 1 25 0 0 Z B0 [.ref (lay (100, 0)), .int a, .int b] lay (cM Z lay μ r) (fun v lay' C' => lay = lay' ∧ v = some (.int (M_nextOf μ a b).1) ∧ C' = cM Z lay (M_nextOf μ a b).2 r) := by
  refine YM_of myX5_nextOf.2.2 RX5 rfl [some (.ref (lay (100, 0))), some (.int a), some (.int b), none, none, none, none] rfl (Nat.le_of_ble_eq_true rfl) ?_
  intro P1 P2 P3 P4 P5 P6 P7 P8 X hr hnm
  obtain ⟨nl, hnl, eL⟩ := hI.2.1
  have hix : ix (μ.1 10 0) = nl := by rw [eL, ix_nI (by omega)]
  refine v_aload_n X (xdec_at tX5_nextOf_0 0 rfl) rfl rfl ?_
  refine v_iload_n X (xdec_at tX5_nextOf_0 1 rfl) rfl rfl ?_
  refine v_callV X myX5_measures [.int b] [] (c_measures l Z B0 lay μ r b hI) (xw_at tW_19 1 rfl) (100, 0) cM_0 rfl rfl rfl rfl (by rfl) (Nat.le_of_ble_eq_true rfl) (xdec_at tX5_nextOf_0 2 rfl) ⟨(Nat.le_of_ble_eq_true rfl), (Nat.le_of_ble_eq_true rfl)⟩ ⟨(Nat.le_of_ble_eq_true rfl), (Nat.le_of_ble_eq_true rfl)⟩ ?_
  rintro v9 lay9 C9 ⟨rfl, rfl, rfl⟩
  refine v_iconst (v := (-1)) X (xdec_at tX5_nextOf_0 3 rfl) (by decide) ?_
  refine v_istore_n (lv' := [some (.ref (lay (100, 0))), some (.int a), some (.int b), some (.int (-1)), none, none, none]) X (xdec_at tX5_nextOf_0 4 rfl) rfl (by decide) rfl ?_
  refine v_aload_n X (xdec_at tX5_nextOf_0 5 rfl) rfl rfl ?_
  refine r_S (v := ((M_meas μ b).1 10 0)) X 10 (by decide) rfl rfl (xdec_at tX5_nextOf_0 6 rfl) rfl ?_
  refine v_iconst (v := 1) X (xdec_at tX5_nextOf_0 7 rfl) (by decide) ?_
  refine v_isub X (xdec_at tX5_nextOf_0 8 rfl) ?_
  refine v_istore (lv' := [some (.ref (lay (100, 0))), some (.int a), some (.int b), some (.int (-1)), some (.int (((M_meas μ b).1 10 0) - 1)), none, none]) X (xdec_at tX5_nextOf_0 9 rfl) (by decide) rfl ?_
  obtain ⟨A, hA⟩ : ∃ A, A = (M_meas μ b).1 := ⟨_, rfl⟩
  have hIA : RI (A, μ.2) := by rw [hA]; exact RI_meas hI b
  refine v_mu (μ' := (A, μ.2)) (by rw [hA]; rfl) ?_
  refine v_le (lv' := [some (.ref (lay (100, 0))), some (.int a), some (.int b), some (.int (-1)), some (.int (nI nl - 1)), none, none]) (by simp [xle, M_meas_ne μ b (show (10 : Nat) ≠ 15 by decide), eL]) ?_
  by_cases hc : ¬ a = b ∧ ¬ (1000000 : Int32) ≤ A 15 (ix a)
  · obtain ⟨hc1, hc2⟩ := hc
    refine v_down (cM Z lay (A, μ.2) r) (fun k9 (f9 : Int32) => [some (.ref (lay (100, 0))), some (.int a), some (.int b), some (.int f9), some (.int (nI k9 - 1)), none, none]) 15 (fun k9 f9 => M_nx A a k9 f9 = M_nx A a nl (-1) ∧ (f9 = -1 ∨ vp_in f9 20) ∧ k9 ≤ nl) (fun k fd hx ih0 => ?_) (fun fd hx => ?_) nl (-1) ⟨rfl, Or.inl rfl, Nat.le_refl _⟩
    · obtain ⟨hfd1, hfd2, hk⟩ := hx
      have hk20 : k < 20 := by omega
      have ih := fun y (hy : M_nx A a k y = M_nx A a nl (-1) ∧ (y = -1 ∨ vp_in y 20)) => ih0 y ⟨hy.1, hy.2, by omega⟩
      refine v_le (lv' := [some (.ref (lay (100, 0))), some (.int a), some (.int b), some (.int fd), some (.int (nI k)), none, none]) (by simp [xle, nI_pred]) ?_
      refine v_iload X (xdec_at tX5_nextOf_0 10 rfl) rfl ?_
      refine v_if_lt (tgt := 130) X (xdec_at tX5_nextOf_0 11 rfl) (by decide) (fun c_17 => ?_) (fun c_17 => ?_)
      · exact absurd c_17 (nI_pos (by omega))
      · refine v_iload_n X (xdec_at tX5_nextOf_0 12 rfl) rfl rfl ?_
        refine v_iload_n X (xdec_at tX5_nextOf_0 13 rfl) rfl rfl ?_
        refine v_icmp_eq (tgt := 130) X (xdec_at tX5_nextOf_0 14 rfl) (by decide) (fun c_22 => ?_) (fun c_22 => ?_)
        · exact absurd c_22 hc1
        · refine v_aload_n X (xdec_at tX5_nextOf_0 15 rfl) rfl rfl ?_
          refine r_A X 15 (by decide) rfl rfl (xdec_at tX5_nextOf_0 16 rfl) ?_
          refine v_iload_n X (xdec_at tX5_nextOf_0 17 rfl) rfl rfl ?_
          refine r_I (v := (A 15 (ix a))) X 15 (by decide) rfl rfl ha (xdec_at tX5_nextOf_0 18 rfl) rfl ?_
          refine v_ldc (v := 1000000) X (xw_at tW_19 4 rfl) (xdec_at tX5_nextOf_0 19 rfl) ?_
          refine v_icmp_ge (tgt := 130) X (xdec_at tX5_nextOf_0 20 rfl) (by decide) (fun c_33 => ?_) (fun c_33 => ?_)
          · exact absurd c_33 hc2
          · refine v_aload_n X (xdec_at tX5_nextOf_0 21 rfl) rfl rfl ?_
            refine r_A X 14 (by decide) rfl rfl (xdec_at tX5_nextOf_0 22 rfl) ?_
            refine v_iload X (xdec_at tX5_nextOf_0 23 rfl) rfl ?_
            refine r_Zn (v := (A 14 k)) X 14 (by decide) rfl rfl hk20 (xdec_at tX5_nextOf_0 24 rfl) rfl ?_
            refine v_if_ne (tgt := 124) X (xdec_at tX5_nextOf_0 25 rfl) (by decide) (fun c_43 => ?_) (fun c_43 => ?_)
            · refine v_iinc (v := ((nI k) - 1)) (lv' := [some (.ref (lay (100, 0))), some (.int a), some (.int b), some (.int fd), some (.int ((nI k) - 1)), none, none]) X (xdec_at tX5_nextOf_1 29 rfl) rfl (im1 _) (by decide) rfl ?_
              refine v_goto (tgt := 15) X (xdec_at tX5_nextOf_1 30 rfl) (by decide) ?_
              refine v_le (lv' := [some (.ref (lay (100, 0))), some (.int a), some (.int b), some (.int fd), some (.int (nI k - 1)), none, none]) (by simp [xle]) ?_
              have e8 : M_nxs A a k fd = fd := by simp [M_nxs, c_43]
              exact ih fd ⟨by rw [← hfd1, M_nx, e8], hfd2⟩
            · refine v_aload_n X (xdec_at tX5_nextOf_0 26 rfl) rfl rfl ?_
              refine v_iload X (xdec_at tX5_nextOf_0 27 rfl) rfl ?_
              refine v_iload_n X (xdec_at tX5_nextOf_0 28 rfl) rfl rfl ?_
              refine v_callV X myX5_ends [.int (nI k), .int a] [] (c_ends l Z B0 lay (A, μ.2) r k hk20 a) (xw_at tW_19 16 rfl) (100, 0) cM_0 rfl rfl rfl rfl (by rfl) (Nat.le_of_ble_eq_true rfl) (xdec_at tX5_nextOf_0 29 rfl) ⟨(Nat.le_of_ble_eq_true rfl), (Nat.le_of_ble_eq_true rfl)⟩ ⟨(Nat.le_of_ble_eq_true rfl), (Nat.le_of_ble_eq_true rfl)⟩ ?_
              rintro v9 lay9 C9 ⟨rfl, rfl, ⟨rfl, q_50⟩ | ⟨rfl, q_50⟩⟩
              · have q_50 : (A 11 k = a ∨ A 12 k = a) := q_50
                refine v_if_eq (tgt := 124) X (xdec_at tX5_nextOf_0 30 rfl) (by decide) (fun h9 => absurd h9 (by decide)) (fun _ => ?_)
                refine v_aload_n X (xdec_at tX5_nextOf_0 31 rfl) rfl rfl ?_
                refine v_iload X (xdec_at tX5_nextOf_0 32 rfl) rfl ?_
                refine v_iload_n X (xdec_at tX5_nextOf_0 33 rfl) rfl rfl ?_
                refine v_callV X myX5_across [.int (nI k), .int a] [] (c_across l Z B0 lay (A, μ.2) r k hk20 a) (xw_at tW_19 19 rfl) (100, 0) cM_0 rfl rfl rfl rfl (by rfl) (Nat.le_of_ble_eq_true rfl) (xdec_at tX5_nextOf_0 34 rfl) ⟨(Nat.le_of_ble_eq_true rfl), (Nat.le_of_ble_eq_true rfl)⟩ ⟨(Nat.le_of_ble_eq_true rfl), (Nat.le_of_ble_eq_true rfl)⟩ ?_
                rintro v9 lay9 C9 ⟨rfl, rfl, rfl⟩
                refine v_istore (lv' := [some (.ref (lay (100, 0))), some (.int a), some (.int b), some (.int fd), some (.int (nI k)), some (.int (M_across A k a)), none]) X (xdec_at tX5_nextOf_0 35 rfl) (by decide) rfl ?_
                refine v_aload_n X (xdec_at tX5_nextOf_0 36 rfl) rfl rfl ?_
                refine r_A X 13 (by decide) rfl rfl (xdec_at tX5_nextOf_0 37 rfl) ?_
                refine v_iload X (xdec_at tX5_nextOf_0 38 rfl) rfl ?_
                refine r_In (v := (A 13 k)) X 13 (by decide) rfl rfl hk20 (xdec_at tX5_nextOf_0 39 rfl) rfl ?_
                refine v_aload_n X (xdec_at tX5_nextOf_1 0 rfl) rfl rfl ?_
                refine r_A X 15 (by decide) rfl rfl (xdec_at tX5_nextOf_1 1 rfl) ?_
                refine v_iload X (xdec_at tX5_nextOf_1 2 rfl) rfl ?_
                refine r_I (v := (A 15 (ix (M_across A k a)))) X 15 (by decide) rfl rfl (across_in hIA hk20 a) (xdec_at tX5_nextOf_1 3 rfl) rfl ?_
                refine v_iadd X (xdec_at tX5_nextOf_1 4 rfl) ?_
                refine v_aload_n X (xdec_at tX5_nextOf_1 5 rfl) rfl rfl ?_
                refine r_A X 15 (by decide) rfl rfl (xdec_at tX5_nextOf_1 6 rfl) ?_
                refine v_iload_n X (xdec_at tX5_nextOf_1 7 rfl) rfl rfl ?_
                refine r_I (v := (A 15 (ix a))) X 15 (by decide) rfl rfl ha (xdec_at tX5_nextOf_1 8 rfl) rfl ?_
                refine v_icmp_ne (tgt := 93) X (xdec_at tX5_nextOf_1 9 rfl) (by decide) (fun c_86 => ?_) (fun c_86 => ?_)
                · refine v_iconst (v := 0) X (xdec_at tX5_nextOf_1 12 rfl) (by decide) ?_
                  refine v_istore (lv' := [some (.ref (lay (100, 0))), some (.int a), some (.int b), some (.int fd), some (.int (nI k)), some (.int (M_across A k a)), some (.int 0)]) X (xdec_at tX5_nextOf_1 13 rfl) (by decide) rfl ?_
                  refine v_iload X (xdec_at tX5_nextOf_1 14 rfl) rfl ?_
                  refine v_if_eq (tgt := 122) X (xdec_at tX5_nextOf_1 15 rfl) (by decide) (fun _ => ?_) (fun h9 => absurd h9 (by decide))
                  refine v_iload_n X (xdec_at tX5_nextOf_1 27 rfl) rfl rfl ?_
                  refine v_istore_n (lv' := [some (.ref (lay (100, 0))), some (.int a), some (.int b), some (.int fd), some (.int (nI k)), some (.int (M_across A k a)), some (.int 0)]) X (xdec_at tX5_nextOf_1 28 rfl) rfl (by decide) rfl ?_
                  refine v_iinc (v := ((nI k) - 1)) (lv' := [some (.ref (lay (100, 0))), some (.int a), some (.int b), some (.int fd), some (.int ((nI k) - 1)), some (.int (M_across A k a)), some (.int 0)]) X (xdec_at tX5_nextOf_1 29 rfl) rfl (im1 _) (by decide) rfl ?_
                  refine v_goto (tgt := 15) X (xdec_at tX5_nextOf_1 30 rfl) (by decide) ?_
                  refine v_le (lv' := [some (.ref (lay (100, 0))), some (.int a), some (.int b), some (.int fd), some (.int (nI k - 1)), none, none]) (by simp [xle]) ?_
                  have e8 : M_nxs A a k fd = fd := by simp [M_nxs, (eq_true c_43), (eq_true q_50), c_86]
                  exact ih fd ⟨by rw [← hfd1, M_nx, e8], hfd2⟩
                · refine v_iconst (v := 1) X (xdec_at tX5_nextOf_1 10 rfl) (by decide) ?_
                  refine v_goto (tgt := 94) X (xdec_at tX5_nextOf_1 11 rfl) (by decide) ?_
                  refine v_istore (lv' := [some (.ref (lay (100, 0))), some (.int a), some (.int b), some (.int fd), some (.int (nI k)), some (.int (M_across A k a)), some (.int 1)]) X (xdec_at tX5_nextOf_1 13 rfl) (by decide) rfl ?_
                  refine v_iload X (xdec_at tX5_nextOf_1 14 rfl) rfl ?_
                  refine v_if_eq (tgt := 122) X (xdec_at tX5_nextOf_1 15 rfl) (by decide) (fun h9 => absurd h9 (by decide)) (fun _ => ?_)
                  refine v_iload_n X (xdec_at tX5_nextOf_1 16 rfl) rfl rfl ?_
                  refine v_iconst (v := (-1)) X (xdec_at tX5_nextOf_1 17 rfl) (by decide) ?_
                  refine v_icmp_eq (tgt := 117) X (xdec_at tX5_nextOf_1 18 rfl) (by decide) (fun c_103 => ?_) (fun c_103 => ?_)
                  · refine v_iload X (xdec_at tX5_nextOf_1 25 rfl) rfl ?_
                    refine v_goto (tgt := 123) X (xdec_at tX5_nextOf_1 26 rfl) (by decide) ?_
                    refine v_istore_n (lv' := [some (.ref (lay (100, 0))), some (.int a), some (.int b), some (.int (nI k)), some (.int (nI k)), some (.int (M_across A k a)), some (.int 1)]) X (xdec_at tX5_nextOf_1 28 rfl) rfl (by decide) rfl ?_
                    refine v_iinc (v := ((nI k) - 1)) (lv' := [some (.ref (lay (100, 0))), some (.int a), some (.int b), some (.int (nI k)), some (.int ((nI k) - 1)), some (.int (M_across A k a)), some (.int 1)]) X (xdec_at tX5_nextOf_1 29 rfl) rfl (im1 _) (by decide) rfl ?_
                    refine v_goto (tgt := 15) X (xdec_at tX5_nextOf_1 30 rfl) (by decide) ?_
                    refine v_le (lv' := [some (.ref (lay (100, 0))), some (.int a), some (.int b), some (.int (nI k)), some (.int (nI k - 1)), none, none]) (by simp [xle]) ?_
                    have e8 : M_nxs A a k fd = (nI k) := by simp [M_nxs, (eq_true c_43), (eq_true q_50), (eq_true c_86), (eq_true c_103)]
                    exact ih (nI k) ⟨by rw [← hfd1, M_nx, e8], Or.inr (vp_in_nI hk20 (by decide))⟩
                  · refine v_iload X (xdec_at tX5_nextOf_1 19 rfl) rfl ?_
                    refine v_aload_n X (xdec_at tX5_nextOf_1 20 rfl) rfl rfl ?_
                    refine v_iload_n X (xdec_at tX5_nextOf_1 21 rfl) rfl rfl ?_
                    refine v_iload_n X (xdec_at tX5_nextOf_1 22 rfl) rfl rfl ?_
                    have hfv : vp_in fd 20 := hfd2.resolve_left c_103
                    refine v_st (st' := [.int a, .int (nI (ix fd)), .ref (lay (100, 0)), .int (M_across A k a)]) (by rw [in_eq hfv (by decide)] <;> rfl) ?_
                    refine v_callV X myX5_across [.int (nI (ix fd)), .int a] [.int (M_across A k a)] (c_across l Z B0 lay (A, μ.2) r (ix fd) (in_ix hfv) a) (xw_at tW_19 19 rfl) (100, 0) cM_0 rfl rfl rfl rfl (by rfl) (Nat.le_of_ble_eq_true rfl) (xdec_at tX5_nextOf_1 23 rfl) ⟨(Nat.le_of_ble_eq_true rfl), (Nat.le_of_ble_eq_true rfl)⟩ ⟨(Nat.le_of_ble_eq_true rfl), (Nat.le_of_ble_eq_true rfl)⟩ ?_
                    rintro v9 lay9 C9 ⟨rfl, rfl, rfl⟩
                    refine v_icmp_gt (tgt := 122) X (xdec_at tX5_nextOf_1 24 rfl) (by decide) (fun c_114 => ?_) (fun c_114 => ?_)
                    · refine v_iload_n X (xdec_at tX5_nextOf_1 27 rfl) rfl rfl ?_
                      refine v_istore_n (lv' := [some (.ref (lay (100, 0))), some (.int a), some (.int b), some (.int fd), some (.int (nI k)), some (.int (M_across A k a)), some (.int 1)]) X (xdec_at tX5_nextOf_1 28 rfl) rfl (by decide) rfl ?_
                      refine v_iinc (v := ((nI k) - 1)) (lv' := [some (.ref (lay (100, 0))), some (.int a), some (.int b), some (.int fd), some (.int ((nI k) - 1)), some (.int (M_across A k a)), some (.int 1)]) X (xdec_at tX5_nextOf_1 29 rfl) rfl (im1 _) (by decide) rfl ?_
                      refine v_goto (tgt := 15) X (xdec_at tX5_nextOf_1 30 rfl) (by decide) ?_
                      refine v_le (lv' := [some (.ref (lay (100, 0))), some (.int a), some (.int b), some (.int fd), some (.int (nI k - 1)), none, none]) (by simp [xle]) ?_
                      have e8 : M_nxs A a k fd = fd := by simp [M_nxs, (eq_true c_43), (eq_true q_50), (eq_true c_86), c_103, c_114]
                      exact ih fd ⟨by rw [← hfd1, M_nx, e8], hfd2⟩
                    · refine v_iload X (xdec_at tX5_nextOf_1 25 rfl) rfl ?_
                      refine v_goto (tgt := 123) X (xdec_at tX5_nextOf_1 26 rfl) (by decide) ?_
                      refine v_istore_n (lv' := [some (.ref (lay (100, 0))), some (.int a), some (.int b), some (.int (nI k)), some (.int (nI k)), some (.int (M_across A k a)), some (.int 1)]) X (xdec_at tX5_nextOf_1 28 rfl) rfl (by decide) rfl ?_
                      refine v_iinc (v := ((nI k) - 1)) (lv' := [some (.ref (lay (100, 0))), some (.int a), some (.int b), some (.int (nI k)), some (.int ((nI k) - 1)), some (.int (M_across A k a)), some (.int 1)]) X (xdec_at tX5_nextOf_1 29 rfl) rfl (im1 _) (by decide) rfl ?_
                      refine v_goto (tgt := 15) X (xdec_at tX5_nextOf_1 30 rfl) (by decide) ?_
                      refine v_le (lv' := [some (.ref (lay (100, 0))), some (.int a), some (.int b), some (.int (nI k)), some (.int (nI k - 1)), none, none]) (by simp [xle]) ?_
                      have e8 : M_nxs A a k fd = (nI k) := by simp [M_nxs, (eq_true c_43), (eq_true q_50), (eq_true c_86), c_103, c_114]
                      exact ih (nI k) ⟨by rw [← hfd1, M_nx, e8], Or.inr (vp_in_nI hk20 (by decide))⟩
              · have q_50 : ¬ (A 11 k = a ∨ A 12 k = a) := q_50
                refine v_if_eq (tgt := 124) X (xdec_at tX5_nextOf_0 30 rfl) (by decide) (fun _ => ?_) (fun h9 => absurd h9 (by decide))
                refine v_iinc (v := ((nI k) - 1)) (lv' := [some (.ref (lay (100, 0))), some (.int a), some (.int b), some (.int fd), some (.int ((nI k) - 1)), none, none]) X (xdec_at tX5_nextOf_1 29 rfl) rfl (im1 _) (by decide) rfl ?_
                refine v_goto (tgt := 15) X (xdec_at tX5_nextOf_1 30 rfl) (by decide) ?_
                refine v_le (lv' := [some (.ref (lay (100, 0))), some (.int a), some (.int b), some (.int fd), some (.int (nI k - 1)), none, none]) (by simp [xle]) ?_
                have e8 : M_nxs A a k fd = fd := by simp [M_nxs, (eq_true c_43), q_50]
                exact ih fd ⟨by rw [← hfd1, M_nx, e8], hfd2⟩
    · obtain ⟨hfd1, hfd2, -⟩ := hx
      refine v_iload X (xdec_at tX5_nextOf_0 10 rfl) rfl ?_
      refine v_if_lt (tgt := 130) X (xdec_at tX5_nextOf_0 11 rfl) (by decide) (fun c_17 => ?_) (fun c_17 => ?_)
      · refine v_iload_n X (xdec_at tX5_nextOf_1 31 rfl) rfl rfl ?_
        have e9 : M_nextOf μ a b = (fd, (A, μ.2)) := by rw [M_nextOf, ← hA, hix, if_pos ⟨hc1, hc2⟩, ← hfd1, hA]; rfl
        exact v_iret X hr (xdec_at tX5_nextOf_1 32 rfl) (Nat.le_of_ble_eq_true rfl) (Nat.le_of_ble_eq_true rfl) ⟨rfl, by rw [e9], by rw [e9]⟩
      · exact absurd (show nI 0 - 1 < 0 by decide) c_17
  · refine v_iload X (xdec_at tX5_nextOf_0 10 rfl) rfl ?_
    refine v_if_lt (tgt := 130) X (xdec_at tX5_nextOf_0 11 rfl) (by decide) (fun c_17 => ?_) (fun c_17 => ?_)
    · refine v_iload_n X (xdec_at tX5_nextOf_1 31 rfl) rfl rfl ?_
      have e9 : M_nextOf μ a b = (-1, (A, μ.2)) := by rw [M_nextOf, ← hA, if_neg hc, hA]; rfl
      exact v_iret X hr (xdec_at tX5_nextOf_1 32 rfl) (Nat.le_of_ble_eq_true rfl) (Nat.le_of_ble_eq_true rfl) ⟨rfl, by rw [e9], by rw [e9]⟩
    · refine v_iload_n X (xdec_at tX5_nextOf_0 12 rfl) rfl rfl ?_
      refine v_iload_n X (xdec_at tX5_nextOf_0 13 rfl) rfl rfl ?_
      refine v_icmp_eq (tgt := 130) X (xdec_at tX5_nextOf_0 14 rfl) (by decide) (fun c_22 => ?_) (fun c_22 => ?_)
      · refine v_iload_n X (xdec_at tX5_nextOf_1 31 rfl) rfl rfl ?_
        have e9 : M_nextOf μ a b = (-1, (A, μ.2)) := by rw [M_nextOf, ← hA, if_neg hc, hA]; rfl
        exact v_iret X hr (xdec_at tX5_nextOf_1 32 rfl) (Nat.le_of_ble_eq_true rfl) (Nat.le_of_ble_eq_true rfl) ⟨rfl, by rw [e9], by rw [e9]⟩
      · refine v_aload_n X (xdec_at tX5_nextOf_0 15 rfl) rfl rfl ?_
        refine r_A X 15 (by decide) rfl rfl (xdec_at tX5_nextOf_0 16 rfl) ?_
        refine v_iload_n X (xdec_at tX5_nextOf_0 17 rfl) rfl rfl ?_
        refine r_I (v := (A 15 (ix a))) X 15 (by decide) rfl rfl ha (xdec_at tX5_nextOf_0 18 rfl) rfl ?_
        refine v_ldc (v := 1000000) X (xw_at tW_19 4 rfl) (xdec_at tX5_nextOf_0 19 rfl) ?_
        refine v_icmp_ge (tgt := 130) X (xdec_at tX5_nextOf_0 20 rfl) (by decide) (fun c_33 => ?_) (fun c_33 => ?_)
        · refine v_iload_n X (xdec_at tX5_nextOf_1 31 rfl) rfl rfl ?_
          have e9 : M_nextOf μ a b = (-1, (A, μ.2)) := by rw [M_nextOf, ← hA, if_neg hc, hA]; rfl
          exact v_iret X hr (xdec_at tX5_nextOf_1 32 rfl) (Nat.le_of_ble_eq_true rfl) (Nat.le_of_ble_eq_true rfl) ⟨rfl, by rw [e9], by rw [e9]⟩
        · exact absurd ⟨c_22, c_33⟩ hc
end
section
set_option maxRecDepth 100000 in
set_option maxHeartbeats 4000000 in
theorem c_next (l : Launch) (Z : xZ) (B0 : Nat) (lay : xK → Nat) (μ : Mu) (r : xK → Option xE) (a b : Int32) (hI : RI μ) : YM l yX5_next cX5_next 3 ((some FieldType.int)) 2 51 0 0 Z B0 [.ref (lay (100, 0)), .int a, .int b] lay (cM Z lay μ r) (fun v lay' C' => lay = lay' ∧ v = some (.int (M_next μ a b).1) ∧ C' = cM Z lay (M_next μ a b).2 r) := by
  refine YM_of myX5_next.2.2 RX5 rfl [some (.ref (lay (100, 0))), some (.int a), some (.int b)] rfl (Nat.le_of_ble_eq_true rfl) ?_
  intro P1 P2 P3 P4 P5 P6 P7 P8 X hr hnm
  refine v_aload_n X (xdec_at tX5_next_0 0 rfl) rfl rfl ?_
  refine v_aload_n X (xdec_at tX5_next_0 1 rfl) rfl rfl ?_
  refine v_iload_n X (xdec_at tX5_next_0 2 rfl) rfl rfl ?_
  refine v_callV X myX5_isPost [.int a] [.ref (lay (100, 0))] (c_isPost l Z B0 lay μ r a) (xw_at tW_17 38 rfl) (100, 0) cM_0 rfl rfl rfl rfl (by rfl) (Nat.le_of_ble_eq_true rfl) (xdec_at tX5_next_0 3 rfl) ⟨(Nat.le_of_ble_eq_true rfl), (Nat.le_of_ble_eq_true rfl)⟩ ⟨(Nat.le_of_ble_eq_true rfl), (Nat.le_of_ble_eq_true rfl)⟩ ?_
  rintro v9 lay9 C9 ⟨rfl, rfl, ⟨rfl, q_3⟩ | ⟨rfl, q_3⟩⟩
  · refine v_if_eq (tgt := 21) X (xdec_at tX5_next_0 4 rfl) (by decide) (fun h9 => absurd h9 (by decide)) (fun _ => ?_)
    refine v_aload_n X (xdec_at tX5_next_0 5 rfl) rfl rfl ?_
    refine v_iload_n X (xdec_at tX5_next_0 6 rfl) rfl rfl ?_
    refine v_callV X myX5_isPost [.int b] [.ref (lay (100, 0))] (c_isPost l Z B0 lay μ r b) (xw_at tW_17 38 rfl) (100, 0) cM_0 rfl rfl rfl rfl (by rfl) (Nat.le_of_ble_eq_true rfl) (xdec_at tX5_next_0 7 rfl) ⟨(Nat.le_of_ble_eq_true rfl), (Nat.le_of_ble_eq_true rfl)⟩ ⟨(Nat.le_of_ble_eq_true rfl), (Nat.le_of_ble_eq_true rfl)⟩ ?_
    rintro v9 lay9 C9 ⟨rfl, rfl, ⟨rfl, q_11⟩ | ⟨rfl, q_11⟩⟩
    · refine v_if_eq (tgt := 21) X (xdec_at tX5_next_0 8 rfl) (by decide) (fun h9 => absurd h9 (by decide)) (fun _ => ?_)
      refine v_iconst (v := 1) X (xdec_at tX5_next_0 9 rfl) (by decide) ?_
      refine v_goto (tgt := 22) X (xdec_at tX5_next_0 10 rfl) (by decide) ?_
      refine v_callV X myX5_asks [.int 1] [] (c_asks1 l Z B0 lay μ r) (xw_at tW_17 31 rfl) (100, 0) cM_0 rfl rfl rfl rfl (by rfl) (Nat.le_of_ble_eq_true rfl) (xdec_at tX5_next_0 12 rfl) ⟨(Nat.le_of_ble_eq_true rfl), (Nat.le_of_ble_eq_true rfl)⟩ ⟨(Nat.le_of_ble_eq_true rfl), (Nat.le_of_ble_eq_true rfl)⟩ ?_
      rintro v9 lay9 C9 ⟨rfl, rfl, rfl⟩
      refine v_if_eq (tgt := 37) X (xdec_at tX5_next_0 13 rfl) (by decide) (fun h9 => absurd h9 (by decide)) (fun _ => ?_)
      refine v_aload_n X (xdec_at tX5_next_0 14 rfl) rfl rfl ?_
      refine v_iload_n X (xdec_at tX5_next_0 15 rfl) rfl rfl ?_
      refine v_iload_n X (xdec_at tX5_next_0 16 rfl) rfl rfl ?_
      refine v_callV X myX5_nextOf [.int a, .int b] [] (c_nextOf l Z B0 lay ((up2 μ.1 38 0 0), μ.2) r a b (hI.P (by assumption)) (RI_th hI 0)) (xw_at tW_19 13 rfl) (100, 0) cM_0 rfl rfl rfl rfl (by rfl) (Nat.le_of_ble_eq_true rfl) (xdec_at tX5_next_0 17 rfl) ⟨(Nat.le_of_ble_eq_true rfl), (Nat.le_of_ble_eq_true rfl)⟩ ⟨(Nat.le_of_ble_eq_true rfl), (Nat.le_of_ble_eq_true rfl)⟩ ?_
      rintro v9 lay9 C9 ⟨rfl, rfl, rfl⟩
      refine v_goto (tgt := 38) X (xdec_at tX5_next_0 18 rfl) (by decide) ?_
      have e9 : M_next μ a b = ((M_nextOf ((up2 μ.1 38 0 0), μ.2) a b).1, (M_nextOf ((up2 μ.1 38 0 0), μ.2) a b).2) := by simp [M_next, up2_at, (eq_true q_3), (eq_true q_11)]
      exact v_iret X hr (xdec_at tX5_next_0 20 rfl) (Nat.le_of_ble_eq_true rfl) (Nat.le_of_ble_eq_true rfl) ⟨rfl, by rw [e9], by rw [e9]⟩
    · refine v_if_eq (tgt := 21) X (xdec_at tX5_next_0 8 rfl) (by decide) (fun _ => ?_) (fun h9 => absurd h9 (by decide))
      refine v_iconst (v := 0) X (xdec_at tX5_next_0 11 rfl) (by decide) ?_
      refine v_callV X myX5_asks [.int 0] [] (c_asks0 l Z B0 lay μ r) (xw_at tW_17 31 rfl) (100, 0) cM_0 rfl rfl rfl rfl (by rfl) (Nat.le_of_ble_eq_true rfl) (xdec_at tX5_next_0 12 rfl) ⟨(Nat.le_of_ble_eq_true rfl), (Nat.le_of_ble_eq_true rfl)⟩ ⟨(Nat.le_of_ble_eq_true rfl), (Nat.le_of_ble_eq_true rfl)⟩ ?_
      rintro v9 lay9 C9 ⟨rfl, rfl, rfl⟩
      refine v_if_eq (tgt := 37) X (xdec_at tX5_next_0 13 rfl) (by decide) (fun _ => ?_) (fun h9 => absurd h9 (by decide))
      refine v_iconst (v := 0) X (xdec_at tX5_next_0 19 rfl) (by decide) ?_
      have e9 : M_next μ a b = (0, ((up2 μ.1 38 0 1), μ.2)) := by simp [M_next, up2_at, (eq_true q_3), q_11]
      exact v_iret X hr (xdec_at tX5_next_0 20 rfl) (Nat.le_of_ble_eq_true rfl) (Nat.le_of_ble_eq_true rfl) ⟨rfl, by rw [e9], by rw [e9]⟩
  · refine v_if_eq (tgt := 21) X (xdec_at tX5_next_0 4 rfl) (by decide) (fun _ => ?_) (fun h9 => absurd h9 (by decide))
    refine v_iconst (v := 0) X (xdec_at tX5_next_0 11 rfl) (by decide) ?_
    refine v_callV X myX5_asks [.int 0] [] (c_asks0 l Z B0 lay μ r) (xw_at tW_17 31 rfl) (100, 0) cM_0 rfl rfl rfl rfl (by rfl) (Nat.le_of_ble_eq_true rfl) (xdec_at tX5_next_0 12 rfl) ⟨(Nat.le_of_ble_eq_true rfl), (Nat.le_of_ble_eq_true rfl)⟩ ⟨(Nat.le_of_ble_eq_true rfl), (Nat.le_of_ble_eq_true rfl)⟩ ?_
    rintro v9 lay9 C9 ⟨rfl, rfl, rfl⟩
    refine v_if_eq (tgt := 37) X (xdec_at tX5_next_0 13 rfl) (by decide) (fun _ => ?_) (fun h9 => absurd h9 (by decide))
    refine v_iconst (v := 0) X (xdec_at tX5_next_0 19 rfl) (by decide) ?_
    have e9 : M_next μ a b = (0, ((up2 μ.1 38 0 1), μ.2)) := by simp [M_next, up2_at, q_3]
    exact v_iret X hr (xdec_at tX5_next_0 20 rfl) (Nat.le_of_ble_eq_true rfl) (Nat.le_of_ble_eq_true rfl) ⟨rfl, by rw [e9], by rw [e9]⟩
set_option maxRecDepth 100000 in
set_option maxHeartbeats 4000000 in
theorem c_leaves (l : Launch) (Z : xZ) (B0 : Nat) (lay : xK → Nat) (μ : Mu) (r : xK → Option xE) (t : Nat) (ht : t < 40) (hI : RI μ) : YM l yX5_leaves cX5_leaves 4 ((none : Option FieldType)) 2 51 0 0 Z B0 [.ref (lay (100, 0)), .int (nI t)] lay (cM Z lay μ r) (fun v lay' C' => lay = lay' ∧ v = none ∧ C' = cM Z lay (M_leaves μ t) r) := by
  refine YM_of myX5_leaves.2.2 RX5 rfl [some (.ref (lay (100, 0))), some (.int (nI t)), none, none] rfl (Nat.le_of_ble_eq_true rfl) ?_
  intro P1 P2 P3 P4 P5 P6 P7 P8 X hr hnm
  refine v_aload_n X (xdec_at tX5_leaves_0 0 rfl) rfl rfl ?_
  refine r_A X 24 (by decide) rfl rfl (xdec_at tX5_leaves_0 1 rfl) ?_
  refine v_iload_n X (xdec_at tX5_leaves_0 2 rfl) rfl rfl ?_
  refine r_In (v := (μ.1 24 t)) X 24 (by decide) rfl rfl ht (xdec_at tX5_leaves_0 3 rfl) rfl ?_
  refine v_istore_n (lv' := [some (.ref (lay (100, 0))), some (.int (nI t)), some (.int (μ.1 24 t)), none]) X (xdec_at tX5_leaves_0 4 rfl) rfl (by decide) rfl ?_
  refine v_aload_n X (xdec_at tX5_leaves_0 5 rfl) rfl rfl ?_
  refine r_A X 6 (by decide) rfl rfl (xdec_at tX5_leaves_0 6 rfl) ?_
  refine v_iload_n X (xdec_at tX5_leaves_0 7 rfl) rfl rfl ?_
  refine r_Z (v := (μ.1 6 (ix (μ.1 24 t)))) X 6 (by decide) rfl rfl (hI.at ht) (xdec_at tX5_leaves_0 8 rfl) rfl ?_
  refine v_if_eq (tgt := 20) X (xdec_at tX5_leaves_0 9 rfl) (by decide) (fun c_13 => ?_) (fun c_13 => ?_)
  · refine v_aload_n X (xdec_at tX5_leaves_0 12 rfl) rfl rfl ?_
    refine v_iload_n X (xdec_at tX5_leaves_0 13 rfl) rfl rfl ?_
    refine v_aload_n X (xdec_at tX5_leaves_0 14 rfl) rfl rfl ?_
    refine r_A X 19 (by decide) rfl rfl (xdec_at tX5_leaves_0 15 rfl) ?_
    refine v_iload_n X (xdec_at tX5_leaves_0 16 rfl) rfl rfl ?_
    refine r_In (v := (μ.1 19 t)) X 19 (by decide) rfl rfl ht (xdec_at tX5_leaves_0 17 rfl) rfl ?_
    refine v_callV X myX5_nextOf [.int (μ.1 24 t), .int (μ.1 19 t)] [] (c_nextOf l Z B0 lay μ r (μ.1 24 t) (μ.1 19 t) (hI.at ht) hI) (xw_at tW_19 13 rfl) (100, 0) cM_0 rfl rfl rfl rfl (by rfl) (Nat.le_of_ble_eq_true rfl) (xdec_at tX5_leaves_0 18 rfl) ⟨(Nat.le_of_ble_eq_true rfl), (Nat.le_of_ble_eq_true rfl)⟩ ⟨(Nat.le_of_ble_eq_true rfl), (Nat.le_of_ble_eq_true rfl)⟩ ?_
    rintro v9 lay9 C9 ⟨rfl, rfl, rfl⟩
    obtain ⟨g, hg⟩ : ∃ z, z = (M_nextOf μ (μ.1 24 t) (μ.1 19 t)).1 := ⟨_, rfl⟩
    obtain ⟨μ1, hm1⟩ : ∃ z, z = (M_nextOf μ (μ.1 24 t) (μ.1 19 t)).2 := ⟨_, rfl⟩
    have hI1 : RI μ1 := by rw [hm1]; exact RI_meas hI _
    have hgin := M_nextOf_in hI (μ.1 24 t) (μ.1 19 t)
    rw [← hg] at hgin
    refine v_mu (μ' := μ1) (by rw [hm1]) ?_
    refine v_st (st' := [.int g]) (by rw [hg] <;> rfl) ?_
    refine v_istore_n (lv' := [some (.ref (lay (100, 0))), some (.int (nI t)), some (.int (μ.1 24 t)), some (.int g)]) X (xdec_at tX5_leaves_0 19 rfl) rfl (by decide) rfl ?_
    refine v_iload_n X (xdec_at tX5_leaves_0 20 rfl) rfl rfl ?_
    refine v_iconst (v := (-1)) X (xdec_at tX5_leaves_0 21 rfl) (by decide) ?_
    refine v_icmp_ne (tgt := 38) X (xdec_at tX5_leaves_0 22 rfl) (by decide) (fun c_34 => ?_) (fun c_34 => ?_)
    · refine v_aload_n X (xdec_at tX5_leaves_0 24 rfl) rfl rfl ?_
      refine r_A X 23 (by decide) rfl rfl (xdec_at tX5_leaves_0 25 rfl) ?_
      refine v_iload_n X (xdec_at tX5_leaves_0 26 rfl) rfl rfl ?_
      refine v_iconst (v := 1) X (xdec_at tX5_leaves_0 27 rfl) (by decide) ?_
      refine r_PIn X 23 (by decide) rfl rfl ht (xdec_at tX5_leaves_0 28 rfl) ?_
      refine v_aload_n X (xdec_at tX5_leaves_0 29 rfl) rfl rfl ?_
      refine r_A X 25 (by decide) rfl rfl (xdec_at tX5_leaves_0 30 rfl) ?_
      refine v_iload_n X (xdec_at tX5_leaves_0 31 rfl) rfl rfl ?_
      refine v_iload_n X (xdec_at tX5_leaves_0 32 rfl) rfl rfl ?_
      refine r_PIn X 25 (by decide) rfl rfl ht (xdec_at tX5_leaves_0 33 rfl) ?_
      refine v_aload_n X (xdec_at tX5_leaves_0 34 rfl) rfl rfl ?_
      refine r_A X 26 (by decide) rfl rfl (xdec_at tX5_leaves_0 35 rfl) ?_
      refine v_iload_n X (xdec_at tX5_leaves_0 36 rfl) rfl rfl ?_
      refine v_aload_n X (xdec_at tX5_leaves_0 37 rfl) rfl rfl ?_
      refine r_A X 13 (by decide) rfl rfl (xdec_at tX5_leaves_0 38 rfl) ?_
      refine v_iload_n X (xdec_at tX5_leaves_0 39 rfl) rfl rfl ?_
      refine r_I (v := (μ1.1 13 (ix g))) X 13 (by decide) rfl rfl (hgin.resolve_left c_34).1 (xdec_at tX5_leaves_1 0 rfl) rfl ?_
      refine r_PIn X 26 (by decide) rfl rfl ht (xdec_at tX5_leaves_1 1 rfl) ?_
      refine v_aload_n X (xdec_at tX5_leaves_1 2 rfl) rfl rfl ?_
      refine r_A X 24 (by decide) rfl rfl (xdec_at tX5_leaves_1 3 rfl) ?_
      refine v_iload_n X (xdec_at tX5_leaves_1 4 rfl) rfl rfl ?_
      refine v_aload_n X (xdec_at tX5_leaves_1 5 rfl) rfl rfl ?_
      refine v_iload_n X (xdec_at tX5_leaves_1 6 rfl) rfl rfl ?_
      refine v_iload_n X (xdec_at tX5_leaves_1 7 rfl) rfl rfl ?_
      have hgv : vp_in g 20 := (hgin.resolve_left c_34).1
      refine v_st (st' := [.int (μ.1 24 t), .int (nI (ix g)), .ref (lay (100, 0)), .int (nI t), .ref (lay (100, 25))]) (by rw [in_eq hgv (by decide)] <;> rfl) ?_
      refine v_callV X myX5_across [.int (nI (ix g)), .int (μ.1 24 t)] [.int (nI t), .ref (lay (100, 25))] (c_across l Z B0 lay ((up2 (up2 (up2 μ1.1 23 t 1) 25 t g) 26 t (μ1.1 13 (ix g))), μ1.2) r (ix g) (in_ix hgv) (μ.1 24 t)) (xw_at tW_19 19 rfl) (100, 0) cM_0 rfl rfl rfl rfl (by rfl) (Nat.le_of_ble_eq_true rfl) (xdec_at tX5_leaves_1 8 rfl) ⟨(Nat.le_of_ble_eq_true rfl), (Nat.le_of_ble_eq_true rfl)⟩ ⟨(Nat.le_of_ble_eq_true rfl), (Nat.le_of_ble_eq_true rfl)⟩ ?_
      rintro v9 lay9 C9 ⟨rfl, rfl, rfl⟩
      refine v_st (st' := [.int (M_across μ1.1 (ix g) (μ.1 24 t)), .int (nI t), .ref (lay (100, 25))]) (by rfl) ?_
      refine r_PIn X 24 (by decide) rfl rfl ht (xdec_at tX5_leaves_1 9 rfl) ?_
      refine v_iload_n X (xdec_at tX5_leaves_1 10 rfl) rfl rfl ?_
      refine v_aload_n X (xdec_at tX5_leaves_1 11 rfl) rfl rfl ?_
      refine r_A X 18 (by decide) rfl rfl (xdec_at tX5_leaves_1 12 rfl) ?_
      refine v_iload_n X (xdec_at tX5_leaves_1 13 rfl) rfl rfl ?_
      refine r_In (v := (μ1.1 18 t)) X 18 (by decide) rfl rfl ht (xdec_at tX5_leaves_1 14 rfl) rfl ?_
      refine v_icmp_eq (tgt := 118) X (xdec_at tX5_leaves_1 15 rfl) (by decide) (fun c_83 => ?_) (fun c_83 => ?_)
      · have e9 : M_leaves μ t = ((up2 (up2 (up2 (up2 μ1.1 23 t 1) 25 t g) 26 t (μ1.1 13 (ix g))) 24 t (M_across μ1.1 (ix g) (μ.1 24 t))), μ1.2) := by unfold M_leaves; simp only [← hg, ← hm1]; simp [(eq_true c_13), c_34, (eq_true c_83)]
        exact v_vret X hr (xdec_at tX5_leaves_1 38 rfl) (Nat.le_of_ble_eq_true rfl) (Nat.le_of_ble_eq_true rfl) ⟨rfl, rfl, by rw [e9]⟩
      · refine v_aload_n X (xdec_at tX5_leaves_1 16 rfl) rfl rfl ?_
        refine v_aload_n X (xdec_at tX5_leaves_1 17 rfl) rfl rfl ?_
        refine r_A X 18 (by decide) rfl rfl (xdec_at tX5_leaves_1 18 rfl) ?_
        refine v_iload_n X (xdec_at tX5_leaves_1 19 rfl) rfl rfl ?_
        refine r_In (v := (μ1.1 18 t)) X 18 (by decide) rfl rfl ht (xdec_at tX5_leaves_1 20 rfl) rfl ?_
        refine v_iload_n X (xdec_at tX5_leaves_1 21 rfl) rfl rfl ?_
        refine v_aload_n X (xdec_at tX5_leaves_1 22 rfl) rfl rfl ?_
        refine r_A X 4 (by decide) rfl rfl (xdec_at tX5_leaves_1 23 rfl) ?_
        refine v_iload_n X (xdec_at tX5_leaves_1 24 rfl) rfl rfl ?_
        refine r_I (v := (μ1.1 4 (ix (μ.1 24 t)))) X 4 (by decide) rfl rfl (hI.at ht) (xdec_at tX5_leaves_1 25 rfl) rfl ?_
        refine v_i2l X (xdec_at tX5_leaves_1 26 rfl) rfl ?_
        refine v_aload_n X (xdec_at tX5_leaves_1 27 rfl) rfl rfl ?_
        refine r_A X 20 (by decide) rfl rfl (xdec_at tX5_leaves_1 28 rfl) ?_
        refine v_iload_n X (xdec_at tX5_leaves_1 29 rfl) rfl rfl ?_
        refine r_In (v := (μ1.1 20 t)) X 20 (by decide) rfl rfl ht (xdec_at tX5_leaves_1 30 rfl) rfl ?_
        refine v_bipush (v := 9) X (xdec_at tX5_leaves_1 31 rfl) (by decide) ?_
        refine v_iadd X (xdec_at tX5_leaves_1 32 rfl) ?_
        refine v_bipush (v := 10) X (xdec_at tX5_leaves_1 33 rfl) (by decide) ?_
        refine v_idiv X (xdec_at tX5_leaves_1 34 rfl) (by decide) ?_
        refine v_i2l X (xdec_at tX5_leaves_1 35 rfl) rfl ?_
        refine v_lmul X (xdec_at tX5_leaves_1 36 rfl) ?_
        refine v_callV X myX5_pays [.int (μ1.1 18 t), .int (μ.1 24 t), .long (((μ1.1 4 (ix (μ.1 24 t)))).toInt64 * ((((μ1.1 20 t) + 9) / 10)).toInt64)] [] (c_pays l Z B0 lay ((up2 (up2 (up2 (up2 μ1.1 23 t 1) 25 t g) 26 t (μ1.1 13 (ix g))) 24 t (M_across μ1.1 (ix g) (μ.1 24 t))), μ1.2) r (μ1.1 18 t) (μ.1 24 t) (hI1.or ht) (hI.at ht) (((μ1.1 4 (ix (μ.1 24 t)))).toInt64 * ((((μ1.1 20 t) + 9) / 10)).toInt64)) (xw_at tW_20 24 rfl) (100, 0) cM_0 rfl rfl rfl rfl (by rfl) (Nat.le_of_ble_eq_true rfl) (xdec_at tX5_leaves_1 37 rfl) ⟨(Nat.le_of_ble_eq_true rfl), (Nat.le_of_ble_eq_true rfl)⟩ ⟨(Nat.le_of_ble_eq_true rfl), (Nat.le_of_ble_eq_true rfl)⟩ ?_
        rintro v9 lay9 C9 ⟨rfl, rfl, rfl⟩
        have e9 : M_leaves μ t = (M_pays ((up2 (up2 (up2 (up2 μ1.1 23 t 1) 25 t g) 26 t (μ1.1 13 (ix g))) 24 t (M_across μ1.1 (ix g) (μ.1 24 t))), μ1.2) (ix (μ1.1 18 t)) (ix (μ.1 24 t)) (((μ1.1 4 (ix (μ.1 24 t)))).toInt64 * ((((μ1.1 20 t) + 9) / 10)).toInt64)) := by unfold M_leaves; simp only [← hg, ← hm1]; simp [(eq_true c_13), c_34, c_83]
        exact v_vret X hr (xdec_at tX5_leaves_1 38 rfl) (Nat.le_of_ble_eq_true rfl) (Nat.le_of_ble_eq_true rfl) ⟨rfl, rfl, by rw [e9]⟩
    · have e9 : M_leaves μ t = μ1 := by unfold M_leaves; simp only [← hg, ← hm1]; simp [(eq_true c_13), (eq_true c_34)]
      exact v_vret X hr (xdec_at tX5_leaves_0 23 rfl) (Nat.le_of_ble_eq_true rfl) (Nat.le_of_ble_eq_true rfl) ⟨rfl, rfl, by rw [e9]⟩
  · refine v_iconst (v := (-1)) X (xdec_at tX5_leaves_0 10 rfl) (by decide) ?_
    refine v_goto (tgt := 31) X (xdec_at tX5_leaves_0 11 rfl) (by decide) ?_
    refine v_istore_n (lv' := [some (.ref (lay (100, 0))), some (.int (nI t)), some (.int (μ.1 24 t)), some (.int (-1))]) X (xdec_at tX5_leaves_0 19 rfl) rfl (by decide) rfl ?_
    refine v_iload_n X (xdec_at tX5_leaves_0 20 rfl) rfl rfl ?_
    refine v_iconst (v := (-1)) X (xdec_at tX5_leaves_0 21 rfl) (by decide) ?_
    refine v_icmp_ne (tgt := 38) X (xdec_at tX5_leaves_0 22 rfl) (by decide) (fun h9 => absurd h9 (by decide)) (fun _ => ?_)
    have e9 : M_leaves μ t = μ := by unfold M_leaves; simp [c_13]
    exact v_vret X hr (xdec_at tX5_leaves_0 23 rfl) (Nat.le_of_ble_eq_true rfl) (Nat.le_of_ble_eq_true rfl) ⟨rfl, rfl, by rw [e9]⟩
set_option maxRecDepth 100000 in
set_option maxHeartbeats 4000000 in
theorem c_go (l : Launch) (Z : xZ) (B0 : Nat) (lay : xK → Nat) (μ : Mu) (r : xK → Option xE) (d : Int32) (hI : RI μ) : YM l yX5_go cX5_go 5 ((some FieldType.int)) 3 74 0 0 Z B0 [.ref (lay (100, 0)), .int d] lay (cM Z lay μ r) (fun v lay' C' => lay = lay' ∧ v = some (.int (M_go μ d).1) ∧ C' = cM Z lay (M_go μ d).2 r) := by
  refine YM_of myX5_go.2.2 RX5 rfl [some (.ref (lay (100, 0))), some (.int d), none, none, none] rfl (Nat.le_of_ble_eq_true rfl) ?_
  intro P1 P2 P3 P4 P5 P6 P7 P8 X hr hnm
  obtain ⟨tn, htn, eT⟩ := hI.2.2.1
  refine v_aload_n X (xdec_at tX5_go_0 0 rfl) rfl rfl ?_
  refine v_iload_n X (xdec_at tX5_go_0 1 rfl) rfl rfl ?_
  refine v_iconst (v := 1) X (xdec_at tX5_go_0 2 rfl) (by decide) ?_
  refine v_sipush (v := 200) X (xdec_at tX5_go_0 3 rfl) (by decide) ?_
  refine v_callS X myX5_in [.int d, .int 1, .int 200] [.ref (lay (100, 0))] (c_in l Z B0 lay (cM Z lay μ r) d 1 200) (xw_at tW_18 1 rfl) rfl rfl (by rfl) (Nat.le_of_ble_eq_true rfl) (xdec_at tX5_go_0 4 rfl) ⟨(Nat.le_of_ble_eq_true rfl), (Nat.le_of_ble_eq_true rfl)⟩ ⟨(Nat.le_of_ble_eq_true rfl), (Nat.le_of_ble_eq_true rfl)⟩ ?_
  rintro v9 lay9 C9 ⟨rfl, rfl, ⟨rfl, q_6⟩ | ⟨rfl, q_6⟩⟩
  · refine v_callV X myX5_asks [.int 1] [] (c_asks1 l Z B0 lay μ r) (xw_at tW_17 31 rfl) (100, 0) cM_0 rfl rfl rfl rfl (by rfl) (Nat.le_of_ble_eq_true rfl) (xdec_at tX5_go_0 5 rfl) ⟨(Nat.le_of_ble_eq_true rfl), (Nat.le_of_ble_eq_true rfl)⟩ ⟨(Nat.le_of_ble_eq_true rfl), (Nat.le_of_ble_eq_true rfl)⟩ ?_
    rintro v9 lay9 C9 ⟨rfl, rfl, rfl⟩
    refine v_if_ne (tgt := 17) X (xdec_at tX5_go_0 6 rfl) (by decide) (fun _ => ?_) (fun h9 => absurd h9 (by decide))
    refine v_iconst (v := 0) X (xdec_at tX5_go_0 9 rfl) (by decide) ?_
    refine v_istore_n (lv' := [some (.ref (lay (100, 0))), some (.int d), some (.int 0), none, none]) X (xdec_at tX5_go_0 10 rfl) rfl (by decide) rfl ?_
    refine v_iconst (v := 0) X (xdec_at tX5_go_0 11 rfl) (by decide) ?_
    refine v_istore_n (lv' := [some (.ref (lay (100, 0))), some (.int d), some (.int 0), some (.int 0), none]) X (xdec_at tX5_go_0 12 rfl) rfl (by decide) rfl ?_
    obtain ⟨ed0, hd1, hd2⟩ := inR_ix (M := 200) (by decide) q_6
    obtain ⟨nd, hnd⟩ : ∃ z, z = ix d := ⟨_, rfl⟩
    have ed : d = nI nd := by rw [hnd]; exact ed0
    have hnd2 : nd ≤ 200 := by omega
    refine v_for nd (fun j9 => cM Z lay (M_days j9 (0, th μ 0)).2 r) (fun j9 => [some (.ref (lay (100, 0))), some (.int d), some (.int (M_days j9 (0, th μ 0)).1), some (.int (nI j9)), none]) 21 [] (fun i1 hi1 ih1 => ?_) ?_
    · obtain ⟨q, hq⟩ : ∃ q, q = M_days i1 (0, th μ 0) := ⟨_, rfl⟩
      have hIq : RI q.2 := by rw [hq]; exact RI_days (RI_th hI 0) i1
      have hq16 : q.2.1 16 0 = nI tn := by rw [hq, kep_days _ rfl]; exact eT
      refine v_mu (μ' := q.2) (by rw [hq]) ?_
      refine v_le (lv' := [some (.ref (lay (100, 0))), some (.int d), some (.int q.1), some (.int (nI i1)), none]) (by simp [xle, hq]) ?_
      refine v_iload_n X (xdec_at tX5_go_0 13 rfl) rfl rfl ?_
      refine v_iload_n X (xdec_at tX5_go_0 14 rfl) rfl rfl ?_
      refine v_icmp_ge (tgt := 108) X (xdec_at tX5_go_0 15 rfl) (by decide) (fun c_23 => ?_) (fun c_23 => ?_)
      · exact absurd c_23 (by rw [ed]; exact nI_ge hi1 (by omega))
      · refine v_iconst (v := 0) X (xdec_at tX5_go_0 16 rfl) (by decide) ?_
        refine v_istore (lv' := [some (.ref (lay (100, 0))), some (.int d), some (.int q.1), some (.int (nI i1)), some (.int 0)]) X (xdec_at tX5_go_0 17 rfl) (by decide) rfl ?_
        refine v_for tn (fun j9 => cM Z lay (M_g1 tn j9 q).2 r) (fun j9 => [some (.ref (lay (100, 0))), some (.int d), some (.int (M_g1 tn j9 q).1), some (.int (nI i1)), some (.int (nI j9))]) 29 [] (fun i2 hi2 ih2 => ?_) ?_
        · obtain ⟨u, hu⟩ : ∃ u, u = M_g1 tn i2 q := ⟨_, rfl⟩
          have hIu : RI u.2 := by rw [hu]; exact RI_g1 hIq tn i2 (by omega)
          have hu16 : u.2.1 16 0 = nI tn := by rw [hu, kep_g1 _ _ rfl]; exact hq16
          have ht2 : i2 < 40 := by omega
          refine v_mu (μ' := u.2) (by rw [hu]) ?_
          refine v_le (lv' := [some (.ref (lay (100, 0))), some (.int d), some (.int u.1), some (.int (nI i1)), some (.int (nI i2))]) (by simp [xle, hu]) ?_
          refine v_iload X (xdec_at tX5_go_0 18 rfl) rfl ?_
          refine v_aload_n X (xdec_at tX5_go_0 19 rfl) rfl rfl ?_
          refine r_S (v := (u.2.1 16 0)) X 16 (by decide) rfl rfl (xdec_at tX5_go_0 20 rfl) rfl ?_
          refine v_icmp_ge (tgt := 68) X (xdec_at tX5_go_0 21 rfl) (by decide) (fun c_35 => ?_) (fun c_35 => ?_)
          · exact absurd c_35 (by rw [hu16]; exact nI_ge hi2 (by omega))
          · refine v_iload_n X (xdec_at tX5_go_0 22 rfl) rfl rfl ?_
            refine v_aload_n X (xdec_at tX5_go_0 23 rfl) rfl rfl ?_
            refine r_A X 23 (by decide) rfl rfl (xdec_at tX5_go_0 24 rfl) ?_
            refine v_iload X (xdec_at tX5_go_0 25 rfl) rfl ?_
            refine r_In (v := (u.2.1 23 i2)) X 23 (by decide) rfl rfl ht2 (xdec_at tX5_go_0 26 rfl) rfl ?_
            refine v_iconst (v := 1) X (xdec_at tX5_go_0 27 rfl) (by decide) ?_
            refine v_icmp_ne (tgt := 59) X (xdec_at tX5_go_0 28 rfl) (by decide) (fun c_47 => ?_) (fun c_47 => ?_)
            · refine v_iconst (v := 0) X (xdec_at tX5_go_0 33 rfl) (by decide) ?_
              refine v_iadd X (xdec_at tX5_go_0 34 rfl) ?_
              refine v_istore_n (lv' := [some (.ref (lay (100, 0))), some (.int d), some (.int (u.1 + 0)), some (.int (nI i1)), some (.int (nI i2))]) X (xdec_at tX5_go_0 35 rfl) rfl (by decide) rfl ?_
              refine v_iinc (v := (nI (i2 + 1))) (lv' := [some (.ref (lay (100, 0))), some (.int d), some (.int (u.1 + 0)), some (.int (nI i1)), some (.int (nI (i2 + 1)))]) X (xdec_at tX5_go_0 36 rfl) rfl (nI_1 _) (by decide) rfl ?_
              refine v_goto (tgt := 29) X (xdec_at tX5_go_0 37 rfl) (by decide) ?_
              refine v_le (lv' := [some (.ref (lay (100, 0))), some (.int d), some (.int (M_g1 tn (i2 + 1) q).1), some (.int (nI i1)), some (.int (nI (i2 + 1)))]) (by simp only [xle, M_g1, ← hu, and_true, true_and]; simp [c_47]) ?_
              exact v_mu (μ' := (M_g1 tn (i2 + 1) q).2) (by rw [M_g1]; simp only [← hu]; simp [c_47]) ih2
            · refine v_aload_n X (xdec_at tX5_go_0 29 rfl) rfl rfl ?_
              refine v_iload X (xdec_at tX5_go_0 30 rfl) rfl ?_
              refine v_callV X myX5_travels [.int (nI i2)] [.int u.1] (c_travels l Z B0 lay u.2 r i2 ht2 hIu) (xw_at tW_20 14 rfl) (100, 0) cM_0 rfl rfl rfl rfl (by rfl) (Nat.le_of_ble_eq_true rfl) (xdec_at tX5_go_0 31 rfl) ⟨(Nat.le_of_ble_eq_true rfl), (Nat.le_of_ble_eq_true rfl)⟩ ⟨(Nat.le_of_ble_eq_true rfl), (Nat.le_of_ble_eq_true rfl)⟩ ?_
              rintro v9 lay9 C9 ⟨rfl, rfl, rfl⟩
              refine v_goto (tgt := 60) X (xdec_at tX5_go_0 32 rfl) (by decide) ?_
              refine v_iadd X (xdec_at tX5_go_0 34 rfl) ?_
              refine v_istore_n (lv' := [some (.ref (lay (100, 0))), some (.int d), some (.int (u.1 + (M_travels u.2 i2).1)), some (.int (nI i1)), some (.int (nI i2))]) X (xdec_at tX5_go_0 35 rfl) rfl (by decide) rfl ?_
              refine v_iinc (v := (nI (i2 + 1))) (lv' := [some (.ref (lay (100, 0))), some (.int d), some (.int (u.1 + (M_travels u.2 i2).1)), some (.int (nI i1)), some (.int (nI (i2 + 1)))]) X (xdec_at tX5_go_0 36 rfl) rfl (nI_1 _) (by decide) rfl ?_
              refine v_goto (tgt := 29) X (xdec_at tX5_go_0 37 rfl) (by decide) ?_
              refine v_le (lv' := [some (.ref (lay (100, 0))), some (.int d), some (.int (M_g1 tn (i2 + 1) q).1), some (.int (nI i1)), some (.int (nI (i2 + 1)))]) (by simp only [xle, M_g1, ← hu, and_true, true_and]; simp [c_47]) ?_
              exact v_mu (μ' := (M_g1 tn (i2 + 1) q).2) (by rw [M_g1]; simp only [← hu]; simp [c_47]) ih2
        · obtain ⟨u, hP⟩ : ∃ u, u = M_g1 tn tn q := ⟨_, rfl⟩
          have hIu : RI u.2 := by rw [hP]; exact RI_g1 hIq tn tn (by omega)
          have hu16 : u.2.1 16 0 = nI tn := by rw [hP, kep_g1 _ _ rfl]; exact hq16
          refine v_mu (μ' := u.2) (by rw [hP]) ?_
          refine v_le (lv' := [some (.ref (lay (100, 0))), some (.int d), some (.int u.1), some (.int (nI i1)), some (.int (nI tn))]) (by simp [xle, hP]) ?_
          refine v_iload X (xdec_at tX5_go_0 18 rfl) rfl ?_
          refine v_aload_n X (xdec_at tX5_go_0 19 rfl) rfl rfl ?_
          refine r_S (v := (u.2.1 16 0)) X 16 (by decide) rfl rfl (xdec_at tX5_go_0 20 rfl) rfl ?_
          refine v_icmp_ge (tgt := 68) X (xdec_at tX5_go_0 21 rfl) (by decide) (fun c_35 => ?_) (fun c_35 => ?_)
          · refine v_iconst (v := 0) X (xdec_at tX5_go_0 38 rfl) (by decide) ?_
            refine v_istore (lv' := [some (.ref (lay (100, 0))), some (.int d), some (.int u.1), some (.int (nI i1)), some (.int 0)]) X (xdec_at tX5_go_0 39 rfl) (by decide) rfl ?_
            refine v_for tn (fun j9 => cM Z lay (M_g2 j9 u.2) r) (fun j9 => [some (.ref (lay (100, 0))), some (.int d), some (.int u.1), some (.int (nI i1)), some (.int (nI j9))]) 71 [] (fun i3 hi3 ih3 => ?_) ?_
            · obtain ⟨n, hn⟩ : ∃ n, n = M_g2 i3 u.2 := ⟨_, rfl⟩
              have hIn : RI n := by rw [hn]; exact RI_g2 hIu i3 (by omega)
              have hn16 : n.1 16 0 = nI tn := by rw [hn, kep_g2 _ rfl]; exact hu16
              have ht3 : i3 < 40 := by omega
              refine v_mu (μ' := n) (by rw [hn]) ?_
              refine v_iload X (xdec_at tX5_go_1 0 rfl) rfl ?_
              refine v_aload_n X (xdec_at tX5_go_1 1 rfl) rfl rfl ?_
              refine r_S (v := (n.1 16 0)) X 16 (by decide) rfl rfl (xdec_at tX5_go_1 2 rfl) rfl ?_
              refine v_icmp_ge (tgt := 102) X (xdec_at tX5_go_1 3 rfl) (by decide) (fun c_77 => ?_) (fun c_77 => ?_)
              · exact absurd c_77 (by rw [hn16]; exact nI_ge hi3 (by omega))
              · refine v_aload_n X (xdec_at tX5_go_1 4 rfl) rfl rfl ?_
                refine r_A X 23 (by decide) rfl rfl (xdec_at tX5_go_1 5 rfl) ?_
                refine v_iload X (xdec_at tX5_go_1 6 rfl) rfl ?_
                refine r_In (v := (n.1 23 i3)) X 23 (by decide) rfl rfl ht3 (xdec_at tX5_go_1 7 rfl) rfl ?_
                refine v_if_ne (tgt := 96) X (xdec_at tX5_go_1 8 rfl) (by decide) (fun c_87 => ?_) (fun c_87 => ?_)
                · refine v_iinc (v := (nI (i3 + 1))) (lv' := [some (.ref (lay (100, 0))), some (.int d), some (.int u.1), some (.int (nI i1)), some (.int (nI (i3 + 1)))]) X (xdec_at tX5_go_1 12 rfl) rfl (nI_1 _) (by decide) rfl ?_
                  refine v_goto (tgt := 71) X (xdec_at tX5_go_1 13 rfl) (by decide) ?_
                  refine v_le (lv' := [some (.ref (lay (100, 0))), some (.int d), some (.int u.1), some (.int (nI i1)), some (.int (nI (i3 + 1)))]) (by simp [xle]) ?_
                  exact v_mu (μ' := (M_g2 (i3 + 1) u.2)) (by rw [M_g2]; simp only [← hn]; simp [c_87]) ih3
                · refine v_aload_n X (xdec_at tX5_go_1 9 rfl) rfl rfl ?_
                  refine v_iload X (xdec_at tX5_go_1 10 rfl) rfl ?_
                  refine v_callV X myX5_leaves [.int (nI i3)] [] (c_leaves l Z B0 lay n r i3 ht3 hIn) (xw_at tW_20 27 rfl) (100, 0) cM_0 rfl rfl rfl rfl (by rfl) (Nat.le_of_ble_eq_true rfl) (xdec_at tX5_go_1 11 rfl) ⟨(Nat.le_of_ble_eq_true rfl), (Nat.le_of_ble_eq_true rfl)⟩ ⟨(Nat.le_of_ble_eq_true rfl), (Nat.le_of_ble_eq_true rfl)⟩ ?_
                  rintro v9 lay9 C9 ⟨rfl, rfl, rfl⟩
                  refine v_iinc (v := (nI (i3 + 1))) (lv' := [some (.ref (lay (100, 0))), some (.int d), some (.int u.1), some (.int (nI i1)), some (.int (nI (i3 + 1)))]) X (xdec_at tX5_go_1 12 rfl) rfl (nI_1 _) (by decide) rfl ?_
                  refine v_goto (tgt := 71) X (xdec_at tX5_go_1 13 rfl) (by decide) ?_
                  refine v_le (lv' := [some (.ref (lay (100, 0))), some (.int d), some (.int u.1), some (.int (nI i1)), some (.int (nI (i3 + 1)))]) (by simp [xle]) ?_
                  exact v_mu (μ' := (M_g2 (i3 + 1) u.2)) (by rw [M_g2]; simp only [← hn]; simp [c_87]) ih3
            · obtain ⟨n, hN⟩ : ∃ n, n = M_g2 tn u.2 := ⟨_, rfl⟩
              have hn16 : n.1 16 0 = nI tn := by rw [hN, kep_g2 _ rfl]; exact hu16
              refine v_mu (μ' := n) (by rw [hN]) ?_
              refine v_iload X (xdec_at tX5_go_1 0 rfl) rfl ?_
              refine v_aload_n X (xdec_at tX5_go_1 1 rfl) rfl rfl ?_
              refine r_S (v := (n.1 16 0)) X 16 (by decide) rfl rfl (xdec_at tX5_go_1 2 rfl) rfl ?_
              refine v_icmp_ge (tgt := 102) X (xdec_at tX5_go_1 3 rfl) (by decide) (fun c_77 => ?_) (fun c_77 => ?_)
              · refine v_iinc (v := (nI (i1 + 1))) (lv' := [some (.ref (lay (100, 0))), some (.int d), some (.int u.1), some (.int (nI (i1 + 1))), some (.int (nI tn))]) X (xdec_at tX5_go_1 14 rfl) rfl (nI_1 _) (by decide) rfl ?_
                refine v_goto (tgt := 21) X (xdec_at tX5_go_1 15 rfl) (by decide) ?_
                refine v_le (lv' := [some (.ref (lay (100, 0))), some (.int d), some (.int (M_days (i1 + 1) (0, th μ 0)).1), some (.int (nI (i1 + 1))), none]) (by simp only [xle, M_days, ← hq, M_day, hq16, ix_nI (show tn < 2 ^ 31 by omega), hP, and_self]) ?_
                exact v_mu (μ' := (M_days (i1 + 1) (0, th μ 0)).2) (by rw [M_days, ← hq]; simp only [M_day, hq16, ix_nI (show tn < 2 ^ 31 by omega)]; rw [hN, hP]) ih1
              · exact absurd (show n.1 16 0 ≤ nI tn by rw [hn16]; exact Int32.le_refl _) c_77
          · exact absurd (show u.2.1 16 0 ≤ nI tn by rw [hu16]; exact Int32.le_refl _) c_35
    · refine v_iload_n X (xdec_at tX5_go_0 13 rfl) rfl rfl ?_
      refine v_iload_n X (xdec_at tX5_go_0 14 rfl) rfl rfl ?_
      refine v_icmp_ge (tgt := 108) X (xdec_at tX5_go_0 15 rfl) (by decide) (fun c_23 => ?_) (fun c_23 => ?_)
      · refine v_iload_n X (xdec_at tX5_go_1 16 rfl) rfl rfl ?_
        have e9 : M_go μ d = M_days nd (0, th μ 0) := by rw [M_go, if_pos q_6, ← hnd]
        exact v_iret X hr (xdec_at tX5_go_1 17 rfl) (Nat.le_of_ble_eq_true rfl) (Nat.le_of_ble_eq_true rfl) ⟨rfl, by rw [e9], by rw [e9]⟩
      · exact absurd (show d ≤ nI nd by rw [← ed]; exact Int32.le_refl _) c_23
  · refine v_callV X myX5_asks [.int 0] [] (c_asks0 l Z B0 lay μ r) (xw_at tW_17 31 rfl) (100, 0) cM_0 rfl rfl rfl rfl (by rfl) (Nat.le_of_ble_eq_true rfl) (xdec_at tX5_go_0 5 rfl) ⟨(Nat.le_of_ble_eq_true rfl), (Nat.le_of_ble_eq_true rfl)⟩ ⟨(Nat.le_of_ble_eq_true rfl), (Nat.le_of_ble_eq_true rfl)⟩ ?_
    rintro v9 lay9 C9 ⟨rfl, rfl, rfl⟩
    refine v_if_ne (tgt := 17) X (xdec_at tX5_go_0 6 rfl) (by decide) (fun h9 => absurd h9 (by decide)) (fun _ => ?_)
    refine v_iconst (v := 0) X (xdec_at tX5_go_0 7 rfl) (by decide) ?_
    have e9 : M_go μ d = (0, ((up2 μ.1 38 0 1), μ.2)) := by simp [M_go, q_6]
    exact v_iret X hr (xdec_at tX5_go_0 8 rfl) (Nat.le_of_ble_eq_true rfl) (Nat.le_of_ble_eq_true rfl) ⟨rfl, by rw [e9], by rw [e9]⟩
set_option maxRecDepth 100000 in
set_option maxHeartbeats 4000000 in
theorem c_mail (l : Launch) (Z : xZ) (B0 : Nat) (lay : xK → Nat) (μ : Mu) (r : xK → Option xE) (k a b g pd rg : Int32) (hI : RI μ) (hrg : rg = 0 ∨ rg = 1) : YM l yX5_mail cX5_mail 9 ((some FieldType.int)) 2 43 0 0 Z B0 [.ref (lay (100, 0)), .int k, .int a, .int b, .int g, .int pd, .int rg] lay (cM Z lay μ r) (fun v lay' C' => lay = lay' ∧ v = some (.int (M_mail μ k a b g pd rg).1) ∧ C' = cM Z lay (M_mail μ k a b g pd rg).2 r) := by
  refine YM_of myX5_mail.2.2 RX5 rfl [some (.ref (lay (100, 0))), some (.int k), some (.int a), some (.int b), some (.int g), some (.int pd), some (.int rg), none, none] rfl (Nat.le_of_ble_eq_true rfl) ?_
  intro P1 P2 P3 P4 P5 P6 P7 P8 X hr hnm
  refine v_aload_n X (xdec_at tX5_mail_0 0 rfl) rfl rfl ?_
  refine v_aload_n X (xdec_at tX5_mail_0 1 rfl) rfl rfl ?_
  refine v_iload_n X (xdec_at tX5_mail_0 2 rfl) rfl rfl ?_
  refine v_callV X myX5_isPost [.int a] [.ref (lay (100, 0))] (c_isPost l Z B0 lay μ r a) (xw_at tW_17 38 rfl) (100, 0) cM_0 rfl rfl rfl rfl (by rfl) (Nat.le_of_ble_eq_true rfl) (xdec_at tX5_mail_0 3 rfl) ⟨(Nat.le_of_ble_eq_true rfl), (Nat.le_of_ble_eq_true rfl)⟩ ⟨(Nat.le_of_ble_eq_true rfl), (Nat.le_of_ble_eq_true rfl)⟩ ?_
  rintro v9 lay9 C9 ⟨rfl, rfl, ⟨rfl, q_3⟩ | ⟨rfl, q_3⟩⟩
  · refine v_if_eq (tgt := 21) X (xdec_at tX5_mail_0 4 rfl) (by decide) (fun h9 => absurd h9 (by decide)) (fun _ => ?_)
    refine v_aload_n X (xdec_at tX5_mail_0 5 rfl) rfl rfl ?_
    refine v_iload_n X (xdec_at tX5_mail_0 6 rfl) rfl rfl ?_
    refine v_callV X myX5_isPost [.int b] [.ref (lay (100, 0))] (c_isPost l Z B0 lay μ r b) (xw_at tW_17 38 rfl) (100, 0) cM_0 rfl rfl rfl rfl (by rfl) (Nat.le_of_ble_eq_true rfl) (xdec_at tX5_mail_0 7 rfl) ⟨(Nat.le_of_ble_eq_true rfl), (Nat.le_of_ble_eq_true rfl)⟩ ⟨(Nat.le_of_ble_eq_true rfl), (Nat.le_of_ble_eq_true rfl)⟩ ?_
    rintro v9 lay9 C9 ⟨rfl, rfl, ⟨rfl, q_11⟩ | ⟨rfl, q_11⟩⟩
    · refine v_if_eq (tgt := 21) X (xdec_at tX5_mail_0 8 rfl) (by decide) (fun h9 => absurd h9 (by decide)) (fun _ => ?_)
      refine v_iconst (v := 1) X (xdec_at tX5_mail_0 9 rfl) (by decide) ?_
      refine v_goto (tgt := 22) X (xdec_at tX5_mail_0 10 rfl) (by decide) ?_
      refine v_callV X myX5_asks [.int 1] [] (c_asks1 l Z B0 lay μ r) (xw_at tW_17 31 rfl) (100, 0) cM_0 rfl rfl rfl rfl (by rfl) (Nat.le_of_ble_eq_true rfl) (xdec_at tX5_mail_0 12 rfl) ⟨(Nat.le_of_ble_eq_true rfl), (Nat.le_of_ble_eq_true rfl)⟩ ⟨(Nat.le_of_ble_eq_true rfl), (Nat.le_of_ble_eq_true rfl)⟩ ?_
      rintro v9 lay9 C9 ⟨rfl, rfl, rfl⟩
      refine v_if_ne (tgt := 30) X (xdec_at tX5_mail_0 13 rfl) (by decide) (fun _ => ?_) (fun h9 => absurd h9 (by decide))
      refine v_iload_n X (xdec_at tX5_mail_0 16 rfl) rfl rfl ?_
      refine v_callS X myX5_isKind [.int k] [] (c_isKind l Z B0 lay (cM Z lay ((up2 μ.1 38 0 0), μ.2) r) k) (xw_at tW_18 4 rfl) rfl rfl (by rfl) (Nat.le_of_ble_eq_true rfl) (xdec_at tX5_mail_0 17 rfl) ⟨(Nat.le_of_ble_eq_true rfl), (Nat.le_of_ble_eq_true rfl)⟩ ⟨(Nat.le_of_ble_eq_true rfl), (Nat.le_of_ble_eq_true rfl)⟩ ?_
      rintro v9 lay9 C9 ⟨rfl, rfl, ⟨rfl, q_31⟩ | ⟨rfl, q_31⟩⟩
      · refine v_if_eq (tgt := 62) X (xdec_at tX5_mail_0 18 rfl) (by decide) (fun h9 => absurd h9 (by decide)) (fun _ => ?_)
        refine v_iload_n X (xdec_at tX5_mail_0 19 rfl) rfl rfl ?_
        refine v_iload X (xdec_at tX5_mail_0 20 rfl) rfl ?_
        refine v_callS X myX5_areGrams [.int k, .int g] [] (c_areGrams l Z B0 lay (cM Z lay ((up2 μ.1 38 0 0), μ.2) r) k g) (xw_at tW_19 26 rfl) rfl rfl (by rfl) (Nat.le_of_ble_eq_true rfl) (xdec_at tX5_mail_0 21 rfl) ⟨(Nat.le_of_ble_eq_true rfl), (Nat.le_of_ble_eq_true rfl)⟩ ⟨(Nat.le_of_ble_eq_true rfl), (Nat.le_of_ble_eq_true rfl)⟩ ?_
        rintro v9 lay9 C9 ⟨rfl, rfl, ⟨rfl, q_40⟩ | ⟨rfl, q_40⟩⟩
        · refine v_if_eq (tgt := 62) X (xdec_at tX5_mail_0 22 rfl) (by decide) (fun h9 => absurd h9 (by decide)) (fun _ => ?_)
          refine v_iload X (xdec_at tX5_mail_0 23 rfl) rfl ?_
          refine v_iconst (v := 0) X (xdec_at tX5_mail_0 24 rfl) (by decide) ?_
          refine v_ldc (v := 100000) X (xw_at tW_19 29 rfl) (xdec_at tX5_mail_0 25 rfl) ?_
          refine v_callS X myX5_in [.int pd, .int 0, .int 100000] [] (c_in l Z B0 lay (cM Z lay ((up2 μ.1 38 0 0), μ.2) r) pd 0 100000) (xw_at tW_18 1 rfl) rfl rfl (by rfl) (Nat.le_of_ble_eq_true rfl) (xdec_at tX5_mail_0 26 rfl) ⟨(Nat.le_of_ble_eq_true rfl), (Nat.le_of_ble_eq_true rfl)⟩ ⟨(Nat.le_of_ble_eq_true rfl), (Nat.le_of_ble_eq_true rfl)⟩ ?_
          rintro v9 lay9 C9 ⟨rfl, rfl, ⟨rfl, q_51⟩ | ⟨rfl, q_51⟩⟩
          · refine v_if_eq (tgt := 62) X (xdec_at tX5_mail_0 27 rfl) (by decide) (fun h9 => absurd h9 (by decide)) (fun _ => ?_)
            refine v_iload_n X (xdec_at tX5_mail_0 28 rfl) rfl rfl ?_
            refine v_iload_n X (xdec_at tX5_mail_0 29 rfl) rfl rfl ?_
            refine v_icmp_ne (tgt := 68) X (xdec_at tX5_mail_0 30 rfl) (by decide) (fun c_59 => ?_) (fun c_59 => ?_)
            · refine v_aload_n X (xdec_at tX5_mail_0 35 rfl) rfl rfl ?_
              refine r_S (v := (μ.1 16 0)) X 16 (by decide) rfl rfl (xdec_at tX5_mail_0 36 rfl) rfl ?_
              refine v_bipush (v := 40) X (xdec_at tX5_mail_0 37 rfl) (by decide) ?_
              refine v_icmp_ne (tgt := 83) X (xdec_at tX5_mail_0 38 rfl) (by decide) (fun c_74 => ?_) (fun c_74 => ?_)
              · refine v_aload_n X (xdec_at tX5_mail_1 3 rfl) rfl rfl ?_
                refine r_S (v := (μ.1 16 0)) X 16 (by decide) rfl rfl (xdec_at tX5_mail_1 4 rfl) rfl ?_
                refine v_istore (lv' := [some (.ref (lay (100, 0))), some (.int k), some (.int a), some (.int b), some (.int g), some (.int pd), some (.int rg), some (.int (μ.1 16 0)), none]) X (xdec_at tX5_mail_1 5 rfl) (by decide) rfl ?_
                refine v_aload_n X (xdec_at tX5_mail_1 6 rfl) rfl rfl ?_
                refine v_iload_n X (xdec_at tX5_mail_1 7 rfl) rfl rfl ?_
                refine v_iload_n X (xdec_at tX5_mail_1 8 rfl) rfl rfl ?_
                refine v_iload X (xdec_at tX5_mail_1 9 rfl) rfl ?_
                refine v_iload X (xdec_at tX5_mail_1 10 rfl) rfl ?_
                refine v_callV X myX5_rateOf [.int k, .int a, .int g, .int rg] [] (c_rateOf l Z B0 lay ((up2 μ.1 38 0 0), μ.2) r k a g rg (hI.PK q_3 q_31)) (xw_at tW_19 30 rfl) (100, 0) cM_0 rfl rfl rfl rfl (by rfl) (Nat.le_of_ble_eq_true rfl) (xdec_at tX5_mail_1 11 rfl) ⟨(Nat.le_of_ble_eq_true rfl), (Nat.le_of_ble_eq_true rfl)⟩ ⟨(Nat.le_of_ble_eq_true rfl), (Nat.le_of_ble_eq_true rfl)⟩ ?_
                rintro v9 lay9 C9 ⟨rfl, rfl, rfl⟩
                refine v_istore (lv' := [some (.ref (lay (100, 0))), some (.int k), some (.int a), some (.int b), some (.int g), some (.int pd), some (.int rg), some (.int (μ.1 16 0)), some (.int (M_rateOf ((up2 μ.1 38 0 0), μ.2) k a g rg))]) X (xdec_at tX5_mail_1 12 rfl) (by decide) rfl ?_
                refine v_aload_n X (xdec_at tX5_mail_1 13 rfl) rfl rfl ?_
                refine r_A X 17 (by decide) rfl rfl (xdec_at tX5_mail_1 14 rfl) ?_
                refine v_iload X (xdec_at tX5_mail_1 15 rfl) rfl ?_
                refine v_iload_n X (xdec_at tX5_mail_1 16 rfl) rfl rfl ?_
                refine r_PI X 17 (by decide) rfl rfl (hI.t c_74) (xdec_at tX5_mail_1 17 rfl) ?_
                refine v_aload_n X (xdec_at tX5_mail_1 18 rfl) rfl rfl ?_
                refine r_A X 18 (by decide) rfl rfl (xdec_at tX5_mail_1 19 rfl) ?_
                refine v_iload X (xdec_at tX5_mail_1 20 rfl) rfl ?_
                refine v_iload_n X (xdec_at tX5_mail_1 21 rfl) rfl rfl ?_
                refine r_PI X 18 (by decide) rfl rfl (hI.t c_74) (xdec_at tX5_mail_1 22 rfl) ?_
                refine v_aload_n X (xdec_at tX5_mail_1 23 rfl) rfl rfl ?_
                refine r_A X 19 (by decide) rfl rfl (xdec_at tX5_mail_1 24 rfl) ?_
                refine v_iload X (xdec_at tX5_mail_1 25 rfl) rfl ?_
                refine v_iload_n X (xdec_at tX5_mail_1 26 rfl) rfl rfl ?_
                refine r_PI X 19 (by decide) rfl rfl (hI.t c_74) (xdec_at tX5_mail_1 27 rfl) ?_
                refine v_aload_n X (xdec_at tX5_mail_1 28 rfl) rfl rfl ?_
                refine r_A X 20 (by decide) rfl rfl (xdec_at tX5_mail_1 29 rfl) ?_
                refine v_iload X (xdec_at tX5_mail_1 30 rfl) rfl ?_
                refine v_iload X (xdec_at tX5_mail_1 31 rfl) rfl ?_
                refine r_PI X 20 (by decide) rfl rfl (hI.t c_74) (xdec_at tX5_mail_1 32 rfl) ?_
                refine v_aload_n X (xdec_at tX5_mail_1 33 rfl) rfl rfl ?_
                refine r_A X 21 (by decide) rfl rfl (xdec_at tX5_mail_1 34 rfl) ?_
                refine v_iload X (xdec_at tX5_mail_1 35 rfl) rfl ?_
                refine v_iload X (xdec_at tX5_mail_1 36 rfl) rfl ?_
                refine r_PZ X 21 (by decide) rfl rfl hrg (hI.t c_74) (xdec_at tX5_mail_1 37 rfl) ?_
                refine v_aload_n X (xdec_at tX5_mail_1 38 rfl) rfl rfl ?_
                refine r_A X 22 (by decide) rfl rfl (xdec_at tX5_mail_1 39 rfl) ?_
                refine v_iload X (xdec_at tX5_mail_2 0 rfl) rfl ?_
                refine v_iload X (xdec_at tX5_mail_2 1 rfl) rfl ?_
                refine v_iload X (xdec_at tX5_mail_2 2 rfl) rfl ?_
                refine v_icmp_le (tgt := 164) X (xdec_at tX5_mail_2 3 rfl) (by decide) (fun c_153 => ?_) (fun c_153 => ?_)
                · refine v_iconst (v := 0) X (xdec_at tX5_mail_2 8 rfl) (by decide) ?_
                  refine r_PI X 22 (by decide) rfl rfl (hI.t c_74) (xdec_at tX5_mail_2 9 rfl) ?_
                  refine v_aload_n X (xdec_at tX5_mail_2 10 rfl) rfl rfl ?_
                  refine r_A X 23 (by decide) rfl rfl (xdec_at tX5_mail_2 11 rfl) ?_
                  refine v_iload X (xdec_at tX5_mail_2 12 rfl) rfl ?_
                  refine v_iconst (v := 0) X (xdec_at tX5_mail_2 13 rfl) (by decide) ?_
                  refine r_PI X 23 (by decide) rfl rfl (hI.t c_74) (xdec_at tX5_mail_2 14 rfl) ?_
                  refine v_aload_n X (xdec_at tX5_mail_2 15 rfl) rfl rfl ?_
                  refine r_A X 24 (by decide) rfl rfl (xdec_at tX5_mail_2 16 rfl) ?_
                  refine v_iload X (xdec_at tX5_mail_2 17 rfl) rfl ?_
                  refine v_iload_n X (xdec_at tX5_mail_2 18 rfl) rfl rfl ?_
                  refine r_PI X 24 (by decide) rfl rfl (hI.t c_74) (xdec_at tX5_mail_2 19 rfl) ?_
                  refine v_aload_n X (xdec_at tX5_mail_2 20 rfl) rfl rfl ?_
                  refine r_A X 25 (by decide) rfl rfl (xdec_at tX5_mail_2 21 rfl) ?_
                  refine v_iload X (xdec_at tX5_mail_2 22 rfl) rfl ?_
                  refine v_iconst (v := (-1)) X (xdec_at tX5_mail_2 23 rfl) (by decide) ?_
                  refine r_PI X 25 (by decide) rfl rfl (hI.t c_74) (xdec_at tX5_mail_2 24 rfl) ?_
                  refine v_aload_n X (xdec_at tX5_mail_2 25 rfl) rfl rfl ?_
                  refine r_A X 8 (by decide) rfl rfl (xdec_at tX5_mail_2 26 rfl) ?_
                  refine v_iload_n X (xdec_at tX5_mail_2 27 rfl) rfl rfl ?_
                  refine v_dup2_11 X (xdec_at tX5_mail_2 28 rfl) rfl rfl ?_
                  refine r_L (v := (μ.2 8 (ix a))) X 8 (by decide) rfl rfl (hI.P q_3) (xdec_at tX5_mail_2 29 rfl) rfl ?_
                  refine v_iload X (xdec_at tX5_mail_2 30 rfl) rfl ?_
                  refine v_i2l X (xdec_at tX5_mail_2 31 rfl) rfl ?_
                  refine v_ladd X (xdec_at tX5_mail_2 32 rfl) ?_
                  refine r_PL X 8 (by decide) rfl rfl (hI.P q_3) (xdec_at tX5_mail_2 33 rfl) ?_
                  refine v_aload_n X (xdec_at tX5_mail_2 34 rfl) rfl rfl ?_
                  refine v_iload X (xdec_at tX5_mail_2 35 rfl) rfl ?_
                  refine v_iload_n X (xdec_at tX5_mail_2 36 rfl) rfl rfl ?_
                  refine v_st (st' := [.int a, .int (nI (ix (μ.1 16 0))), .ref (lay (100, 0))]) (by rw [in_eq (hI.t c_74) (by decide)] <;> rfl) ?_
                  refine v_callV X myX5_signs [.int (nI (ix (μ.1 16 0))), .int a] [] (c_signs l Z B0 lay ((up2 (up2 (up2 (up2 (up2 (up2 (up2 (up2 (up2 (up2 μ.1 38 0 0) 17 (ix (μ.1 16 0)) k) 18 (ix (μ.1 16 0)) a) 19 (ix (μ.1 16 0)) b) 20 (ix (μ.1 16 0)) g) 21 (ix (μ.1 16 0)) rg) 22 (ix (μ.1 16 0)) 0) 23 (ix (μ.1 16 0)) 0) 24 (ix (μ.1 16 0)) a) 25 (ix (μ.1 16 0)) (-1)), (up2 μ.2 8 (ix a) ((μ.2 8 (ix a)) + (pd).toInt64))) r (ix (μ.1 16 0)) (in_ix (hI.t c_74)) a (RI_up (RI_up (RI_F (RI_F (RI_up (RI_F (RI_up (RI_up (RI_up (RI_F (A := μ.1) (J := up2 μ.2 8 (ix a) (μ.2 8 (ix a) + pd.toInt64)) hI (j := 38) rfl 0 0) (ok17 (isK_in q_31))) (ok8 (j := 18) (by simp) (hI.P q_3))) (ok8 (j := 19) (by simp) (hI.P q_11))) (j := 20) rfl _ _) (okb (j := 21) (by simp) hrg)) (j := 22) rfl _ _) (j := 23) rfl _ _) (ok8 (j := 24) (by simp) (hI.P q_3))) (ok25 (Or.inl rfl)))) (xw_at tW_19 33 rfl) (100, 0) cM_0 rfl rfl rfl rfl (by rfl) (Nat.le_of_ble_eq_true rfl) (xdec_at tX5_mail_2 37 rfl) ⟨(Nat.le_of_ble_eq_true rfl), (Nat.le_of_ble_eq_true rfl)⟩ ⟨(Nat.le_of_ble_eq_true rfl), (Nat.le_of_ble_eq_true rfl)⟩ ?_
                  rintro v9 lay9 C9 ⟨rfl, rfl, rfl⟩
                  refine v_aload_n X (xdec_at tX5_mail_2 38 rfl) rfl rfl ?_
                  refine v_dup X (xdec_at tX5_mail_2 39 rfl) rfl ?_
                  refine r_S (v := ((M_signs ((up2 (up2 (up2 (up2 (up2 (up2 (up2 (up2 (up2 (up2 μ.1 38 0 0) 17 (ix (μ.1 16 0)) k) 18 (ix (μ.1 16 0)) a) 19 (ix (μ.1 16 0)) b) 20 (ix (μ.1 16 0)) g) 21 (ix (μ.1 16 0)) rg) 22 (ix (μ.1 16 0)) 0) 23 (ix (μ.1 16 0)) 0) 24 (ix (μ.1 16 0)) a) 25 (ix (μ.1 16 0)) (-1)), (up2 μ.2 8 (ix a) ((μ.2 8 (ix a)) + (pd).toInt64))) (ix (μ.1 16 0)) a).1 16 0)) X 16 (by decide) rfl rfl (xdec_at tX5_mail_3 0 rfl) rfl ?_
                  refine v_iconst (v := 1) X (xdec_at tX5_mail_3 1 rfl) (by decide) ?_
                  refine v_iadd X (xdec_at tX5_mail_3 2 rfl) ?_
                  refine r_PS X 16 (by decide) rfl (by decide) rfl (xdec_at tX5_mail_3 3 rfl) ?_
                  refine v_iload X (xdec_at tX5_mail_3 4 rfl) rfl ?_
                  have e9 : M_mail μ k a b g pd rg = ((μ.1 16 0), ((up2 (M_signs ((up2 (up2 (up2 (up2 (up2 (up2 (up2 (up2 (up2 (up2 μ.1 38 0 0) 17 (ix (μ.1 16 0)) k) 18 (ix (μ.1 16 0)) a) 19 (ix (μ.1 16 0)) b) 20 (ix (μ.1 16 0)) g) 21 (ix (μ.1 16 0)) rg) 22 (ix (μ.1 16 0)) 0) 23 (ix (μ.1 16 0)) 0) 24 (ix (μ.1 16 0)) a) 25 (ix (μ.1 16 0)) (-1)), (up2 μ.2 8 (ix a) ((μ.2 8 (ix a)) + (pd).toInt64))) (ix (μ.1 16 0)) a).1 16 0 (((M_signs ((up2 (up2 (up2 (up2 (up2 (up2 (up2 (up2 (up2 (up2 μ.1 38 0 0) 17 (ix (μ.1 16 0)) k) 18 (ix (μ.1 16 0)) a) 19 (ix (μ.1 16 0)) b) 20 (ix (μ.1 16 0)) g) 21 (ix (μ.1 16 0)) rg) 22 (ix (μ.1 16 0)) 0) 23 (ix (μ.1 16 0)) 0) 24 (ix (μ.1 16 0)) a) 25 (ix (μ.1 16 0)) (-1)), (up2 μ.2 8 (ix a) ((μ.2 8 (ix a)) + (pd).toInt64))) (ix (μ.1 16 0)) a).1 16 0) + 1)), (M_signs ((up2 (up2 (up2 (up2 (up2 (up2 (up2 (up2 (up2 (up2 μ.1 38 0 0) 17 (ix (μ.1 16 0)) k) 18 (ix (μ.1 16 0)) a) 19 (ix (μ.1 16 0)) b) 20 (ix (μ.1 16 0)) g) 21 (ix (μ.1 16 0)) rg) 22 (ix (μ.1 16 0)) 0) 23 (ix (μ.1 16 0)) 0) 24 (ix (μ.1 16 0)) a) 25 (ix (μ.1 16 0)) (-1)), (up2 μ.2 8 (ix a) ((μ.2 8 (ix a)) + (pd).toInt64))) (ix (μ.1 16 0)) a).2)) := by simp [M_mail, up2_at, (eq_true q_3), (eq_true q_11), (eq_true q_31), (eq_true q_40), (eq_true q_51), c_59, c_74, c_153, M_mailS]
                  exact v_iret X hr (xdec_at tX5_mail_3 5 rfl) (Nat.le_of_ble_eq_true rfl) (Nat.le_of_ble_eq_true rfl) ⟨rfl, by rw [e9], by rw [e9]⟩
                · refine v_iload X (xdec_at tX5_mail_2 4 rfl) rfl ?_
                  refine v_iload X (xdec_at tX5_mail_2 5 rfl) rfl ?_
                  refine v_isub X (xdec_at tX5_mail_2 6 rfl) ?_
                  refine v_goto (tgt := 165) X (xdec_at tX5_mail_2 7 rfl) (by decide) ?_
                  refine r_PI X 22 (by decide) rfl rfl (hI.t c_74) (xdec_at tX5_mail_2 9 rfl) ?_
                  refine v_aload_n X (xdec_at tX5_mail_2 10 rfl) rfl rfl ?_
                  refine r_A X 23 (by decide) rfl rfl (xdec_at tX5_mail_2 11 rfl) ?_
                  refine v_iload X (xdec_at tX5_mail_2 12 rfl) rfl ?_
                  refine v_iconst (v := 0) X (xdec_at tX5_mail_2 13 rfl) (by decide) ?_
                  refine r_PI X 23 (by decide) rfl rfl (hI.t c_74) (xdec_at tX5_mail_2 14 rfl) ?_
                  refine v_aload_n X (xdec_at tX5_mail_2 15 rfl) rfl rfl ?_
                  refine r_A X 24 (by decide) rfl rfl (xdec_at tX5_mail_2 16 rfl) ?_
                  refine v_iload X (xdec_at tX5_mail_2 17 rfl) rfl ?_
                  refine v_iload_n X (xdec_at tX5_mail_2 18 rfl) rfl rfl ?_
                  refine r_PI X 24 (by decide) rfl rfl (hI.t c_74) (xdec_at tX5_mail_2 19 rfl) ?_
                  refine v_aload_n X (xdec_at tX5_mail_2 20 rfl) rfl rfl ?_
                  refine r_A X 25 (by decide) rfl rfl (xdec_at tX5_mail_2 21 rfl) ?_
                  refine v_iload X (xdec_at tX5_mail_2 22 rfl) rfl ?_
                  refine v_iconst (v := (-1)) X (xdec_at tX5_mail_2 23 rfl) (by decide) ?_
                  refine r_PI X 25 (by decide) rfl rfl (hI.t c_74) (xdec_at tX5_mail_2 24 rfl) ?_
                  refine v_aload_n X (xdec_at tX5_mail_2 25 rfl) rfl rfl ?_
                  refine r_A X 8 (by decide) rfl rfl (xdec_at tX5_mail_2 26 rfl) ?_
                  refine v_iload_n X (xdec_at tX5_mail_2 27 rfl) rfl rfl ?_
                  refine v_dup2_11 X (xdec_at tX5_mail_2 28 rfl) rfl rfl ?_
                  refine r_L (v := (μ.2 8 (ix a))) X 8 (by decide) rfl rfl (hI.P q_3) (xdec_at tX5_mail_2 29 rfl) rfl ?_
                  refine v_iload X (xdec_at tX5_mail_2 30 rfl) rfl ?_
                  refine v_i2l X (xdec_at tX5_mail_2 31 rfl) rfl ?_
                  refine v_ladd X (xdec_at tX5_mail_2 32 rfl) ?_
                  refine r_PL X 8 (by decide) rfl rfl (hI.P q_3) (xdec_at tX5_mail_2 33 rfl) ?_
                  refine v_aload_n X (xdec_at tX5_mail_2 34 rfl) rfl rfl ?_
                  refine v_iload X (xdec_at tX5_mail_2 35 rfl) rfl ?_
                  refine v_iload_n X (xdec_at tX5_mail_2 36 rfl) rfl rfl ?_
                  refine v_st (st' := [.int a, .int (nI (ix (μ.1 16 0))), .ref (lay (100, 0))]) (by rw [in_eq (hI.t c_74) (by decide)] <;> rfl) ?_
                  refine v_callV X myX5_signs [.int (nI (ix (μ.1 16 0))), .int a] [] (c_signs l Z B0 lay ((up2 (up2 (up2 (up2 (up2 (up2 (up2 (up2 (up2 (up2 μ.1 38 0 0) 17 (ix (μ.1 16 0)) k) 18 (ix (μ.1 16 0)) a) 19 (ix (μ.1 16 0)) b) 20 (ix (μ.1 16 0)) g) 21 (ix (μ.1 16 0)) rg) 22 (ix (μ.1 16 0)) ((M_rateOf ((up2 μ.1 38 0 0), μ.2) k a g rg) - pd)) 23 (ix (μ.1 16 0)) 0) 24 (ix (μ.1 16 0)) a) 25 (ix (μ.1 16 0)) (-1)), (up2 μ.2 8 (ix a) ((μ.2 8 (ix a)) + (pd).toInt64))) r (ix (μ.1 16 0)) (in_ix (hI.t c_74)) a (RI_up (RI_up (RI_F (RI_F (RI_up (RI_F (RI_up (RI_up (RI_up (RI_F (A := μ.1) (J := up2 μ.2 8 (ix a) (μ.2 8 (ix a) + pd.toInt64)) hI (j := 38) rfl 0 0) (ok17 (isK_in q_31))) (ok8 (j := 18) (by simp) (hI.P q_3))) (ok8 (j := 19) (by simp) (hI.P q_11))) (j := 20) rfl _ _) (okb (j := 21) (by simp) hrg)) (j := 22) rfl _ _) (j := 23) rfl _ _) (ok8 (j := 24) (by simp) (hI.P q_3))) (ok25 (Or.inl rfl)))) (xw_at tW_19 33 rfl) (100, 0) cM_0 rfl rfl rfl rfl (by rfl) (Nat.le_of_ble_eq_true rfl) (xdec_at tX5_mail_2 37 rfl) ⟨(Nat.le_of_ble_eq_true rfl), (Nat.le_of_ble_eq_true rfl)⟩ ⟨(Nat.le_of_ble_eq_true rfl), (Nat.le_of_ble_eq_true rfl)⟩ ?_
                  rintro v9 lay9 C9 ⟨rfl, rfl, rfl⟩
                  refine v_aload_n X (xdec_at tX5_mail_2 38 rfl) rfl rfl ?_
                  refine v_dup X (xdec_at tX5_mail_2 39 rfl) rfl ?_
                  refine r_S (v := ((M_signs ((up2 (up2 (up2 (up2 (up2 (up2 (up2 (up2 (up2 (up2 μ.1 38 0 0) 17 (ix (μ.1 16 0)) k) 18 (ix (μ.1 16 0)) a) 19 (ix (μ.1 16 0)) b) 20 (ix (μ.1 16 0)) g) 21 (ix (μ.1 16 0)) rg) 22 (ix (μ.1 16 0)) ((M_rateOf ((up2 μ.1 38 0 0), μ.2) k a g rg) - pd)) 23 (ix (μ.1 16 0)) 0) 24 (ix (μ.1 16 0)) a) 25 (ix (μ.1 16 0)) (-1)), (up2 μ.2 8 (ix a) ((μ.2 8 (ix a)) + (pd).toInt64))) (ix (μ.1 16 0)) a).1 16 0)) X 16 (by decide) rfl rfl (xdec_at tX5_mail_3 0 rfl) rfl ?_
                  refine v_iconst (v := 1) X (xdec_at tX5_mail_3 1 rfl) (by decide) ?_
                  refine v_iadd X (xdec_at tX5_mail_3 2 rfl) ?_
                  refine r_PS X 16 (by decide) rfl (by decide) rfl (xdec_at tX5_mail_3 3 rfl) ?_
                  refine v_iload X (xdec_at tX5_mail_3 4 rfl) rfl ?_
                  have e9 : M_mail μ k a b g pd rg = ((μ.1 16 0), ((up2 (M_signs ((up2 (up2 (up2 (up2 (up2 (up2 (up2 (up2 (up2 (up2 μ.1 38 0 0) 17 (ix (μ.1 16 0)) k) 18 (ix (μ.1 16 0)) a) 19 (ix (μ.1 16 0)) b) 20 (ix (μ.1 16 0)) g) 21 (ix (μ.1 16 0)) rg) 22 (ix (μ.1 16 0)) ((M_rateOf ((up2 μ.1 38 0 0), μ.2) k a g rg) - pd)) 23 (ix (μ.1 16 0)) 0) 24 (ix (μ.1 16 0)) a) 25 (ix (μ.1 16 0)) (-1)), (up2 μ.2 8 (ix a) ((μ.2 8 (ix a)) + (pd).toInt64))) (ix (μ.1 16 0)) a).1 16 0 (((M_signs ((up2 (up2 (up2 (up2 (up2 (up2 (up2 (up2 (up2 (up2 μ.1 38 0 0) 17 (ix (μ.1 16 0)) k) 18 (ix (μ.1 16 0)) a) 19 (ix (μ.1 16 0)) b) 20 (ix (μ.1 16 0)) g) 21 (ix (μ.1 16 0)) rg) 22 (ix (μ.1 16 0)) ((M_rateOf ((up2 μ.1 38 0 0), μ.2) k a g rg) - pd)) 23 (ix (μ.1 16 0)) 0) 24 (ix (μ.1 16 0)) a) 25 (ix (μ.1 16 0)) (-1)), (up2 μ.2 8 (ix a) ((μ.2 8 (ix a)) + (pd).toInt64))) (ix (μ.1 16 0)) a).1 16 0) + 1)), (M_signs ((up2 (up2 (up2 (up2 (up2 (up2 (up2 (up2 (up2 (up2 μ.1 38 0 0) 17 (ix (μ.1 16 0)) k) 18 (ix (μ.1 16 0)) a) 19 (ix (μ.1 16 0)) b) 20 (ix (μ.1 16 0)) g) 21 (ix (μ.1 16 0)) rg) 22 (ix (μ.1 16 0)) ((M_rateOf ((up2 μ.1 38 0 0), μ.2) k a g rg) - pd)) 23 (ix (μ.1 16 0)) 0) 24 (ix (μ.1 16 0)) a) 25 (ix (μ.1 16 0)) (-1)), (up2 μ.2 8 (ix a) ((μ.2 8 (ix a)) + (pd).toInt64))) (ix (μ.1 16 0)) a).2)) := by simp [M_mail, up2_at, (eq_true q_3), (eq_true q_11), (eq_true q_31), (eq_true q_40), (eq_true q_51), c_59, c_74, c_153, M_mailS]
                  exact v_iret X hr (xdec_at tX5_mail_3 5 rfl) (Nat.le_of_ble_eq_true rfl) (Nat.le_of_ble_eq_true rfl) ⟨rfl, by rw [e9], by rw [e9]⟩
              · refine v_aload_n X (xdec_at tX5_mail_0 39 rfl) rfl rfl ?_
                refine v_iconst (v := 3) X (xdec_at tX5_mail_1 0 rfl) (by decide) ?_
                refine v_callV X myX5_fails [.int 3] [] (c_fails l Z B0 lay ((up2 μ.1 38 0 0), μ.2) r 3) (xw_at tW_18 11 rfl) (100, 0) cM_0 rfl rfl rfl rfl (by rfl) (Nat.le_of_ble_eq_true rfl) (xdec_at tX5_mail_1 1 rfl) ⟨(Nat.le_of_ble_eq_true rfl), (Nat.le_of_ble_eq_true rfl)⟩ ⟨(Nat.le_of_ble_eq_true rfl), (Nat.le_of_ble_eq_true rfl)⟩ ?_
                rintro v9 lay9 C9 ⟨rfl, rfl, rfl⟩
                have e9 : M_mail μ k a b g pd rg = (0, ((up2 (up2 μ.1 38 0 0) 38 0 3), μ.2)) := by simp [M_mail, up2_at, (eq_true q_3), (eq_true q_11), (eq_true q_31), (eq_true q_40), (eq_true q_51), c_59, (eq_true c_74), M_mailS]
                exact v_iret X hr (xdec_at tX5_mail_1 2 rfl) (Nat.le_of_ble_eq_true rfl) (Nat.le_of_ble_eq_true rfl) ⟨rfl, by rw [e9], by rw [e9]⟩
            · refine v_aload_n X (xdec_at tX5_mail_0 31 rfl) rfl rfl ?_
              refine v_iconst (v := 2) X (xdec_at tX5_mail_0 32 rfl) (by decide) ?_
              refine v_callV X myX5_fails [.int 2] [] (c_fails l Z B0 lay ((up2 μ.1 38 0 0), μ.2) r 2) (xw_at tW_18 11 rfl) (100, 0) cM_0 rfl rfl rfl rfl (by rfl) (Nat.le_of_ble_eq_true rfl) (xdec_at tX5_mail_0 33 rfl) ⟨(Nat.le_of_ble_eq_true rfl), (Nat.le_of_ble_eq_true rfl)⟩ ⟨(Nat.le_of_ble_eq_true rfl), (Nat.le_of_ble_eq_true rfl)⟩ ?_
              rintro v9 lay9 C9 ⟨rfl, rfl, rfl⟩
              have e9 : M_mail μ k a b g pd rg = (0, ((up2 (up2 μ.1 38 0 0) 38 0 2), μ.2)) := by simp [M_mail, up2_at, (eq_true q_3), (eq_true q_11), (eq_true q_31), (eq_true q_40), (eq_true q_51), (eq_true c_59), M_mailS]
              exact v_iret X hr (xdec_at tX5_mail_0 34 rfl) (Nat.le_of_ble_eq_true rfl) (Nat.le_of_ble_eq_true rfl) ⟨rfl, by rw [e9], by rw [e9]⟩
          · refine v_if_eq (tgt := 62) X (xdec_at tX5_mail_0 27 rfl) (by decide) (fun _ => ?_) (fun h9 => absurd h9 (by decide))
            refine v_aload_n X (xdec_at tX5_mail_0 31 rfl) rfl rfl ?_
            refine v_iconst (v := 2) X (xdec_at tX5_mail_0 32 rfl) (by decide) ?_
            refine v_callV X myX5_fails [.int 2] [] (c_fails l Z B0 lay ((up2 μ.1 38 0 0), μ.2) r 2) (xw_at tW_18 11 rfl) (100, 0) cM_0 rfl rfl rfl rfl (by rfl) (Nat.le_of_ble_eq_true rfl) (xdec_at tX5_mail_0 33 rfl) ⟨(Nat.le_of_ble_eq_true rfl), (Nat.le_of_ble_eq_true rfl)⟩ ⟨(Nat.le_of_ble_eq_true rfl), (Nat.le_of_ble_eq_true rfl)⟩ ?_
            rintro v9 lay9 C9 ⟨rfl, rfl, rfl⟩
            have e9 : M_mail μ k a b g pd rg = (0, ((up2 (up2 μ.1 38 0 0) 38 0 2), μ.2)) := by simp [M_mail, up2_at, (eq_true q_3), (eq_true q_11), (eq_true q_31), (eq_true q_40), q_51, M_mailS]
            exact v_iret X hr (xdec_at tX5_mail_0 34 rfl) (Nat.le_of_ble_eq_true rfl) (Nat.le_of_ble_eq_true rfl) ⟨rfl, by rw [e9], by rw [e9]⟩
        · refine v_if_eq (tgt := 62) X (xdec_at tX5_mail_0 22 rfl) (by decide) (fun _ => ?_) (fun h9 => absurd h9 (by decide))
          refine v_aload_n X (xdec_at tX5_mail_0 31 rfl) rfl rfl ?_
          refine v_iconst (v := 2) X (xdec_at tX5_mail_0 32 rfl) (by decide) ?_
          refine v_callV X myX5_fails [.int 2] [] (c_fails l Z B0 lay ((up2 μ.1 38 0 0), μ.2) r 2) (xw_at tW_18 11 rfl) (100, 0) cM_0 rfl rfl rfl rfl (by rfl) (Nat.le_of_ble_eq_true rfl) (xdec_at tX5_mail_0 33 rfl) ⟨(Nat.le_of_ble_eq_true rfl), (Nat.le_of_ble_eq_true rfl)⟩ ⟨(Nat.le_of_ble_eq_true rfl), (Nat.le_of_ble_eq_true rfl)⟩ ?_
          rintro v9 lay9 C9 ⟨rfl, rfl, rfl⟩
          have e9 : M_mail μ k a b g pd rg = (0, ((up2 (up2 μ.1 38 0 0) 38 0 2), μ.2)) := by simp [M_mail, up2_at, (eq_true q_3), (eq_true q_11), (eq_true q_31), q_40, M_mailS]
          exact v_iret X hr (xdec_at tX5_mail_0 34 rfl) (Nat.le_of_ble_eq_true rfl) (Nat.le_of_ble_eq_true rfl) ⟨rfl, by rw [e9], by rw [e9]⟩
      · refine v_if_eq (tgt := 62) X (xdec_at tX5_mail_0 18 rfl) (by decide) (fun _ => ?_) (fun h9 => absurd h9 (by decide))
        refine v_aload_n X (xdec_at tX5_mail_0 31 rfl) rfl rfl ?_
        refine v_iconst (v := 2) X (xdec_at tX5_mail_0 32 rfl) (by decide) ?_
        refine v_callV X myX5_fails [.int 2] [] (c_fails l Z B0 lay ((up2 μ.1 38 0 0), μ.2) r 2) (xw_at tW_18 11 rfl) (100, 0) cM_0 rfl rfl rfl rfl (by rfl) (Nat.le_of_ble_eq_true rfl) (xdec_at tX5_mail_0 33 rfl) ⟨(Nat.le_of_ble_eq_true rfl), (Nat.le_of_ble_eq_true rfl)⟩ ⟨(Nat.le_of_ble_eq_true rfl), (Nat.le_of_ble_eq_true rfl)⟩ ?_
        rintro v9 lay9 C9 ⟨rfl, rfl, rfl⟩
        have e9 : M_mail μ k a b g pd rg = (0, ((up2 (up2 μ.1 38 0 0) 38 0 2), μ.2)) := by simp [M_mail, up2_at, (eq_true q_3), (eq_true q_11), q_31, M_mailS]
        exact v_iret X hr (xdec_at tX5_mail_0 34 rfl) (Nat.le_of_ble_eq_true rfl) (Nat.le_of_ble_eq_true rfl) ⟨rfl, by rw [e9], by rw [e9]⟩
    · refine v_if_eq (tgt := 21) X (xdec_at tX5_mail_0 8 rfl) (by decide) (fun _ => ?_) (fun h9 => absurd h9 (by decide))
      refine v_iconst (v := 0) X (xdec_at tX5_mail_0 11 rfl) (by decide) ?_
      refine v_callV X myX5_asks [.int 0] [] (c_asks0 l Z B0 lay μ r) (xw_at tW_17 31 rfl) (100, 0) cM_0 rfl rfl rfl rfl (by rfl) (Nat.le_of_ble_eq_true rfl) (xdec_at tX5_mail_0 12 rfl) ⟨(Nat.le_of_ble_eq_true rfl), (Nat.le_of_ble_eq_true rfl)⟩ ⟨(Nat.le_of_ble_eq_true rfl), (Nat.le_of_ble_eq_true rfl)⟩ ?_
      rintro v9 lay9 C9 ⟨rfl, rfl, rfl⟩
      refine v_if_ne (tgt := 30) X (xdec_at tX5_mail_0 13 rfl) (by decide) (fun h9 => absurd h9 (by decide)) (fun _ => ?_)
      refine v_iconst (v := 0) X (xdec_at tX5_mail_0 14 rfl) (by decide) ?_
      have e9 : M_mail μ k a b g pd rg = (0, ((up2 μ.1 38 0 1), μ.2)) := by simp [M_mail, up2_at, (eq_true q_3), q_11, M_mailS]
      exact v_iret X hr (xdec_at tX5_mail_0 15 rfl) (Nat.le_of_ble_eq_true rfl) (Nat.le_of_ble_eq_true rfl) ⟨rfl, by rw [e9], by rw [e9]⟩
  · refine v_if_eq (tgt := 21) X (xdec_at tX5_mail_0 4 rfl) (by decide) (fun _ => ?_) (fun h9 => absurd h9 (by decide))
    refine v_iconst (v := 0) X (xdec_at tX5_mail_0 11 rfl) (by decide) ?_
    refine v_callV X myX5_asks [.int 0] [] (c_asks0 l Z B0 lay μ r) (xw_at tW_17 31 rfl) (100, 0) cM_0 rfl rfl rfl rfl (by rfl) (Nat.le_of_ble_eq_true rfl) (xdec_at tX5_mail_0 12 rfl) ⟨(Nat.le_of_ble_eq_true rfl), (Nat.le_of_ble_eq_true rfl)⟩ ⟨(Nat.le_of_ble_eq_true rfl), (Nat.le_of_ble_eq_true rfl)⟩ ?_
    rintro v9 lay9 C9 ⟨rfl, rfl, rfl⟩
    refine v_if_ne (tgt := 30) X (xdec_at tX5_mail_0 13 rfl) (by decide) (fun h9 => absurd h9 (by decide)) (fun _ => ?_)
    refine v_iconst (v := 0) X (xdec_at tX5_mail_0 14 rfl) (by decide) ?_
    have e9 : M_mail μ k a b g pd rg = (0, ((up2 μ.1 38 0 1), μ.2)) := by simp [M_mail, up2_at, q_3, M_mailS]
    exact v_iret X hr (xdec_at tX5_mail_0 15 rfl) (Nat.le_of_ble_eq_true rfl) (Nat.le_of_ble_eq_true rfl) ⟨rfl, by rw [e9], by rw [e9]⟩
set_option maxRecDepth 100000 in
set_option maxHeartbeats 4000000 in
theorem c_paysFor (l : Launch) (Z : xZ) (B0 : Nat) (lay : xK → Nat) (μ : Mu) (r : xK → Option xE) (t : Nat) (ht : t < 40) (a : Int32) (ha : vp_in a 8) (h18 : vp_in (μ.1 18 t) 8) (k : Int32) : YM l yX5_paysFor cX5_paysFor 4 ((some FieldType.int)) 1 24 0 0 Z B0 [.ref (lay (100, 0)), .int (nI t), .int a, .int k] lay (cM Z lay μ r) (fun v lay' C' => lay = lay' ∧ v = some (.int (M_paysFor μ t a k).1) ∧ C' = cM Z lay (M_paysFor μ t a k).2 r) := by
  refine YM_of myX5_paysFor.2.2 RX5 rfl [some (.ref (lay (100, 0))), some (.int (nI t)), some (.int a), some (.int k)] rfl (Nat.le_of_ble_eq_true rfl) ?_
  intro P1 P2 P3 P4 P5 P6 P7 P8 X hr hnm
  refine v_iload_n X (xdec_at tX5_paysFor_0 0 rfl) rfl rfl ?_
  refine v_aload_n X (xdec_at tX5_paysFor_0 1 rfl) rfl rfl ?_
  refine r_A X 18 (by decide) rfl rfl (xdec_at tX5_paysFor_0 2 rfl) ?_
  refine v_iload_n X (xdec_at tX5_paysFor_0 3 rfl) rfl rfl ?_
  refine r_In (v := (μ.1 18 t)) X 18 (by decide) rfl rfl ht (xdec_at tX5_paysFor_0 4 rfl) rfl ?_
  refine v_icmp_ne (tgt := 12) X (xdec_at tX5_paysFor_0 5 rfl) (by decide) (fun c_7 => ?_) (fun c_7 => ?_)
  · refine v_aload_n X (xdec_at tX5_paysFor_0 8 rfl) rfl rfl ?_
    refine v_iload_n X (xdec_at tX5_paysFor_0 9 rfl) rfl rfl ?_
    refine v_aload_n X (xdec_at tX5_paysFor_0 10 rfl) rfl rfl ?_
    refine r_A X 18 (by decide) rfl rfl (xdec_at tX5_paysFor_0 11 rfl) ?_
    refine v_iload_n X (xdec_at tX5_paysFor_0 12 rfl) rfl rfl ?_
    refine r_In (v := (μ.1 18 t)) X 18 (by decide) rfl rfl ht (xdec_at tX5_paysFor_0 13 rfl) rfl ?_
    refine v_iload_n X (xdec_at tX5_paysFor_0 14 rfl) rfl rfl ?_
    refine v_i2l X (xdec_at tX5_paysFor_0 15 rfl) rfl ?_
    refine v_callV X myX5_pays [.int a, .int (μ.1 18 t), .long (k).toInt64] [] (c_pays l Z B0 lay μ r a (μ.1 18 t) ha h18 ((k).toInt64)) (xw_at tW_20 24 rfl) (100, 0) cM_0 rfl rfl rfl rfl (by rfl) (Nat.le_of_ble_eq_true rfl) (xdec_at tX5_paysFor_0 16 rfl) ⟨(Nat.le_of_ble_eq_true rfl), (Nat.le_of_ble_eq_true rfl)⟩ ⟨(Nat.le_of_ble_eq_true rfl), (Nat.le_of_ble_eq_true rfl)⟩ ?_
    rintro v9 lay9 C9 ⟨rfl, rfl, rfl⟩
    refine v_iload_n X (xdec_at tX5_paysFor_0 17 rfl) rfl rfl ?_
    have e9 : M_paysFor μ t a k = (k, (M_pays μ (ix a) (ix (μ.1 18 t)) ((k).toInt64))) := by simp [M_paysFor, up2_at, c_7]
    exact v_iret X hr (xdec_at tX5_paysFor_0 18 rfl) (Nat.le_of_ble_eq_true rfl) (Nat.le_of_ble_eq_true rfl) ⟨rfl, by rw [e9], by rw [e9]⟩
  · refine v_iconst (v := 0) X (xdec_at tX5_paysFor_0 6 rfl) (by decide) ?_
    have e9 : M_paysFor μ t a k = (0, μ) := by simp [M_paysFor, up2_at, (eq_true c_7)]
    exact v_iret X hr (xdec_at tX5_paysFor_0 7 rfl) (Nat.le_of_ble_eq_true rfl) (Nat.le_of_ble_eq_true rfl) ⟨rfl, by rw [e9], by rw [e9]⟩
set_option maxRecDepth 100000 in
set_option maxHeartbeats 4000000 in
theorem c_claim (l : Launch) (Z : xZ) (B0 : Nat) (lay : xK → Nat) (μ : Mu) (r : xK → Option xE) (t : Int32) (hI : RI μ) : YM l yX5_claim cX5_claim 2 ((some FieldType.int)) 2 47 0 0 Z B0 [.ref (lay (100, 0)), .int t] lay (cM Z lay μ r) (fun v lay' C' => lay = lay' ∧ v = some (.int (M_claim μ t).1) ∧ C' = cM Z lay (M_claim μ t).2 r) := by
  refine YM_of myX5_claim.2.2 RX5 rfl [some (.ref (lay (100, 0))), some (.int t)] rfl (Nat.le_of_ble_eq_true rfl) ?_
  intro P1 P2 P3 P4 P5 P6 P7 P8 X hr hnm
  refine v_aload_n X (xdec_at tX5_claim_0 0 rfl) rfl rfl ?_
  refine v_aload_n X (xdec_at tX5_claim_0 1 rfl) rfl rfl ?_
  refine v_iload_n X (xdec_at tX5_claim_0 2 rfl) rfl rfl ?_
  refine v_callV X myX5_isThing [.int t] [.ref (lay (100, 0))] (c_isThing l Z B0 lay μ r t) (xw_at tW_20 0 rfl) (100, 0) cM_0 rfl rfl rfl rfl (by rfl) (Nat.le_of_ble_eq_true rfl) (xdec_at tX5_claim_0 3 rfl) ⟨(Nat.le_of_ble_eq_true rfl), (Nat.le_of_ble_eq_true rfl)⟩ ⟨(Nat.le_of_ble_eq_true rfl), (Nat.le_of_ble_eq_true rfl)⟩ ?_
  rintro v9 lay9 C9 ⟨rfl, rfl, ⟨rfl, q_3⟩ | ⟨rfl, q_3⟩⟩
  · refine v_callV X myX5_asks [.int 1] [] (c_asks1 l Z B0 lay μ r) (xw_at tW_17 31 rfl) (100, 0) cM_0 rfl rfl rfl rfl (by rfl) (Nat.le_of_ble_eq_true rfl) (xdec_at tX5_claim_0 4 rfl) ⟨(Nat.le_of_ble_eq_true rfl), (Nat.le_of_ble_eq_true rfl)⟩ ⟨(Nat.le_of_ble_eq_true rfl), (Nat.le_of_ble_eq_true rfl)⟩ ?_
    rintro v9 lay9 C9 ⟨rfl, rfl, rfl⟩
    refine v_if_ne (tgt := 14) X (xdec_at tX5_claim_0 5 rfl) (by decide) (fun _ => ?_) (fun h9 => absurd h9 (by decide))
    refine v_aload_n X (xdec_at tX5_claim_0 8 rfl) rfl rfl ?_
    refine r_A X 23 (by decide) rfl rfl (xdec_at tX5_claim_0 9 rfl) ?_
    refine v_iload_n X (xdec_at tX5_claim_0 10 rfl) rfl rfl ?_
    refine r_I (v := (μ.1 23 (ix t))) X 23 (by decide) rfl rfl (hI.T q_3) (xdec_at tX5_claim_0 11 rfl) rfl ?_
    refine v_iconst (v := 3) X (xdec_at tX5_claim_0 12 rfl) (by decide) ?_
    refine v_icmp_ne (tgt := 42) X (xdec_at tX5_claim_0 13 rfl) (by decide) (fun c_21 => ?_) (fun c_21 => ?_)
    · refine v_aload_n X (xdec_at tX5_claim_0 24 rfl) rfl rfl ?_
      refine v_iconst (v := 2) X (xdec_at tX5_claim_0 25 rfl) (by decide) ?_
      refine v_callV X myX5_fails [.int 2] [] (c_fails l Z B0 lay ((up2 μ.1 38 0 0), μ.2) r 2) (xw_at tW_18 11 rfl) (100, 0) cM_0 rfl rfl rfl rfl (by rfl) (Nat.le_of_ble_eq_true rfl) (xdec_at tX5_claim_0 26 rfl) ⟨(Nat.le_of_ble_eq_true rfl), (Nat.le_of_ble_eq_true rfl)⟩ ⟨(Nat.le_of_ble_eq_true rfl), (Nat.le_of_ble_eq_true rfl)⟩ ?_
      rintro v9 lay9 C9 ⟨rfl, rfl, rfl⟩
      have e9 : M_claim μ t = (0, ((up2 (up2 μ.1 38 0 0) 38 0 2), μ.2)) := by simp [M_claim, M_claimS, up2_at, (eq_true q_3), c_21]
      exact v_iret X hr (xdec_at tX5_claim_0 27 rfl) (Nat.le_of_ble_eq_true rfl) (Nat.le_of_ble_eq_true rfl) ⟨rfl, by rw [e9], by rw [e9]⟩
    · refine v_aload_n X (xdec_at tX5_claim_0 14 rfl) rfl rfl ?_
      refine r_A X 21 (by decide) rfl rfl (xdec_at tX5_claim_0 15 rfl) ?_
      refine v_iload_n X (xdec_at tX5_claim_0 16 rfl) rfl rfl ?_
      refine r_Z (v := (μ.1 21 (ix t))) X 21 (by decide) rfl rfl (hI.T q_3) (xdec_at tX5_claim_0 17 rfl) rfl ?_
      refine v_if_eq (tgt := 42) X (xdec_at tX5_claim_0 18 rfl) (by decide) (fun c_30 => ?_) (fun c_30 => ?_)
      · refine v_aload_n X (xdec_at tX5_claim_0 24 rfl) rfl rfl ?_
        refine v_iconst (v := 2) X (xdec_at tX5_claim_0 25 rfl) (by decide) ?_
        refine v_callV X myX5_fails [.int 2] [] (c_fails l Z B0 lay ((up2 μ.1 38 0 0), μ.2) r 2) (xw_at tW_18 11 rfl) (100, 0) cM_0 rfl rfl rfl rfl (by rfl) (Nat.le_of_ble_eq_true rfl) (xdec_at tX5_claim_0 26 rfl) ⟨(Nat.le_of_ble_eq_true rfl), (Nat.le_of_ble_eq_true rfl)⟩ ⟨(Nat.le_of_ble_eq_true rfl), (Nat.le_of_ble_eq_true rfl)⟩ ?_
        rintro v9 lay9 C9 ⟨rfl, rfl, rfl⟩
        have e9 : M_claim μ t = (0, ((up2 (up2 μ.1 38 0 0) 38 0 2), μ.2)) := by simp [M_claim, M_claimS, up2_at, (eq_true q_3), (eq_true c_21), (eq_true c_30)]
        exact v_iret X hr (xdec_at tX5_claim_0 27 rfl) (Nat.le_of_ble_eq_true rfl) (Nat.le_of_ble_eq_true rfl) ⟨rfl, by rw [e9], by rw [e9]⟩
      · refine v_aload_n X (xdec_at tX5_claim_0 19 rfl) rfl rfl ?_
        refine r_A X 29 (by decide) rfl rfl (xdec_at tX5_claim_0 20 rfl) ?_
        refine v_iload_n X (xdec_at tX5_claim_0 21 rfl) rfl rfl ?_
        refine r_Z (v := (μ.1 29 (ix t))) X 29 (by decide) rfl rfl (hI.T q_3) (xdec_at tX5_claim_0 22 rfl) rfl ?_
        refine v_if_eq (tgt := 48) X (xdec_at tX5_claim_0 23 rfl) (by decide) (fun c_39 => ?_) (fun c_39 => ?_)
        · refine v_aload_n X (xdec_at tX5_claim_0 28 rfl) rfl rfl ?_
          refine r_A X 29 (by decide) rfl rfl (xdec_at tX5_claim_0 29 rfl) ?_
          refine v_iload_n X (xdec_at tX5_claim_0 30 rfl) rfl rfl ?_
          refine v_iconst (v := 1) X (xdec_at tX5_claim_0 31 rfl) (by decide) ?_
          refine r_PZ X 29 (by decide) rfl rfl (Or.inr rfl) (hI.T q_3) (xdec_at tX5_claim_0 32 rfl) ?_
          refine v_aload_n X (xdec_at tX5_claim_0 33 rfl) rfl rfl ?_
          refine r_A X 8 (by decide) rfl rfl (xdec_at tX5_claim_0 34 rfl) ?_
          refine v_aload_n X (xdec_at tX5_claim_0 35 rfl) rfl rfl ?_
          refine r_A X 18 (by decide) rfl rfl (xdec_at tX5_claim_0 36 rfl) ?_
          refine v_iload_n X (xdec_at tX5_claim_0 37 rfl) rfl rfl ?_
          refine r_I (v := (μ.1 18 (ix t))) X 18 (by decide) rfl rfl (hI.T q_3) (xdec_at tX5_claim_0 38 rfl) rfl ?_
          refine v_dup2_11 X (xdec_at tX5_claim_0 39 rfl) rfl rfl ?_
          refine r_L (v := (μ.2 8 (ix (μ.1 18 (ix t))))) X 8 (by decide) rfl rfl (hI.or (in_ix (hI.T q_3))) (xdec_at tX5_claim_1 0 rfl) rfl ?_
          refine v_ldc2 (v := 4000) X (xw_at tW_20 38 rfl) (xdec_at tX5_claim_1 1 rfl) ?_
          refine v_lsub X (xdec_at tX5_claim_1 2 rfl) ?_
          refine r_PL X 8 (by decide) rfl rfl (hI.or (in_ix (hI.T q_3))) (xdec_at tX5_claim_1 3 rfl) ?_
          refine v_aload_n X (xdec_at tX5_claim_1 4 rfl) rfl rfl ?_
          refine r_A X 25 (by decide) rfl rfl (xdec_at tX5_claim_1 5 rfl) ?_
          refine v_iload_n X (xdec_at tX5_claim_1 6 rfl) rfl rfl ?_
          refine r_I (v := (μ.1 25 (ix t))) X 25 (by decide) rfl rfl (hI.T q_3) (xdec_at tX5_claim_1 7 rfl) rfl ?_
          refine v_iconst (v := (-1)) X (xdec_at tX5_claim_1 8 rfl) (by decide) ?_
          refine v_icmp_ne (tgt := 97) X (xdec_at tX5_claim_1 9 rfl) (by decide) (fun c_79 => ?_) (fun c_79 => ?_)
          · refine v_aload_n X (xdec_at tX5_claim_1 19 rfl) rfl rfl ?_
            refine v_iload_n X (xdec_at tX5_claim_1 20 rfl) rfl rfl ?_
            refine v_aload_n X (xdec_at tX5_claim_1 21 rfl) rfl rfl ?_
            refine r_A X 11 (by decide) rfl rfl (xdec_at tX5_claim_1 22 rfl) ?_
            refine v_aload_n X (xdec_at tX5_claim_1 23 rfl) rfl rfl ?_
            refine r_A X 25 (by decide) rfl rfl (xdec_at tX5_claim_1 24 rfl) ?_
            refine v_iload_n X (xdec_at tX5_claim_1 25 rfl) rfl rfl ?_
            refine r_I (v := (μ.1 25 (ix t))) X 25 (by decide) rfl rfl (hI.T q_3) (xdec_at tX5_claim_1 26 rfl) rfl ?_
            refine r_I (v := (μ.1 11 (ix (μ.1 25 (ix t))))) X 11 (by decide) rfl rfl ((hI.on (in_ix (hI.T q_3))).resolve_left c_79) (xdec_at tX5_claim_1 27 rfl) rfl ?_
            refine v_sipush (v := 2000) X (xdec_at tX5_claim_1 28 rfl) (by decide) ?_
            refine v_st (st' := [.int 2000, .int (μ.1 11 (ix (μ.1 25 (ix t)))), .int (nI (ix t)), .ref (lay (100, 0))]) (by rw [in_eq (hI.T q_3) (by decide)] <;> rfl) ?_
            refine v_callV X myX5_paysFor [.int (nI (ix t)), .int (μ.1 11 (ix (μ.1 25 (ix t)))), .int 2000] [] (c_paysFor l Z B0 lay ((up2 (up2 μ.1 38 0 0) 29 (ix t) 1), (up2 μ.2 8 (ix (μ.1 18 (ix t))) ((μ.2 8 (ix (μ.1 18 (ix t)))) - 4000))) r (ix t) (in_ix (hI.T q_3)) (μ.1 11 (ix (μ.1 25 (ix t)))) (hI.o1 (in_ix ((hI.on (in_ix (hI.T q_3))).resolve_left c_79))) (hI.or (in_ix (hI.T q_3))) 2000) (xw_at tW_20 39 rfl) (100, 0) cM_0 rfl rfl rfl rfl (by rfl) (Nat.le_of_ble_eq_true rfl) (xdec_at tX5_claim_1 29 rfl) ⟨(Nat.le_of_ble_eq_true rfl), (Nat.le_of_ble_eq_true rfl)⟩ ⟨(Nat.le_of_ble_eq_true rfl), (Nat.le_of_ble_eq_true rfl)⟩ ?_
            rintro v9 lay9 C9 ⟨rfl, rfl, rfl⟩
            have e1 : (M_paysFor ((up2 (up2 μ.1 38 0 0) 29 (ix t) 1), (up2 μ.2 8 (ix (μ.1 18 (ix t))) ((μ.2 8 (ix (μ.1 18 (ix t)))) - 4000))) (ix t) (μ.1 11 (ix (μ.1 25 (ix t)))) 2000).2.1 = (up2 (up2 μ.1 38 0 0) 29 (ix t) 1) := M_paysFor_1 _ _ _ _
            have hon2 : vp_in ((M_paysFor ((up2 (up2 μ.1 38 0 0) 29 (ix t) 1), (up2 μ.2 8 (ix (μ.1 18 (ix t))) ((μ.2 8 (ix (μ.1 18 (ix t)))) - 4000))) (ix t) (μ.1 11 (ix (μ.1 25 (ix t)))) 2000).2.1 25 (ix t)) 20 := by rw [e1]; exact (hI.on (in_ix (hI.T q_3))).resolve_left c_79
            have ho2 : vp_in ((M_paysFor ((up2 (up2 μ.1 38 0 0) 29 (ix t) 1), (up2 μ.2 8 (ix (μ.1 18 (ix t))) ((μ.2 8 (ix (μ.1 18 (ix t)))) - 4000))) (ix t) (μ.1 11 (ix (μ.1 25 (ix t)))) 2000).2.1 12 (ix ((M_paysFor ((up2 (up2 μ.1 38 0 0) 29 (ix t) 1), (up2 μ.2 8 (ix (μ.1 18 (ix t))) ((μ.2 8 (ix (μ.1 18 (ix t)))) - 4000))) (ix t) (μ.1 11 (ix (μ.1 25 (ix t)))) 2000).2.1 25 (ix t)))) 8 := by rw [e1]; exact hI.o2 (in_ix ((hI.on (in_ix (hI.T q_3))).resolve_left c_79))
            have h18b : vp_in ((M_paysFor ((up2 (up2 μ.1 38 0 0) 29 (ix t) 1), (up2 μ.2 8 (ix (μ.1 18 (ix t))) ((μ.2 8 (ix (μ.1 18 (ix t)))) - 4000))) (ix t) (μ.1 11 (ix (μ.1 25 (ix t)))) 2000).2.1 18 (ix t)) 8 := by rw [e1]; exact hI.or (in_ix (hI.T q_3))
            refine v_aload_n X (xdec_at tX5_claim_1 30 rfl) rfl rfl ?_
            refine v_iload_n X (xdec_at tX5_claim_1 31 rfl) rfl rfl ?_
            refine v_aload_n X (xdec_at tX5_claim_1 32 rfl) rfl rfl ?_
            refine r_A X 12 (by decide) rfl rfl (xdec_at tX5_claim_1 33 rfl) ?_
            refine v_aload_n X (xdec_at tX5_claim_1 34 rfl) rfl rfl ?_
            refine r_A X 25 (by decide) rfl rfl (xdec_at tX5_claim_1 35 rfl) ?_
            refine v_iload_n X (xdec_at tX5_claim_1 36 rfl) rfl rfl ?_
            refine r_I (v := ((M_paysFor ((up2 (up2 μ.1 38 0 0) 29 (ix t) 1), (up2 μ.2 8 (ix (μ.1 18 (ix t))) ((μ.2 8 (ix (μ.1 18 (ix t)))) - 4000))) (ix t) (μ.1 11 (ix (μ.1 25 (ix t)))) 2000).2.1 25 (ix t))) X 25 (by decide) rfl rfl (hI.T q_3) (xdec_at tX5_claim_1 37 rfl) rfl ?_
            refine r_I (v := ((M_paysFor ((up2 (up2 μ.1 38 0 0) 29 (ix t) 1), (up2 μ.2 8 (ix (μ.1 18 (ix t))) ((μ.2 8 (ix (μ.1 18 (ix t)))) - 4000))) (ix t) (μ.1 11 (ix (μ.1 25 (ix t)))) 2000).2.1 12 (ix ((M_paysFor ((up2 (up2 μ.1 38 0 0) 29 (ix t) 1), (up2 μ.2 8 (ix (μ.1 18 (ix t))) ((μ.2 8 (ix (μ.1 18 (ix t)))) - 4000))) (ix t) (μ.1 11 (ix (μ.1 25 (ix t)))) 2000).2.1 25 (ix t))))) X 12 (by decide) rfl rfl hon2 (xdec_at tX5_claim_1 38 rfl) rfl ?_
            refine v_sipush (v := 2000) X (xdec_at tX5_claim_1 39 rfl) (by decide) ?_
            refine v_st (st' := [.int 2000, .int ((M_paysFor ((up2 (up2 μ.1 38 0 0) 29 (ix t) 1), (up2 μ.2 8 (ix (μ.1 18 (ix t))) ((μ.2 8 (ix (μ.1 18 (ix t)))) - 4000))) (ix t) (μ.1 11 (ix (μ.1 25 (ix t)))) 2000).2.1 12 (ix ((M_paysFor ((up2 (up2 μ.1 38 0 0) 29 (ix t) 1), (up2 μ.2 8 (ix (μ.1 18 (ix t))) ((μ.2 8 (ix (μ.1 18 (ix t)))) - 4000))) (ix t) (μ.1 11 (ix (μ.1 25 (ix t)))) 2000).2.1 25 (ix t)))), .int (nI (ix t)), .ref (lay (100, 0)), .int (M_paysFor ((up2 (up2 μ.1 38 0 0) 29 (ix t) 1), (up2 μ.2 8 (ix (μ.1 18 (ix t))) ((μ.2 8 (ix (μ.1 18 (ix t)))) - 4000))) (ix t) (μ.1 11 (ix (μ.1 25 (ix t)))) 2000).1]) (by rw [in_eq (hI.T q_3) (by decide)] <;> rfl) ?_
            refine v_callV X myX5_paysFor [.int (nI (ix t)), .int ((M_paysFor ((up2 (up2 μ.1 38 0 0) 29 (ix t) 1), (up2 μ.2 8 (ix (μ.1 18 (ix t))) ((μ.2 8 (ix (μ.1 18 (ix t)))) - 4000))) (ix t) (μ.1 11 (ix (μ.1 25 (ix t)))) 2000).2.1 12 (ix ((M_paysFor ((up2 (up2 μ.1 38 0 0) 29 (ix t) 1), (up2 μ.2 8 (ix (μ.1 18 (ix t))) ((μ.2 8 (ix (μ.1 18 (ix t)))) - 4000))) (ix t) (μ.1 11 (ix (μ.1 25 (ix t)))) 2000).2.1 25 (ix t)))), .int 2000] [.int (M_paysFor ((up2 (up2 μ.1 38 0 0) 29 (ix t) 1), (up2 μ.2 8 (ix (μ.1 18 (ix t))) ((μ.2 8 (ix (μ.1 18 (ix t)))) - 4000))) (ix t) (μ.1 11 (ix (μ.1 25 (ix t)))) 2000).1] (c_paysFor l Z B0 lay (M_paysFor ((up2 (up2 μ.1 38 0 0) 29 (ix t) 1), (up2 μ.2 8 (ix (μ.1 18 (ix t))) ((μ.2 8 (ix (μ.1 18 (ix t)))) - 4000))) (ix t) (μ.1 11 (ix (μ.1 25 (ix t)))) 2000).2 r (ix t) (in_ix (hI.T q_3)) ((M_paysFor ((up2 (up2 μ.1 38 0 0) 29 (ix t) 1), (up2 μ.2 8 (ix (μ.1 18 (ix t))) ((μ.2 8 (ix (μ.1 18 (ix t)))) - 4000))) (ix t) (μ.1 11 (ix (μ.1 25 (ix t)))) 2000).2.1 12 (ix ((M_paysFor ((up2 (up2 μ.1 38 0 0) 29 (ix t) 1), (up2 μ.2 8 (ix (μ.1 18 (ix t))) ((μ.2 8 (ix (μ.1 18 (ix t)))) - 4000))) (ix t) (μ.1 11 (ix (μ.1 25 (ix t)))) 2000).2.1 25 (ix t)))) ho2 h18b 2000) (xw_at tW_20 39 rfl) (100, 0) cM_0 rfl rfl rfl rfl (by rfl) (Nat.le_of_ble_eq_true rfl) (xdec_at tX5_claim_2 0 rfl) ⟨(Nat.le_of_ble_eq_true rfl), (Nat.le_of_ble_eq_true rfl)⟩ ⟨(Nat.le_of_ble_eq_true rfl), (Nat.le_of_ble_eq_true rfl)⟩ ?_
            rintro v9 lay9 C9 ⟨rfl, rfl, rfl⟩
            refine v_iadd X (xdec_at tX5_claim_2 1 rfl) ?_
            have e9 : M_claim μ t = (((M_paysFor ((up2 (up2 μ.1 38 0 0) 29 (ix t) 1), (up2 μ.2 8 (ix (μ.1 18 (ix t))) ((μ.2 8 (ix (μ.1 18 (ix t)))) - 4000))) (ix t) (μ.1 11 (ix (μ.1 25 (ix t)))) 2000).1 + (M_paysFor (M_paysFor ((up2 (up2 μ.1 38 0 0) 29 (ix t) 1), (up2 μ.2 8 (ix (μ.1 18 (ix t))) ((μ.2 8 (ix (μ.1 18 (ix t)))) - 4000))) (ix t) (μ.1 11 (ix (μ.1 25 (ix t)))) 2000).2 (ix t) ((M_paysFor ((up2 (up2 μ.1 38 0 0) 29 (ix t) 1), (up2 μ.2 8 (ix (μ.1 18 (ix t))) ((μ.2 8 (ix (μ.1 18 (ix t)))) - 4000))) (ix t) (μ.1 11 (ix (μ.1 25 (ix t)))) 2000).2.1 12 (ix ((M_paysFor ((up2 (up2 μ.1 38 0 0) 29 (ix t) 1), (up2 μ.2 8 (ix (μ.1 18 (ix t))) ((μ.2 8 (ix (μ.1 18 (ix t)))) - 4000))) (ix t) (μ.1 11 (ix (μ.1 25 (ix t)))) 2000).2.1 25 (ix t)))) 2000).1), (M_paysFor (M_paysFor ((up2 (up2 μ.1 38 0 0) 29 (ix t) 1), (up2 μ.2 8 (ix (μ.1 18 (ix t))) ((μ.2 8 (ix (μ.1 18 (ix t)))) - 4000))) (ix t) (μ.1 11 (ix (μ.1 25 (ix t)))) 2000).2 (ix t) ((M_paysFor ((up2 (up2 μ.1 38 0 0) 29 (ix t) 1), (up2 μ.2 8 (ix (μ.1 18 (ix t))) ((μ.2 8 (ix (μ.1 18 (ix t)))) - 4000))) (ix t) (μ.1 11 (ix (μ.1 25 (ix t)))) 2000).2.1 12 (ix ((M_paysFor ((up2 (up2 μ.1 38 0 0) 29 (ix t) 1), (up2 μ.2 8 (ix (μ.1 18 (ix t))) ((μ.2 8 (ix (μ.1 18 (ix t)))) - 4000))) (ix t) (μ.1 11 (ix (μ.1 25 (ix t)))) 2000).2.1 25 (ix t)))) 2000).2) := by simp [M_claim, M_claimS, up2_at, (eq_true q_3), (eq_true c_21), c_30, (eq_true c_39), c_79]
            exact v_iret X hr (xdec_at tX5_claim_2 2 rfl) (Nat.le_of_ble_eq_true rfl) (Nat.le_of_ble_eq_true rfl) ⟨rfl, by rw [e9], by rw [e9]⟩
          · refine v_aload_n X (xdec_at tX5_claim_1 10 rfl) rfl rfl ?_
            refine v_iload_n X (xdec_at tX5_claim_1 11 rfl) rfl rfl ?_
            refine v_aload_n X (xdec_at tX5_claim_1 12 rfl) rfl rfl ?_
            refine r_A X 24 (by decide) rfl rfl (xdec_at tX5_claim_1 13 rfl) ?_
            refine v_iload_n X (xdec_at tX5_claim_1 14 rfl) rfl rfl ?_
            refine r_I (v := (μ.1 24 (ix t))) X 24 (by decide) rfl rfl (hI.T q_3) (xdec_at tX5_claim_1 15 rfl) rfl ?_
            refine v_sipush (v := 4000) X (xdec_at tX5_claim_1 16 rfl) (by decide) ?_
            refine v_st (st' := [.int 4000, .int (μ.1 24 (ix t)), .int (nI (ix t)), .ref (lay (100, 0))]) (by rw [in_eq (hI.T q_3) (by decide)] <;> rfl) ?_
            refine v_callV X myX5_paysFor [.int (nI (ix t)), .int (μ.1 24 (ix t)), .int 4000] [] (c_paysFor l Z B0 lay ((up2 (up2 μ.1 38 0 0) 29 (ix t) 1), (up2 μ.2 8 (ix (μ.1 18 (ix t))) ((μ.2 8 (ix (μ.1 18 (ix t)))) - 4000))) r (ix t) (in_ix (hI.T q_3)) (μ.1 24 (ix t)) (hI.at (in_ix (hI.T q_3))) (hI.or (in_ix (hI.T q_3))) 4000) (xw_at tW_20 39 rfl) (100, 0) cM_0 rfl rfl rfl rfl (by rfl) (Nat.le_of_ble_eq_true rfl) (xdec_at tX5_claim_1 17 rfl) ⟨(Nat.le_of_ble_eq_true rfl), (Nat.le_of_ble_eq_true rfl)⟩ ⟨(Nat.le_of_ble_eq_true rfl), (Nat.le_of_ble_eq_true rfl)⟩ ?_
            rintro v9 lay9 C9 ⟨rfl, rfl, rfl⟩
            have e1 : (M_paysFor ((up2 (up2 μ.1 38 0 0) 29 (ix t) 1), (up2 μ.2 8 (ix (μ.1 18 (ix t))) ((μ.2 8 (ix (μ.1 18 (ix t)))) - 4000))) (ix t) (μ.1 24 (ix t)) 4000).2.1 = (up2 (up2 μ.1 38 0 0) 29 (ix t) 1) := M_paysFor_1 _ _ _ _
            have e9 : M_claim μ t = ((M_paysFor ((up2 (up2 μ.1 38 0 0) 29 (ix t) 1), (up2 μ.2 8 (ix (μ.1 18 (ix t))) ((μ.2 8 (ix (μ.1 18 (ix t)))) - 4000))) (ix t) (μ.1 24 (ix t)) 4000).1, (M_paysFor ((up2 (up2 μ.1 38 0 0) 29 (ix t) 1), (up2 μ.2 8 (ix (μ.1 18 (ix t))) ((μ.2 8 (ix (μ.1 18 (ix t)))) - 4000))) (ix t) (μ.1 24 (ix t)) 4000).2) := by simp [M_claim, M_claimS, up2_at, (eq_true q_3), (eq_true c_21), c_30, (eq_true c_39), (eq_true c_79)]
            exact v_iret X hr (xdec_at tX5_claim_1 18 rfl) (Nat.le_of_ble_eq_true rfl) (Nat.le_of_ble_eq_true rfl) ⟨rfl, by rw [e9], by rw [e9]⟩
        · refine v_aload_n X (xdec_at tX5_claim_0 24 rfl) rfl rfl ?_
          refine v_iconst (v := 2) X (xdec_at tX5_claim_0 25 rfl) (by decide) ?_
          refine v_callV X myX5_fails [.int 2] [] (c_fails l Z B0 lay ((up2 μ.1 38 0 0), μ.2) r 2) (xw_at tW_18 11 rfl) (100, 0) cM_0 rfl rfl rfl rfl (by rfl) (Nat.le_of_ble_eq_true rfl) (xdec_at tX5_claim_0 26 rfl) ⟨(Nat.le_of_ble_eq_true rfl), (Nat.le_of_ble_eq_true rfl)⟩ ⟨(Nat.le_of_ble_eq_true rfl), (Nat.le_of_ble_eq_true rfl)⟩ ?_
          rintro v9 lay9 C9 ⟨rfl, rfl, rfl⟩
          have e9 : M_claim μ t = (0, ((up2 (up2 μ.1 38 0 0) 38 0 2), μ.2)) := by simp [M_claim, M_claimS, up2_at, (eq_true q_3), (eq_true c_21), c_30, c_39]
          exact v_iret X hr (xdec_at tX5_claim_0 27 rfl) (Nat.le_of_ble_eq_true rfl) (Nat.le_of_ble_eq_true rfl) ⟨rfl, by rw [e9], by rw [e9]⟩
  · refine v_callV X myX5_asks [.int 0] [] (c_asks0 l Z B0 lay μ r) (xw_at tW_17 31 rfl) (100, 0) cM_0 rfl rfl rfl rfl (by rfl) (Nat.le_of_ble_eq_true rfl) (xdec_at tX5_claim_0 4 rfl) ⟨(Nat.le_of_ble_eq_true rfl), (Nat.le_of_ble_eq_true rfl)⟩ ⟨(Nat.le_of_ble_eq_true rfl), (Nat.le_of_ble_eq_true rfl)⟩ ?_
    rintro v9 lay9 C9 ⟨rfl, rfl, rfl⟩
    refine v_if_ne (tgt := 14) X (xdec_at tX5_claim_0 5 rfl) (by decide) (fun h9 => absurd h9 (by decide)) (fun _ => ?_)
    refine v_iconst (v := 0) X (xdec_at tX5_claim_0 6 rfl) (by decide) ?_
    have e9 : M_claim μ t = (0, ((up2 μ.1 38 0 1), μ.2)) := by simp [M_claim, M_claimS, up2_at, q_3]
    exact v_iret X hr (xdec_at tX5_claim_0 7 rfl) (Nat.le_of_ble_eq_true rfl) (Nat.le_of_ble_eq_true rfl) ⟨rfl, by rw [e9], by rw [e9]⟩
set_option maxRecDepth 100000 in
set_option maxHeartbeats 4000000 in
theorem c_settle (l : Launch) (Z : xZ) (B0 : Nat) (lay : xK → Nat) (μ : Mu) (r : xK → Option xE) (f : Int32) : YM l yX5_settle cX5_settle 7 ((some FieldType.long)) 1 24 0 0 Z B0 [.ref (lay (100, 0)), .int f] lay (cM Z lay μ r) (fun v lay' C' => lay = lay' ∧ v = some (.long (M_settle μ f).1) ∧ C' = cM Z lay (M_settle μ f).2 r) := by
  refine YM_of myX5_settle.2.2 RX5 rfl [some (.ref (lay (100, 0))), some (.int f), none, none, none, none, none] rfl (Nat.le_of_ble_eq_true rfl) ?_
  intro P1 P2 P3 P4 P5 P6 P7 P8 X hr hnm
  refine v_aload_n X (xdec_at tX5_settle_0 0 rfl) rfl rfl ?_
  refine v_iload_n X (xdec_at tX5_settle_0 1 rfl) rfl rfl ?_
  refine v_iconst (v := 1) X (xdec_at tX5_settle_0 2 rfl) (by decide) ?_
  refine v_sipush (v := 1000) X (xdec_at tX5_settle_0 3 rfl) (by decide) ?_
  refine v_callS X myX5_in [.int f, .int 1, .int 1000] [.ref (lay (100, 0))] (c_in l Z B0 lay (cM Z lay μ r) f 1 1000) (xw_at tW_18 1 rfl) rfl rfl (by rfl) (Nat.le_of_ble_eq_true rfl) (xdec_at tX5_settle_0 4 rfl) ⟨(Nat.le_of_ble_eq_true rfl), (Nat.le_of_ble_eq_true rfl)⟩ ⟨(Nat.le_of_ble_eq_true rfl), (Nat.le_of_ble_eq_true rfl)⟩ ?_
  rintro v9 lay9 C9 ⟨rfl, rfl, ⟨rfl, q_6⟩ | ⟨rfl, q_6⟩⟩
  · refine v_callV X myX5_asks [.int 1] [] (c_asks1 l Z B0 lay μ r) (xw_at tW_17 31 rfl) (100, 0) cM_0 rfl rfl rfl rfl (by rfl) (Nat.le_of_ble_eq_true rfl) (xdec_at tX5_settle_0 5 rfl) ⟨(Nat.le_of_ble_eq_true rfl), (Nat.le_of_ble_eq_true rfl)⟩ ⟨(Nat.le_of_ble_eq_true rfl), (Nat.le_of_ble_eq_true rfl)⟩ ?_
    rintro v9 lay9 C9 ⟨rfl, rfl, rfl⟩
    refine v_if_ne (tgt := 17) X (xdec_at tX5_settle_0 6 rfl) (by decide) (fun _ => ?_) (fun h9 => absurd h9 (by decide))
    refine v_lconst (v := 0) X (xdec_at tX5_settle_0 9 rfl) (by decide) ?_
    refine v_lstore_n (lv' := [some (.ref (lay (100, 0))), some (.int f), some (.long 0), none, none, none, none]) X (xdec_at tX5_settle_0 10 rfl) rfl (by decide) rfl ?_
    refine v_iconst (v := 0) X (xdec_at tX5_settle_0 11 rfl) (by decide) ?_
    refine v_istore (lv' := [some (.ref (lay (100, 0))), some (.int f), some (.long 0), none, some (.int 0), none, none]) X (xdec_at tX5_settle_0 12 rfl) (by decide) rfl ?_
    refine v_for 64 (fun j9 => cM Z lay (M_st1 f j9 (0, th μ 0)).2 r) (fun j9 => [some (.ref (lay (100, 0))), some (.int f), some (.long (M_st1 f j9 (0, th μ 0)).1), none, some (.int (nI j9)), none, none]) 22 [] (fun i1 hi1 ih1 => ?_) ?_
    · obtain ⟨q, hq⟩ : ∃ q, q = M_st1 f i1 (0, th μ 0) := ⟨_, rfl⟩
      refine v_mu (μ' := q.2) (by rw [hq]) ?_
      refine v_le (lv' := [some (.ref (lay (100, 0))), some (.int f), some (.long q.1), none, some (.int (nI i1)), none, none]) (by simp [xle, hq]) ?_
      refine v_iload X (xdec_at tX5_settle_0 13 rfl) rfl ?_
      refine v_bipush (v := 64) X (xdec_at tX5_settle_0 14 rfl) (by decide) ?_
      refine v_icmp_ge (tgt := 76) X (xdec_at tX5_settle_0 15 rfl) (by decide) (fun c_26 => ?_) (fun c_26 => ?_)
      · exact absurd c_26 (nI_ge (b := 64) hi1 (by decide))
      · refine v_aload_n X (xdec_at tX5_settle_0 16 rfl) rfl rfl ?_
        refine r_A X 9 (by decide) rfl rfl (xdec_at tX5_settle_0 17 rfl) ?_
        refine v_iload X (xdec_at tX5_settle_0 18 rfl) rfl ?_
        refine r_Ln (v := (q.2.2 9 i1)) X 9 (by decide) rfl rfl hi1 (xdec_at tX5_settle_0 19 rfl) rfl ?_
        refine v_iload_n X (xdec_at tX5_settle_0 20 rfl) rfl rfl ?_
        refine v_i2l X (xdec_at tX5_settle_0 21 rfl) rfl ?_
        refine v_lmul X (xdec_at tX5_settle_0 22 rfl) ?_
        refine v_lstore (lv' := [some (.ref (lay (100, 0))), some (.int f), some (.long q.1), none, some (.int (nI i1)), some (.long ((q.2.2 9 i1) * (f).toInt64)), none]) X (xdec_at tX5_settle_0 23 rfl) (by decide) rfl ?_
        refine v_aload_n X (xdec_at tX5_settle_0 24 rfl) rfl rfl ?_
        refine v_iload X (xdec_at tX5_settle_0 25 rfl) rfl ?_
        refine v_bipush (v := 8) X (xdec_at tX5_settle_0 26 rfl) (by decide) ?_
        refine v_idiv X (xdec_at tX5_settle_0 27 rfl) (by decide) ?_
        refine v_iload X (xdec_at tX5_settle_0 28 rfl) rfl ?_
        refine v_bipush (v := 8) X (xdec_at tX5_settle_0 29 rfl) (by decide) ?_
        refine v_irem X (xdec_at tX5_settle_0 30 rfl) (by decide) ?_
        refine v_lload X (xdec_at tX5_settle_0 31 rfl) rfl ?_
        refine v_st (st' := [.long ((q.2.2 9 i1) * (f).toInt64), .int (nI (i1 % 8)), .int (nI (i1 / 8)), .ref (lay (100, 0))]) (by rw [r8 hi1, d8 hi1] <;> rfl) ?_
        refine v_callV X myX5_pays [.int (nI (i1 / 8)), .int (nI (i1 % 8)), .long ((q.2.2 9 i1) * (f).toInt64)] [] (c_pays l Z B0 lay q.2 r (nI (i1 / 8)) (nI (i1 % 8)) (vp_in_nI (by omega) (by decide)) (vp_in_nI (by omega) (by decide)) ((q.2.2 9 i1) * (f).toInt64)) (xw_at tW_20 24 rfl) (100, 0) cM_0 rfl rfl rfl rfl (by rfl) (Nat.le_of_ble_eq_true rfl) (xdec_at tX5_settle_0 32 rfl) ⟨(Nat.le_of_ble_eq_true rfl), (Nat.le_of_ble_eq_true rfl)⟩ ⟨(Nat.le_of_ble_eq_true rfl), (Nat.le_of_ble_eq_true rfl)⟩ ?_
        rw [ix_nI (show i1 / 8 < 2 ^ 31 by omega), ix_nI (show i1 % 8 < 2 ^ 31 by omega)]
        rintro v9 lay9 C9 ⟨rfl, rfl, rfl⟩
        refine v_lload_n X (xdec_at tX5_settle_0 33 rfl) rfl rfl ?_
        refine v_lload X (xdec_at tX5_settle_0 34 rfl) rfl ?_
        refine v_ladd X (xdec_at tX5_settle_0 35 rfl) ?_
        refine v_lstore_n (lv' := [some (.ref (lay (100, 0))), some (.int f), some (.long (q.1 + ((q.2.2 9 i1) * (f).toInt64))), none, some (.int (nI i1)), some (.long ((q.2.2 9 i1) * (f).toInt64)), none]) X (xdec_at tX5_settle_0 36 rfl) rfl (by decide) rfl ?_
        refine v_aload_n X (xdec_at tX5_settle_0 37 rfl) rfl rfl ?_
        refine r_A X 9 (by decide) rfl rfl (xdec_at tX5_settle_0 38 rfl) ?_
        refine v_iload X (xdec_at tX5_settle_0 39 rfl) rfl ?_
        refine v_lconst (v := 0) X (xdec_at tX5_settle_1 0 rfl) (by decide) ?_
        refine r_PLn X 9 (by decide) rfl rfl hi1 (xdec_at tX5_settle_1 1 rfl) ?_
        refine v_iinc (v := (nI (i1 + 1))) (lv' := [some (.ref (lay (100, 0))), some (.int f), some (.long (q.1 + ((q.2.2 9 i1) * (f).toInt64))), none, some (.int (nI (i1 + 1))), some (.long ((q.2.2 9 i1) * (f).toInt64)), none]) X (xdec_at tX5_settle_1 2 rfl) rfl (nI_1 _) (by decide) rfl ?_
        refine v_goto (tgt := 22) X (xdec_at tX5_settle_1 3 rfl) (by decide) ?_
        refine v_le (lv' := [some (.ref (lay (100, 0))), some (.int f), some (.long (M_st1 f (i1 + 1) (0, th μ 0)).1), none, some (.int (nI (i1 + 1))), none, none]) (by simp [xle, M_st1, ← hq]) ?_
        exact v_mu (μ' := (M_st1 f (i1 + 1) (0, th μ 0)).2) (by rw [M_st1]; simp only [← hq]) ih1
    · refine v_iload X (xdec_at tX5_settle_0 13 rfl) rfl ?_
      refine v_bipush (v := 64) X (xdec_at tX5_settle_0 14 rfl) (by decide) ?_
      refine v_icmp_ge (tgt := 76) X (xdec_at tX5_settle_0 15 rfl) (by decide) (fun c_26 => ?_) (fun c_26 => ?_)
      · refine v_lload_n X (xdec_at tX5_settle_1 4 rfl) rfl rfl ?_
        have e9 : M_settle μ f = M_st1 f 64 (0, th μ 0) := by rw [M_settle, if_pos q_6]
        exact v_lret X hr (xdec_at tX5_settle_1 5 rfl) (Nat.le_of_ble_eq_true rfl) (Nat.le_of_ble_eq_true rfl) ⟨rfl, by rw [e9], by rw [e9]⟩
      · exact absurd (show (64 : Int32) ≤ nI 64 by decide) c_26
  · refine v_callV X myX5_asks [.int 0] [] (c_asks0 l Z B0 lay μ r) (xw_at tW_17 31 rfl) (100, 0) cM_0 rfl rfl rfl rfl (by rfl) (Nat.le_of_ble_eq_true rfl) (xdec_at tX5_settle_0 5 rfl) ⟨(Nat.le_of_ble_eq_true rfl), (Nat.le_of_ble_eq_true rfl)⟩ ⟨(Nat.le_of_ble_eq_true rfl), (Nat.le_of_ble_eq_true rfl)⟩ ?_
    rintro v9 lay9 C9 ⟨rfl, rfl, rfl⟩
    refine v_if_ne (tgt := 17) X (xdec_at tX5_settle_0 6 rfl) (by decide) (fun h9 => absurd h9 (by decide)) (fun _ => ?_)
    refine v_lconst (v := 0) X (xdec_at tX5_settle_0 7 rfl) (by decide) ?_
    have e9 : M_settle μ f = (0, ((up2 μ.1 38 0 1), μ.2)) := by simp [M_settle, q_6]
    exact v_lret X hr (xdec_at tX5_settle_0 8 rfl) (Nat.le_of_ble_eq_true rfl) (Nat.le_of_ble_eq_true rfl) ⟨rfl, by rw [e9], by rw [e9]⟩
set_option maxRecDepth 100000 in
set_option maxHeartbeats 4000000 in
theorem c_hand (l : Launch) (Z : xZ) (B0 : Nat) (lay : xK → Nat) (μ : Mu) (r : xK → Option xE) (t n : Int32) (hI : RI μ) (hch : ∀ j : Nat, (j : Int) < (μ.1 35 (ix t)).toInt → vp_in (M_hd μ.1 (μ.1 33 (ix t)) j) 80000) : YM l yX5_hand cX5_hand 5 ((some FieldType.int)) 2 43 0 0 Z B0 [.ref (lay (100, 0)), .int t, .int n] lay (cM Z lay μ r) (fun v lay' C' => lay = lay' ∧ v = some (.int (M_hand μ t n).1) ∧ C' = cM Z lay (M_hand μ t n).2 r) := by
  refine YM_of myX5_hand.2.2 RX5 rfl [some (.ref (lay (100, 0))), some (.int t), some (.int n), none, none] rfl (Nat.le_of_ble_eq_true rfl) ?_
  intro P1 P2 P3 P4 P5 P6 P7 P8 X hr hnm
  refine v_aload_n X (xdec_at tX5_hand_0 0 rfl) rfl rfl ?_
  refine v_aload_n X (xdec_at tX5_hand_0 1 rfl) rfl rfl ?_
  refine v_iload_n X (xdec_at tX5_hand_0 2 rfl) rfl rfl ?_
  refine v_callV X myX5_isThing [.int t] [.ref (lay (100, 0))] (c_isThing l Z B0 lay μ r t) (xw_at tW_20 0 rfl) (100, 0) cM_0 rfl rfl rfl rfl (by rfl) (Nat.le_of_ble_eq_true rfl) (xdec_at tX5_hand_0 3 rfl) ⟨(Nat.le_of_ble_eq_true rfl), (Nat.le_of_ble_eq_true rfl)⟩ ⟨(Nat.le_of_ble_eq_true rfl), (Nat.le_of_ble_eq_true rfl)⟩ ?_
  rintro v9 lay9 C9 ⟨rfl, rfl, ⟨rfl, q_3⟩ | ⟨rfl, q_3⟩⟩
  · refine v_if_eq (tgt := 27) X (xdec_at tX5_hand_0 4 rfl) (by decide) (fun h9 => absurd h9 (by decide)) (fun _ => ?_)
    refine v_iload_n X (xdec_at tX5_hand_0 5 rfl) rfl rfl ?_
    refine v_if_lt (tgt := 27) X (xdec_at tX5_hand_0 6 rfl) (by decide) (fun c_10 => ?_) (fun c_10 => ?_)
    · refine v_iconst (v := 0) X (xdec_at tX5_hand_0 15 rfl) (by decide) ?_
      refine v_callV X myX5_asks [.int 0] [] (c_asks0 l Z B0 lay μ r) (xw_at tW_17 31 rfl) (100, 0) cM_0 rfl rfl rfl rfl (by rfl) (Nat.le_of_ble_eq_true rfl) (xdec_at tX5_hand_0 16 rfl) ⟨(Nat.le_of_ble_eq_true rfl), (Nat.le_of_ble_eq_true rfl)⟩ ⟨(Nat.le_of_ble_eq_true rfl), (Nat.le_of_ble_eq_true rfl)⟩ ?_
      rintro v9 lay9 C9 ⟨rfl, rfl, rfl⟩
      refine v_if_ne (tgt := 36) X (xdec_at tX5_hand_0 17 rfl) (by decide) (fun h9 => absurd h9 (by decide)) (fun _ => ?_)
      refine v_iconst (v := 0) X (xdec_at tX5_hand_0 18 rfl) (by decide) ?_
      have e9 : M_hand μ t n = (0, ((up2 μ.1 38 0 1), μ.2)) := by simp [M_hand, (eq_true q_3), c_10]
      exact v_iret X hr (xdec_at tX5_hand_0 19 rfl) (Nat.le_of_ble_eq_true rfl) (Nat.le_of_ble_eq_true rfl) ⟨rfl, by rw [e9], by rw [e9]⟩
    · refine v_iload_n X (xdec_at tX5_hand_0 7 rfl) rfl rfl ?_
      refine v_aload_n X (xdec_at tX5_hand_0 8 rfl) rfl rfl ?_
      refine r_A X 35 (by decide) rfl rfl (xdec_at tX5_hand_0 9 rfl) ?_
      refine v_iload_n X (xdec_at tX5_hand_0 10 rfl) rfl rfl ?_
      refine r_I (v := (μ.1 35 (ix t))) X 35 (by decide) rfl rfl (hI.T q_3) (xdec_at tX5_hand_0 11 rfl) rfl ?_
      refine v_icmp_ge (tgt := 27) X (xdec_at tX5_hand_0 12 rfl) (by decide) (fun c_20 => ?_) (fun c_20 => ?_)
      · refine v_iconst (v := 0) X (xdec_at tX5_hand_0 15 rfl) (by decide) ?_
        refine v_callV X myX5_asks [.int 0] [] (c_asks0 l Z B0 lay μ r) (xw_at tW_17 31 rfl) (100, 0) cM_0 rfl rfl rfl rfl (by rfl) (Nat.le_of_ble_eq_true rfl) (xdec_at tX5_hand_0 16 rfl) ⟨(Nat.le_of_ble_eq_true rfl), (Nat.le_of_ble_eq_true rfl)⟩ ⟨(Nat.le_of_ble_eq_true rfl), (Nat.le_of_ble_eq_true rfl)⟩ ?_
        rintro v9 lay9 C9 ⟨rfl, rfl, rfl⟩
        refine v_if_ne (tgt := 36) X (xdec_at tX5_hand_0 17 rfl) (by decide) (fun h9 => absurd h9 (by decide)) (fun _ => ?_)
        refine v_iconst (v := 0) X (xdec_at tX5_hand_0 18 rfl) (by decide) ?_
        have e9 : M_hand μ t n = (0, ((up2 μ.1 38 0 1), μ.2)) := by simp [M_hand, (eq_true q_3), c_10, c_20]
        exact v_iret X hr (xdec_at tX5_hand_0 19 rfl) (Nat.le_of_ble_eq_true rfl) (Nat.le_of_ble_eq_true rfl) ⟨rfl, by rw [e9], by rw [e9]⟩
      · refine v_iconst (v := 1) X (xdec_at tX5_hand_0 13 rfl) (by decide) ?_
        refine v_goto (tgt := 28) X (xdec_at tX5_hand_0 14 rfl) (by decide) ?_
        refine v_callV X myX5_asks [.int 1] [] (c_asks1 l Z B0 lay μ r) (xw_at tW_17 31 rfl) (100, 0) cM_0 rfl rfl rfl rfl (by rfl) (Nat.le_of_ble_eq_true rfl) (xdec_at tX5_hand_0 16 rfl) ⟨(Nat.le_of_ble_eq_true rfl), (Nat.le_of_ble_eq_true rfl)⟩ ⟨(Nat.le_of_ble_eq_true rfl), (Nat.le_of_ble_eq_true rfl)⟩ ?_
        rintro v9 lay9 C9 ⟨rfl, rfl, rfl⟩
        refine v_if_ne (tgt := 36) X (xdec_at tX5_hand_0 17 rfl) (by decide) (fun _ => ?_) (fun h9 => absurd h9 (by decide))
        refine v_aload_n X (xdec_at tX5_hand_0 20 rfl) rfl rfl ?_
        refine r_A X 33 (by decide) rfl rfl (xdec_at tX5_hand_0 21 rfl) ?_
        refine v_iload_n X (xdec_at tX5_hand_0 22 rfl) rfl rfl ?_
        refine r_I (v := (μ.1 33 (ix t))) X 33 (by decide) rfl rfl (hI.T q_3) (xdec_at tX5_hand_0 23 rfl) rfl ?_
        refine v_istore_n (lv' := [some (.ref (lay (100, 0))), some (.int t), some (.int n), some (.int (μ.1 33 (ix t))), none]) X (xdec_at tX5_hand_0 24 rfl) rfl (by decide) rfl ?_
        refine v_iconst (v := 0) X (xdec_at tX5_hand_0 25 rfl) (by decide) ?_
        refine v_istore (lv' := [some (.ref (lay (100, 0))), some (.int t), some (.int n), some (.int (μ.1 33 (ix t))), some (.int 0)]) X (xdec_at tX5_hand_0 26 rfl) (by decide) rfl ?_
        obtain ⟨nn, hnn, en, hnx⟩ : ∃ j : Nat, j < 2 ^ 31 ∧ n = nI j ∧ ix n = j := by obtain ⟨j, h1, h2⟩ := nI_of c_10; exact ⟨j, h1, h2, by rw [h2, ix_nI h1]⟩
        have hlt : (nn : Int) < (μ.1 35 (ix t)).toInt := by have h8 := Int32.lt_iff_toInt_lt.mp (Int32.not_le.mp c_20); rw [en, nI_toInt hnn] at h8; exact h8
        refine v_for nn (fun j9 => cM Z lay ((up2 μ.1 38 0 0), μ.2) r) (fun j9 => [some (.ref (lay (100, 0))), some (.int t), some (.int n), some (.int (M_hd μ.1 (μ.1 33 (ix t)) j9)), some (.int (nI j9))]) 46 [] (fun i1 hi1 ih1 => ?_) ?_
        · refine v_iload X (xdec_at tX5_hand_0 27 rfl) rfl ?_
          refine v_iload_n X (xdec_at tX5_hand_0 28 rfl) rfl rfl ?_
          refine v_icmp_ge (tgt := 65) X (xdec_at tX5_hand_0 29 rfl) (by decide) (fun c_49 => ?_) (fun c_49 => ?_)
          · exact absurd c_49 (by rw [en]; exact nI_ge hi1 hnn)
          · refine v_aload_n X (xdec_at tX5_hand_0 30 rfl) rfl rfl ?_
            refine r_A X 32 (by decide) rfl rfl (xdec_at tX5_hand_0 31 rfl) ?_
            refine v_iload_n X (xdec_at tX5_hand_0 32 rfl) rfl rfl ?_
            refine r_I (v := (μ.1 32 (ix (M_hd μ.1 (μ.1 33 (ix t)) i1)))) X 32 (by decide) rfl rfl (hch _ (by omega)) (xdec_at tX5_hand_0 33 rfl) rfl ?_
            refine v_istore_n (lv' := [some (.ref (lay (100, 0))), some (.int t), some (.int n), some (.int (μ.1 32 (ix (M_hd μ.1 (μ.1 33 (ix t)) i1)))), some (.int (nI i1))]) X (xdec_at tX5_hand_0 34 rfl) rfl (by decide) rfl ?_
            refine v_iinc (v := (nI (i1 + 1))) (lv' := [some (.ref (lay (100, 0))), some (.int t), some (.int n), some (.int (μ.1 32 (ix (M_hd μ.1 (μ.1 33 (ix t)) i1)))), some (.int (nI (i1 + 1)))]) X (xdec_at tX5_hand_0 35 rfl) rfl (nI_1 _) (by decide) rfl ?_
            refine v_goto (tgt := 46) X (xdec_at tX5_hand_0 36 rfl) (by decide) ?_
            refine v_le (lv' := [some (.ref (lay (100, 0))), some (.int t), some (.int n), some (.int (M_hd μ.1 (μ.1 33 (ix t)) (i1 + 1))), some (.int (nI (i1 + 1)))]) (by simp [xle, M_hd]) ?_
            exact v_mu (μ' := ((up2 μ.1 38 0 0), μ.2)) (by rfl) ih1
        · refine v_iload X (xdec_at tX5_hand_0 27 rfl) rfl ?_
          refine v_iload_n X (xdec_at tX5_hand_0 28 rfl) rfl rfl ?_
          refine v_icmp_ge (tgt := 65) X (xdec_at tX5_hand_0 29 rfl) (by decide) (fun c_49 => ?_) (fun c_49 => ?_)
          · refine v_aload_n X (xdec_at tX5_hand_0 37 rfl) rfl rfl ?_
            refine r_A X 31 (by decide) rfl rfl (xdec_at tX5_hand_0 38 rfl) ?_
            refine v_iload_n X (xdec_at tX5_hand_0 39 rfl) rfl rfl ?_
            refine r_I (v := (μ.1 31 (ix (M_hd μ.1 (μ.1 33 (ix t)) nn)))) X 31 (by decide) rfl rfl (hch _ (by omega)) (xdec_at tX5_hand_1 0 rfl) rfl ?_
            have e9 : M_hand μ t n = ((μ.1 31 (ix (M_hd μ.1 (μ.1 33 (ix t)) nn))), ((up2 μ.1 38 0 0), μ.2)) := by rw [M_hand, if_pos ⟨q_3, c_10, c_20⟩, hnx]
            exact v_iret X hr (xdec_at tX5_hand_1 1 rfl) (Nat.le_of_ble_eq_true rfl) (Nat.le_of_ble_eq_true rfl) ⟨rfl, by rw [e9], by rw [e9]⟩
          · exact absurd (show n ≤ nI nn by rw [← en]; exact Int32.le_refl _) c_49
  · refine v_if_eq (tgt := 27) X (xdec_at tX5_hand_0 4 rfl) (by decide) (fun _ => ?_) (fun h9 => absurd h9 (by decide))
    refine v_iconst (v := 0) X (xdec_at tX5_hand_0 15 rfl) (by decide) ?_
    refine v_callV X myX5_asks [.int 0] [] (c_asks0 l Z B0 lay μ r) (xw_at tW_17 31 rfl) (100, 0) cM_0 rfl rfl rfl rfl (by rfl) (Nat.le_of_ble_eq_true rfl) (xdec_at tX5_hand_0 16 rfl) ⟨(Nat.le_of_ble_eq_true rfl), (Nat.le_of_ble_eq_true rfl)⟩ ⟨(Nat.le_of_ble_eq_true rfl), (Nat.le_of_ble_eq_true rfl)⟩ ?_
    rintro v9 lay9 C9 ⟨rfl, rfl, rfl⟩
    refine v_if_ne (tgt := 36) X (xdec_at tX5_hand_0 17 rfl) (by decide) (fun h9 => absurd h9 (by decide)) (fun _ => ?_)
    refine v_iconst (v := 0) X (xdec_at tX5_hand_0 18 rfl) (by decide) ?_
    have e9 : M_hand μ t n = (0, ((up2 μ.1 38 0 1), μ.2)) := by simp [M_hand, q_3]
    exact v_iret X hr (xdec_at tX5_hand_0 19 rfl) (Nat.le_of_ble_eq_true rfl) (Nat.le_of_ble_eq_true rfl) ⟨rfl, by rw [e9], by rw [e9]⟩
set_option maxRecDepth 100000 in
set_option maxHeartbeats 4000000 in
theorem c_gain (l : Launch) (Z : xZ) (B0 : Nat) (lay : xK → Nat) (μ : Mu) (r : xK → Option xE) (w : Int32) (hI : RI μ) : YM l yX5_gain cX5_gain 5 ((some FieldType.int)) 1 22 0 0 Z B0 [.ref (lay (100, 0)), .int w] lay (cM Z lay μ r) (fun v lay' C' => lay = lay' ∧ v = some (.int (M_gain μ w).1) ∧ C' = cM Z lay (M_gain μ w).2 r) := by
  refine YM_of myX5_gain.2.2 RX5 rfl [some (.ref (lay (100, 0))), some (.int w), none, none, none] rfl (Nat.le_of_ble_eq_true rfl) ?_
  intro P1 P2 P3 P4 P5 P6 P7 P8 X hr hnm
  obtain ⟨nP, hnP, eP⟩ := hI.1
  have hixP : ix (μ.1 0 0) = nP := by rw [eP, ix_nI (by omega)]
  refine v_aload_n X (xdec_at tX5_gain_0 0 rfl) rfl rfl ?_
  refine v_iload_n X (xdec_at tX5_gain_0 1 rfl) rfl rfl ?_
  refine v_iconst (v := 0) X (xdec_at tX5_gain_0 2 rfl) (by decide) ?_
  refine v_iconst (v := 2) X (xdec_at tX5_gain_0 3 rfl) (by decide) ?_
  refine v_callS X myX5_in [.int w, .int 0, .int 2] [.ref (lay (100, 0))] (c_in l Z B0 lay (cM Z lay μ r) w 0 2) (xw_at tW_18 1 rfl) rfl rfl (by rfl) (Nat.le_of_ble_eq_true rfl) (xdec_at tX5_gain_0 4 rfl) ⟨(Nat.le_of_ble_eq_true rfl), (Nat.le_of_ble_eq_true rfl)⟩ ⟨(Nat.le_of_ble_eq_true rfl), (Nat.le_of_ble_eq_true rfl)⟩ ?_
  rintro v9 lay9 C9 ⟨rfl, rfl, ⟨rfl, q_4⟩ | ⟨rfl, q_4⟩⟩
  · refine v_callV X myX5_asks [.int 1] [] (c_asks1 l Z B0 lay μ r) (xw_at tW_17 31 rfl) (100, 0) cM_0 rfl rfl rfl rfl (by rfl) (Nat.le_of_ble_eq_true rfl) (xdec_at tX5_gain_0 5 rfl) ⟨(Nat.le_of_ble_eq_true rfl), (Nat.le_of_ble_eq_true rfl)⟩ ⟨(Nat.le_of_ble_eq_true rfl), (Nat.le_of_ble_eq_true rfl)⟩ ?_
    rintro v9 lay9 C9 ⟨rfl, rfl, rfl⟩
    refine v_if_ne (tgt := 15) X (xdec_at tX5_gain_0 6 rfl) (by decide) (fun _ => ?_) (fun h9 => absurd h9 (by decide))
    refine v_aload_n X (xdec_at tX5_gain_0 9 rfl) rfl rfl ?_
    refine r_A X 37 (by decide) rfl rfl (xdec_at tX5_gain_0 10 rfl) ?_
    refine v_iconst (v := 0) X (xdec_at tX5_gain_0 11 rfl) (by decide) ?_
    refine v_iconst (v := 0) X (xdec_at tX5_gain_0 12 rfl) (by decide) ?_
    refine v_st (st' := [.int 0, .int (nI 0), .ref (lay (100, 38))]) (by rfl) ?_
    refine r_PIn X 37 (by decide) rfl rfl (by decide) (xdec_at tX5_gain_0 13 rfl) ?_
    refine v_iconst (v := 0) X (xdec_at tX5_gain_0 14 rfl) (by decide) ?_
    refine v_istore_n (lv' := [some (.ref (lay (100, 0))), some (.int w), some (.int 0), none, none]) X (xdec_at tX5_gain_0 15 rfl) rfl (by decide) rfl ?_
    refine v_for nP (fun j9 => cM Z lay ((M_g4 nP j9 (up2 (up2 μ.1 38 0 0) 37 0 0)), μ.2) r) (fun j9 => [some (.ref (lay (100, 0))), some (.int w), some (.int (nI j9)), none, none]) 24 [] (fun i1 hi1 ih1 => ?_) ?_
    · obtain ⟨A, hA⟩ : ∃ A, A = M_g4 nP i1 (up2 (up2 μ.1 38 0 0) 37 0 0) := ⟨_, rfl⟩
      have hkA : ∀ j, j ≠ 37 → A j = (up2 μ.1 38 0 0) j := fun j hj => by rw [hA, M_g4_ne _ _ _ hj, up2_ne _ _ _ _ _ hj]
      have hAP : A 0 0 = nI nP := by rw [hkA 0 (by decide)]; exact eP
      have h8a : i1 < 8 := by omega
      refine v_mu (μ' := (A, μ.2)) (by rw [hA]) ?_
      refine v_iload_n X (xdec_at tX5_gain_0 16 rfl) rfl rfl ?_
      refine v_aload_n X (xdec_at tX5_gain_0 17 rfl) rfl rfl ?_
      refine r_S (v := (A 0 0)) X 0 (by decide) rfl rfl (xdec_at tX5_gain_0 18 rfl) rfl ?_
      refine v_icmp_ge (tgt := 118) X (xdec_at tX5_gain_0 19 rfl) (by decide) (fun c_29 => ?_) (fun c_29 => ?_)
      · exact absurd c_29 (by rw [hAP]; exact nI_ge hi1 (by omega))
      · refine v_iconst (v := 0) X (xdec_at tX5_gain_0 20 rfl) (by decide) ?_
        refine v_istore_n (lv' := [some (.ref (lay (100, 0))), some (.int w), some (.int (nI i1)), some (.int 0), none]) X (xdec_at tX5_gain_0 21 rfl) rfl (by decide) rfl ?_
        refine v_for nP (fun j9 => cM Z lay ((M_g3 i1 j9 A), μ.2) r) (fun j9 => [some (.ref (lay (100, 0))), some (.int w), some (.int (nI i1)), some (.int (nI j9)), none]) 34 [] (fun i2 hi2 ih2 => ?_) ?_
        · obtain ⟨B, hB⟩ : ∃ B, B = M_g3 i1 i2 A := ⟨_, rfl⟩
          have hBP : B 0 0 = nI nP := by rw [hB, M_g3_ne _ _ _ (by decide)]; exact hAP
          have h8b : i2 < 8 := by omega
          refine v_mu (μ' := (B, μ.2)) (by rw [hB]) ?_
          refine v_iload_n X (xdec_at tX5_gain_0 22 rfl) rfl rfl ?_
          refine v_aload_n X (xdec_at tX5_gain_0 23 rfl) rfl rfl ?_
          refine r_S (v := (B 0 0)) X 0 (by decide) rfl rfl (xdec_at tX5_gain_0 24 rfl) rfl ?_
          refine v_icmp_ge (tgt := 112) X (xdec_at tX5_gain_0 25 rfl) (by decide) (fun c_39 => ?_) (fun c_39 => ?_)
          · exact absurd c_39 (by rw [hBP]; exact nI_ge hi2 (by omega))
          · refine v_aload_n X (xdec_at tX5_gain_0 26 rfl) rfl rfl ?_
            refine r_A X 1 (by decide) rfl rfl (xdec_at tX5_gain_0 27 rfl) ?_
            refine v_iconst (v := 3) X (xdec_at tX5_gain_0 28 rfl) (by decide) ?_
            refine v_iload_n X (xdec_at tX5_gain_0 29 rfl) rfl rfl ?_
            refine v_imul X (xdec_at tX5_gain_0 30 rfl) ?_
            refine v_st (st' := [.int (nI (3 * i2)), .ref (lay (100, 2))]) (by rw [n3, pk_mul] <;> rfl) ?_
            refine r_In (v := (B 1 (3 * i2))) X 1 (by decide) rfl rfl (show 3 * i2 < 24 by omega) (xdec_at tX5_gain_0 31 rfl) rfl ?_
            refine v_aload_n X (xdec_at tX5_gain_0 32 rfl) rfl rfl ?_
            refine r_A X 5 (by decide) rfl rfl (xdec_at tX5_gain_0 33 rfl) ?_
            refine v_iload_n X (xdec_at tX5_gain_0 34 rfl) rfl rfl ?_
            refine r_In (v := (B 5 i1)) X 5 (by decide) rfl rfl h8a (xdec_at tX5_gain_0 35 rfl) rfl ?_
            refine v_isub X (xdec_at tX5_gain_0 36 rfl) ?_
            refine v_istore (lv' := [some (.ref (lay (100, 0))), some (.int w), some (.int (nI i1)), some (.int (nI i2)), some (.int ((B 1 (3 * i2)) - (B 5 i1)))]) X (xdec_at tX5_gain_0 37 rfl) (by decide) rfl ?_
            refine v_iload_n X (xdec_at tX5_gain_0 38 rfl) rfl rfl ?_
            refine v_iload_n X (xdec_at tX5_gain_0 39 rfl) rfl rfl ?_
            refine v_icmp_eq (tgt := 106) X (xdec_at tX5_gain_1 0 rfl) (by decide) (fun c_61 => ?_) (fun c_61 => ?_)
            · have e61 : i1 = i2 := (nI_eq (by omega) (by omega)).mp c_61
              refine v_iinc (v := (nI (i2 + 1))) (lv' := [some (.ref (lay (100, 0))), some (.int w), some (.int (nI i1)), some (.int (nI (i2 + 1))), some (.int ((B 1 (3 * i2)) - (B 5 i1)))]) X (xdec_at tX5_gain_1 27 rfl) rfl (nI_1 _) (by decide) rfl ?_
              refine v_goto (tgt := 34) X (xdec_at tX5_gain_1 28 rfl) (by decide) ?_
              refine v_le (lv' := [some (.ref (lay (100, 0))), some (.int w), some (.int (nI i1)), some (.int (nI (i2 + 1))), none]) (by simp [xle]) ?_
              exact v_mu (μ' := ((M_g3 i1 (i2 + 1) A), μ.2)) (by show _ = (M_gs i1 i2 (M_g3 i1 i2 A), μ.2); rw [← hB]; simp [M_gs, e61]) ih2
            · have e61 : ¬ i1 = i2 := fun z => c_61 (by rw [z])
              refine v_aload_n X (xdec_at tX5_gain_1 1 rfl) rfl rfl ?_
              refine r_A X 5 (by decide) rfl rfl (xdec_at tX5_gain_1 2 rfl) ?_
              refine v_iload_n X (xdec_at tX5_gain_1 3 rfl) rfl rfl ?_
              refine r_In (v := (B 5 i1)) X 5 (by decide) rfl rfl h8a (xdec_at tX5_gain_1 4 rfl) rfl ?_
              refine v_if_le (tgt := 106) X (xdec_at tX5_gain_1 5 rfl) (by decide) (fun c_70 => ?_) (fun c_70 => ?_)
              · refine v_iinc (v := (nI (i2 + 1))) (lv' := [some (.ref (lay (100, 0))), some (.int w), some (.int (nI i1)), some (.int (nI (i2 + 1))), some (.int ((B 1 (3 * i2)) - (B 5 i1)))]) X (xdec_at tX5_gain_1 27 rfl) rfl (nI_1 _) (by decide) rfl ?_
                refine v_goto (tgt := 34) X (xdec_at tX5_gain_1 28 rfl) (by decide) ?_
                refine v_le (lv' := [some (.ref (lay (100, 0))), some (.int w), some (.int (nI i1)), some (.int (nI (i2 + 1))), none]) (by simp [xle]) ?_
                exact v_mu (μ' := ((M_g3 i1 (i2 + 1) A), μ.2)) (by show _ = (M_gs i1 i2 (M_g3 i1 i2 A), μ.2); rw [← hB]; simp [M_gs, e61, c_70]) ih2
              · refine v_iload X (xdec_at tX5_gain_1 6 rfl) rfl ?_
                refine v_aload_n X (xdec_at tX5_gain_1 7 rfl) rfl rfl ?_
                refine r_A X 37 (by decide) rfl rfl (xdec_at tX5_gain_1 8 rfl) ?_
                refine v_iconst (v := 0) X (xdec_at tX5_gain_1 9 rfl) (by decide) ?_
                refine v_st (st' := [.int (nI 0), .ref (lay (100, 38)), .int ((B 1 (3 * i2)) - (B 5 i1))]) (by rfl) ?_
                refine r_In (v := (B 37 0)) X 37 (by decide) rfl rfl (by decide) (xdec_at tX5_gain_1 10 rfl) rfl ?_
                refine v_icmp_le (tgt := 106) X (xdec_at tX5_gain_1 11 rfl) (by decide) (fun c_81 => ?_) (fun c_81 => ?_)
                · refine v_iinc (v := (nI (i2 + 1))) (lv' := [some (.ref (lay (100, 0))), some (.int w), some (.int (nI i1)), some (.int (nI (i2 + 1))), some (.int ((B 1 (3 * i2)) - (B 5 i1)))]) X (xdec_at tX5_gain_1 27 rfl) rfl (nI_1 _) (by decide) rfl ?_
                  refine v_goto (tgt := 34) X (xdec_at tX5_gain_1 28 rfl) (by decide) ?_
                  refine v_le (lv' := [some (.ref (lay (100, 0))), some (.int w), some (.int (nI i1)), some (.int (nI (i2 + 1))), none]) (by simp [xle]) ?_
                  exact v_mu (μ' := ((M_g3 i1 (i2 + 1) A), μ.2)) (by show _ = (M_gs i1 i2 (M_g3 i1 i2 A), μ.2); rw [← hB]; simp [M_gs, e61, c_70, c_81]) ih2
                · refine v_aload_n X (xdec_at tX5_gain_1 12 rfl) rfl rfl ?_
                  refine r_A X 37 (by decide) rfl rfl (xdec_at tX5_gain_1 13 rfl) ?_
                  refine v_iconst (v := 0) X (xdec_at tX5_gain_1 14 rfl) (by decide) ?_
                  refine v_iload X (xdec_at tX5_gain_1 15 rfl) rfl ?_
                  refine v_st (st' := [.int ((B 1 (3 * i2)) - (B 5 i1)), .int (nI 0), .ref (lay (100, 38))]) (by rfl) ?_
                  refine r_PIn X 37 (by decide) rfl rfl (by decide) (xdec_at tX5_gain_1 16 rfl) ?_
                  refine v_aload_n X (xdec_at tX5_gain_1 17 rfl) rfl rfl ?_
                  refine r_A X 37 (by decide) rfl rfl (xdec_at tX5_gain_1 18 rfl) ?_
                  refine v_iconst (v := 1) X (xdec_at tX5_gain_1 19 rfl) (by decide) ?_
                  refine v_iload_n X (xdec_at tX5_gain_1 20 rfl) rfl rfl ?_
                  refine v_st (st' := [.int (nI i1), .int (nI 1), .ref (lay (100, 38))]) (by rfl) ?_
                  refine r_PIn X 37 (by decide) rfl rfl (by decide) (xdec_at tX5_gain_1 21 rfl) ?_
                  refine v_aload_n X (xdec_at tX5_gain_1 22 rfl) rfl rfl ?_
                  refine r_A X 37 (by decide) rfl rfl (xdec_at tX5_gain_1 23 rfl) ?_
                  refine v_iconst (v := 2) X (xdec_at tX5_gain_1 24 rfl) (by decide) ?_
                  refine v_iload_n X (xdec_at tX5_gain_1 25 rfl) rfl rfl ?_
                  refine v_st (st' := [.int (nI i2), .int (nI 2), .ref (lay (100, 38))]) (by rfl) ?_
                  refine r_PIn X 37 (by decide) rfl rfl (by decide) (xdec_at tX5_gain_1 26 rfl) ?_
                  refine v_iinc (v := (nI (i2 + 1))) (lv' := [some (.ref (lay (100, 0))), some (.int w), some (.int (nI i1)), some (.int (nI (i2 + 1))), some (.int ((B 1 (3 * i2)) - (B 5 i1)))]) X (xdec_at tX5_gain_1 27 rfl) rfl (nI_1 _) (by decide) rfl ?_
                  refine v_goto (tgt := 34) X (xdec_at tX5_gain_1 28 rfl) (by decide) ?_
                  refine v_le (lv' := [some (.ref (lay (100, 0))), some (.int w), some (.int (nI i1)), some (.int (nI (i2 + 1))), none]) (by simp [xle]) ?_
                  exact v_mu (μ' := ((M_g3 i1 (i2 + 1) A), μ.2)) (by show _ = (M_gs i1 i2 (M_g3 i1 i2 A), μ.2); rw [← hB]; simp [M_gs, e61, c_70, c_81]) ih2
        · obtain ⟨B, hB⟩ : ∃ B, B = M_g3 i1 nP A := ⟨_, rfl⟩
          have hBP : B 0 0 = nI nP := by rw [hB, M_g3_ne _ _ _ (by decide)]; exact hAP
          refine v_mu (μ' := (B, μ.2)) (by rw [hB]) ?_
          refine v_iload_n X (xdec_at tX5_gain_0 22 rfl) rfl rfl ?_
          refine v_aload_n X (xdec_at tX5_gain_0 23 rfl) rfl rfl ?_
          refine r_S (v := (B 0 0)) X 0 (by decide) rfl rfl (xdec_at tX5_gain_0 24 rfl) rfl ?_
          refine v_icmp_ge (tgt := 112) X (xdec_at tX5_gain_0 25 rfl) (by decide) (fun c_39 => ?_) (fun c_39 => ?_)
          · refine v_iinc (v := (nI (i1 + 1))) (lv' := [some (.ref (lay (100, 0))), some (.int w), some (.int (nI (i1 + 1))), some (.int (nI nP)), none]) X (xdec_at tX5_gain_1 29 rfl) rfl (nI_1 _) (by decide) rfl ?_
            refine v_goto (tgt := 24) X (xdec_at tX5_gain_1 30 rfl) (by decide) ?_
            refine v_le (lv' := [some (.ref (lay (100, 0))), some (.int w), some (.int (nI (i1 + 1))), none, none]) (by simp [xle]) ?_
            exact v_mu (μ' := ((M_g4 nP (i1 + 1) (up2 (up2 μ.1 38 0 0) 37 0 0)), μ.2)) (by rw [hB, hA]; rfl) ih1
          · exact absurd (show B 0 0 ≤ nI nP by rw [hBP]; exact Int32.le_refl _) c_39
    · obtain ⟨A, hA⟩ : ∃ A, A = M_g4 nP nP (up2 (up2 μ.1 38 0 0) 37 0 0) := ⟨_, rfl⟩
      have hAP : A 0 0 = nI nP := by rw [hA, M_g4_ne _ _ _ (by decide)]; exact eP
      refine v_mu (μ' := (A, μ.2)) (by rw [hA]) ?_
      refine v_iload_n X (xdec_at tX5_gain_0 16 rfl) rfl rfl ?_
      refine v_aload_n X (xdec_at tX5_gain_0 17 rfl) rfl rfl ?_
      refine r_S (v := (A 0 0)) X 0 (by decide) rfl rfl (xdec_at tX5_gain_0 18 rfl) rfl ?_
      refine v_icmp_ge (tgt := 118) X (xdec_at tX5_gain_0 19 rfl) (by decide) (fun c_29 => ?_) (fun c_29 => ?_)
      · refine v_aload_n X (xdec_at tX5_gain_1 31 rfl) rfl rfl ?_
        refine r_A X 37 (by decide) rfl rfl (xdec_at tX5_gain_1 32 rfl) ?_
        refine v_iconst (v := 0) X (xdec_at tX5_gain_1 33 rfl) (by decide) ?_
        refine v_st (st' := [.int (nI 0), .ref (lay (100, 38))]) (by rfl) ?_
        refine r_In (v := (A 37 0)) X 37 (by decide) rfl rfl (by decide) (xdec_at tX5_gain_1 34 rfl) rfl ?_
        refine v_if_ne (tgt := 131) X (xdec_at tX5_gain_1 35 rfl) (by decide) (fun c_124 => ?_) (fun c_124 => ?_)
        · refine v_aload_n X (xdec_at tX5_gain_1 38 rfl) rfl rfl ?_
          refine r_A X 37 (by decide) rfl rfl (xdec_at tX5_gain_1 39 rfl) ?_
          refine v_iload_n X (xdec_at tX5_gain_2 0 rfl) rfl rfl ?_
          have hw3 : vp_in w 3 := isK_in q_4
          refine r_I (v := (A 37 (ix w))) X 37 (by decide) rfl rfl hw3 (xdec_at tX5_gain_2 1 rfl) rfl ?_
          have e9 : M_gain μ w = ((A 37 (ix w)), (A, μ.2)) := by simp only [M_gain, hixP]; rw [if_pos q_4, ← hA]; simp [c_124]
          exact v_iret X hr (xdec_at tX5_gain_2 2 rfl) (Nat.le_of_ble_eq_true rfl) (Nat.le_of_ble_eq_true rfl) ⟨rfl, by rw [e9], by rw [e9]⟩
        · refine v_iconst (v := (-1)) X (xdec_at tX5_gain_1 36 rfl) (by decide) ?_
          refine v_goto (tgt := 137) X (xdec_at tX5_gain_1 37 rfl) (by decide) ?_
          have e9 : M_gain μ w = ((-1), (A, μ.2)) := by simp only [M_gain, hixP]; rw [if_pos q_4, ← hA]; simp [c_124]
          exact v_iret X hr (xdec_at tX5_gain_2 2 rfl) (Nat.le_of_ble_eq_true rfl) (Nat.le_of_ble_eq_true rfl) ⟨rfl, by rw [e9], by rw [e9]⟩
      · exact absurd (show A 0 0 ≤ nI nP by rw [hAP]; exact Int32.le_refl _) c_29
  · refine v_callV X myX5_asks [.int 0] [] (c_asks0 l Z B0 lay μ r) (xw_at tW_17 31 rfl) (100, 0) cM_0 rfl rfl rfl rfl (by rfl) (Nat.le_of_ble_eq_true rfl) (xdec_at tX5_gain_0 5 rfl) ⟨(Nat.le_of_ble_eq_true rfl), (Nat.le_of_ble_eq_true rfl)⟩ ⟨(Nat.le_of_ble_eq_true rfl), (Nat.le_of_ble_eq_true rfl)⟩ ?_
    rintro v9 lay9 C9 ⟨rfl, rfl, rfl⟩
    refine v_if_ne (tgt := 15) X (xdec_at tX5_gain_0 6 rfl) (by decide) (fun h9 => absurd h9 (by decide)) (fun _ => ?_)
    refine v_iconst (v := 0) X (xdec_at tX5_gain_0 7 rfl) (by decide) ?_
    have e9 : M_gain μ w = (0, ((up2 μ.1 38 0 1), μ.2)) := by simp [M_gain, q_4]
    exact v_iret X hr (xdec_at tX5_gain_0 8 rfl) (Nat.le_of_ble_eq_true rfl) (Nat.le_of_ble_eq_true rfl) ⟨rfl, by rw [e9], by rw [e9]⟩
end
section
/-! the class's world: what its objects hold, in the reference's numbers (the fields that both have), the routes' tables tb, the hands hd and their rows' lengths cp -/
abbrev nP (μ : Mu) : Nat := ix (μ.1 0 0)
abbrev nG (μ : Mu) : Nat := ix (μ.1 10 0)
abbrev nT (μ : Mu) : Nat := ix (μ.1 16 0)
def fX (lay : xK → Nat) (μ : Mu) : Nat → Value := fun j => match j with
  | 0 => .ref (lay (1, 0))
  | 1 => .ref (lay (2, 0))
  | 2 => .ref (lay (3, 0))
  | 3 => .int (μ.1 0 0)
  | 4 => .int (μ.1 16 0)
  | 5 => .int (μ.1 36 0)
  | _ => .null
def fR (lay : xK → Nat) (μ : Mu) : Nat → Value := fun j => match j with
  | 0 => .ref (lay (4, 0))
  | 1 => .ref (lay (5, 0))
  | 2 => .ref (lay (6, 0))
  | 3 => .ref (lay (7, 0))
  | 4 => .int (μ.1 10 0)
  | _ => .null
def fP (lay : xK → Nat) (μ : Mu) (i : Nat) : Nat → Value := fun j => match j with
  | 0 => .int (nI i)
  | 1 => .ref (lay (11, i))
  | 2 => .ref (lay (12, i))
  | 3 => .ref (lay (13, i))
  | 4 => .ref (lay (14, i))
  | 5 => .int (μ.1 4 i)
  | 6 => .int (μ.1 5 i)
  | 7 => .int (μ.1 6 i)
  | 8 => .long (μ.2 7 i)
  | 9 => .long (μ.2 8 i)
  | _ => .null
def fG (lay : xK → Nat) (μ : Mu) (g : Nat) : Nat → Value := fun j => match j with
  | 0 => .ref (lay (10, ix (μ.1 11 g)))
  | 1 => .ref (lay (10, ix (μ.1 12 g)))
  | 2 => .int (μ.1 13 g)
  | 3 => .int (μ.1 14 g)
  | _ => .null
/-- a thing's leg, if it has one -/
def tLeg (lay : xK → Nat) (v : Int32) : Value := if v = -1 then .null else .ref (lay (20, ix v))
def fT (lay : xK → Nat) (μ : Mu) (t : Nat) : Nat → Value := fun j => match j with
  | 0 => .int (μ.1 17 t)
  | 1 => .ref (lay (10, ix (μ.1 18 t)))
  | 2 => .int (μ.1 20 t)
  | 3 => .int (μ.1 22 t)
  | 4 => .int (μ.1 21 t)
  | 5 => .ref (lay (10, ix (μ.1 19 t)))
  | 6 => .ref (lay (10, ix (μ.1 24 t)))
  | 7 => tLeg lay (μ.1 25 t)
  | 8 => .int (μ.1 23 t)
  | 9 => .int (μ.1 26 t)
  | 10 => .int (μ.1 28 t)
  | 11 => .int (μ.1 27 t)
  | 12 => .int (μ.1 29 t)
  | 13 => .ref (lay (31, t))
  | 14 => .int (μ.1 35 t)
  | _ => .null
def aQ (Z : xZ) (ty n m : Nat) (f : Nat → Nat) : xE := .inl (Z.2 ty, n, .inr (.inr (.inr (.inr (fun i => if i < m then some (f i) else none)))))
def aI (Z : xZ) (n : Nat) (f : Nat → Int32) : xE := .inl (Z.2 0, n, .inl f)
def aL (Z : xZ) (n : Nat) (f : Nat → Int64) : xE := .inl (Z.2 1, n, .inr (.inl f))
def row3 (A : Nat → Nat → Int32) (j i : Nat) : Nat → Int32 := fun k => if k < 3 then A j (3 * i + k) else 0
def row8 (J : Nat → Nat → Int64) (i : Nat) : Nat → Int64 := fun k => if k < 8 then J 9 (8 * i + k) else 0
/-- what the class has beside the reference's numbers: the tables of its routes, the hands, their rows' lengths -/
abbrev Tb : Type := (Nat → Nat → Int32) × (Nat → Nat → Int32) × (Nat → Nat)
def cX (Z : xZ) (lay : xK → Nat) (μ : Mu) (tb : Tb) (r : xK → Option xE) : xK → Option xE := fun k =>
  if k.1 = 0 then (if k.2 = 0 then some (.inr (4, fX lay μ)) else none)
  else if k.1 = 1 then (if k.2 = 0 then some (aQ Z 3 8 (nP μ) (fun i => lay (10, i))) else none)
  else if k.1 = 2 then (if k.2 = 0 then some (aQ Z 4 40 (nT μ) (fun i => lay (30, i))) else none)
  else if k.1 = 3 then (if k.2 = 0 then some (.inr (2, fR lay μ)) else none)
  else if k.1 = 4 then (if k.2 = 0 then some (aQ Z 5 20 (nG μ) (fun i => lay (20, i))) else none)
  else if k.1 = 5 then (if k.2 = 0 then some (aI Z 64 (tb.1 0)) else none)
  else if k.1 = 6 then (if k.2 = 0 then some (aI Z 64 (tb.1 1)) else none)
  else if k.1 = 7 then (if k.2 = 0 then some (aI Z 64 (tb.1 2)) else none)
  else if k.1 = 10 then (if k.2 < nP μ then some (.inr (1, fP lay μ k.2)) else none)
  else if k.1 = 11 then (if k.2 < nP μ then some (aI Z 3 (row3 μ.1 1 k.2)) else none)
  else if k.1 = 12 then (if k.2 < nP μ then some (aI Z 3 (row3 μ.1 2 k.2)) else none)
  else if k.1 = 13 then (if k.2 < nP μ then some (aI Z 3 (row3 μ.1 3 k.2)) else none)
  else if k.1 = 14 then (if k.2 < nP μ then some (aL Z 8 (row8 μ.2 k.2)) else none)
  else if k.1 = 20 then (if k.2 < nG μ then some (.inr (0, fG lay μ k.2)) else none)
  else if k.1 = 30 then (if k.2 < nT μ then some (.inr (3, fT lay μ k.2)) else none)
  else if k.1 = 31 then (if k.2 < nT μ then some (aI Z (tb.2.2 k.2) (tb.2.1 k.2)) else none)
  else r k
theorem cX_X {Z : xZ} {lay : xK → Nat} {μ : Mu} {tb : Tb} {r : xK → Option xE} : cX Z lay μ tb r (0, 0) = some (.inr (4, fX lay μ)) := rfl
theorem cX_ps {Z : xZ} {lay : xK → Nat} {μ : Mu} {tb : Tb} {r : xK → Option xE} : cX Z lay μ tb r (1, 0) = some (aQ Z 3 8 (nP μ) (fun i => lay (10, i))) := rfl
theorem cX_ts {Z : xZ} {lay : xK → Nat} {μ : Mu} {tb : Tb} {r : xK → Option xE} : cX Z lay μ tb r (2, 0) = some (aQ Z 4 40 (nT μ) (fun i => lay (30, i))) := rfl
theorem cX_R {Z : xZ} {lay : xK → Nat} {μ : Mu} {tb : Tb} {r : xK → Option xE} : cX Z lay μ tb r (3, 0) = some (.inr (2, fR lay μ)) := rfl
theorem cX_gs {Z : xZ} {lay : xK → Nat} {μ : Mu} {tb : Tb} {r : xK → Option xE} : cX Z lay μ tb r (4, 0) = some (aQ Z 5 20 (nG μ) (fun i => lay (20, i))) := rfl
theorem cX_t0 {Z : xZ} {lay : xK → Nat} {μ : Mu} {tb : Tb} {r : xK → Option xE} : cX Z lay μ tb r (5, 0) = some (aI Z 64 (tb.1 0)) := rfl
theorem cX_t1 {Z : xZ} {lay : xK → Nat} {μ : Mu} {tb : Tb} {r : xK → Option xE} : cX Z lay μ tb r (6, 0) = some (aI Z 64 (tb.1 1)) := rfl
theorem cX_t2 {Z : xZ} {lay : xK → Nat} {μ : Mu} {tb : Tb} {r : xK → Option xE} : cX Z lay μ tb r (7, 0) = some (aI Z 64 (tb.1 2)) := rfl
theorem cX_P {Z : xZ} {lay : xK → Nat} {μ : Mu} {tb : Tb} {r : xK → Option xE} {i : Nat} (h : i < nP μ) : cX Z lay μ tb r (10, i) = some (.inr (1, fP lay μ i)) := if_pos h
theorem cX_r1 {Z : xZ} {lay : xK → Nat} {μ : Mu} {tb : Tb} {r : xK → Option xE} {i : Nat} (h : i < nP μ) : cX Z lay μ tb r (11, i) = some (aI Z 3 (row3 μ.1 1 i)) := if_pos h
theorem cX_r2 {Z : xZ} {lay : xK → Nat} {μ : Mu} {tb : Tb} {r : xK → Option xE} {i : Nat} (h : i < nP μ) : cX Z lay μ tb r (12, i) = some (aI Z 3 (row3 μ.1 2 i)) := if_pos h
theorem cX_r3 {Z : xZ} {lay : xK → Nat} {μ : Mu} {tb : Tb} {r : xK → Option xE} {i : Nat} (h : i < nP μ) : cX Z lay μ tb r (13, i) = some (aI Z 3 (row3 μ.1 3 i)) := if_pos h
theorem cX_c {Z : xZ} {lay : xK → Nat} {μ : Mu} {tb : Tb} {r : xK → Option xE} {i : Nat} (h : i < nP μ) : cX Z lay μ tb r (14, i) = some (aL Z 8 (row8 μ.2 i)) := if_pos h
theorem cX_G {Z : xZ} {lay : xK → Nat} {μ : Mu} {tb : Tb} {r : xK → Option xE} {i : Nat} (h : i < nG μ) : cX Z lay μ tb r (20, i) = some (.inr (0, fG lay μ i)) := if_pos h
theorem cX_T {Z : xZ} {lay : xK → Nat} {μ : Mu} {tb : Tb} {r : xK → Option xE} {i : Nat} (h : i < nT μ) : cX Z lay μ tb r (30, i) = some (.inr (3, fT lay μ i)) := if_pos h
theorem cX_h {Z : xZ} {lay : xK → Nat} {μ : Mu} {tb : Tb} {r : xK → Option xE} {i : Nat} (h : i < nT μ) : cX Z lay μ tb r (31, i) = some (aI Z (tb.2.2 i) (tb.2.1 i)) := if_pos h
theorem cX_r {Z : xZ} {lay : xK → Nat} {μ : Mu} {tb : Tb} {r : xK → Option xE} {k : xK} (h0 : k.1 ≠ 0) (h1 : k.1 ≠ 1) (h2 : k.1 ≠ 2) (h3 : k.1 ≠ 3) (h4 : k.1 ≠ 4) (h5 : k.1 ≠ 5) (h6 : k.1 ≠ 6) (h7 : k.1 ≠ 7) (h10 : k.1 ≠ 10) (h11 : k.1 ≠ 11) (h12 : k.1 ≠ 12) (h13 : k.1 ≠ 13) (h14 : k.1 ≠ 14) (h20 : k.1 ≠ 20) (h30 : k.1 ≠ 30) (h31 : k.1 ≠ 31) : cX Z lay μ tb r k = r k := by
  unfold cX
  rw [if_neg h0, if_neg h1, if_neg h2, if_neg h3, if_neg h4, if_neg h5, if_neg h6, if_neg h7, if_neg h10, if_neg h11, if_neg h12, if_neg h13, if_neg h14, if_neg h20, if_neg h30, if_neg h31]
theorem cXk_0 {Z : xZ} {lay : xK → Nat} {μ : Mu} {tb : Tb} {r : xK → Option xE} {b : Nat} : cX Z lay μ tb r (0, b) = (if b = 0 then some (Sum.inr (4, fX lay μ) : xE) else none) := rfl
theorem cXk_1 {Z : xZ} {lay : xK → Nat} {μ : Mu} {tb : Tb} {r : xK → Option xE} {b : Nat} : cX Z lay μ tb r (1, b) = (if b = 0 then some (aQ Z 3 8 (nP μ) (fun i => lay (10, i))) else none) := rfl
theorem cXk_2 {Z : xZ} {lay : xK → Nat} {μ : Mu} {tb : Tb} {r : xK → Option xE} {b : Nat} : cX Z lay μ tb r (2, b) = (if b = 0 then some (aQ Z 4 40 (nT μ) (fun i => lay (30, i))) else none) := rfl
theorem cXk_3 {Z : xZ} {lay : xK → Nat} {μ : Mu} {tb : Tb} {r : xK → Option xE} {b : Nat} : cX Z lay μ tb r (3, b) = (if b = 0 then some (Sum.inr (2, fR lay μ) : xE) else none) := rfl
theorem cXk_4 {Z : xZ} {lay : xK → Nat} {μ : Mu} {tb : Tb} {r : xK → Option xE} {b : Nat} : cX Z lay μ tb r (4, b) = (if b = 0 then some (aQ Z 5 20 (nG μ) (fun i => lay (20, i))) else none) := rfl
theorem cXk_5 {Z : xZ} {lay : xK → Nat} {μ : Mu} {tb : Tb} {r : xK → Option xE} {b : Nat} : cX Z lay μ tb r (5, b) = (if b = 0 then some (aI Z 64 (tb.1 0)) else none) := rfl
theorem cXk_6 {Z : xZ} {lay : xK → Nat} {μ : Mu} {tb : Tb} {r : xK → Option xE} {b : Nat} : cX Z lay μ tb r (6, b) = (if b = 0 then some (aI Z 64 (tb.1 1)) else none) := rfl
theorem cXk_7 {Z : xZ} {lay : xK → Nat} {μ : Mu} {tb : Tb} {r : xK → Option xE} {b : Nat} : cX Z lay μ tb r (7, b) = (if b = 0 then some (aI Z 64 (tb.1 2)) else none) := rfl
theorem cXk_10 {Z : xZ} {lay : xK → Nat} {μ : Mu} {tb : Tb} {r : xK → Option xE} {b : Nat} : cX Z lay μ tb r (10, b) = (if b < nP μ then some (Sum.inr (1, fP lay μ b) : xE) else none) := rfl
theorem cXk_11 {Z : xZ} {lay : xK → Nat} {μ : Mu} {tb : Tb} {r : xK → Option xE} {b : Nat} : cX Z lay μ tb r (11, b) = (if b < nP μ then some (aI Z 3 (row3 μ.1 1 b)) else none) := rfl
theorem cXk_12 {Z : xZ} {lay : xK → Nat} {μ : Mu} {tb : Tb} {r : xK → Option xE} {b : Nat} : cX Z lay μ tb r (12, b) = (if b < nP μ then some (aI Z 3 (row3 μ.1 2 b)) else none) := rfl
theorem cXk_13 {Z : xZ} {lay : xK → Nat} {μ : Mu} {tb : Tb} {r : xK → Option xE} {b : Nat} : cX Z lay μ tb r (13, b) = (if b < nP μ then some (aI Z 3 (row3 μ.1 3 b)) else none) := rfl
theorem cXk_14 {Z : xZ} {lay : xK → Nat} {μ : Mu} {tb : Tb} {r : xK → Option xE} {b : Nat} : cX Z lay μ tb r (14, b) = (if b < nP μ then some (aL Z 8 (row8 μ.2 b)) else none) := rfl
theorem cXk_20 {Z : xZ} {lay : xK → Nat} {μ : Mu} {tb : Tb} {r : xK → Option xE} {b : Nat} : cX Z lay μ tb r (20, b) = (if b < nG μ then some (Sum.inr (0, fG lay μ b) : xE) else none) := rfl
theorem cXk_30 {Z : xZ} {lay : xK → Nat} {μ : Mu} {tb : Tb} {r : xK → Option xE} {b : Nat} : cX Z lay μ tb r (30, b) = (if b < nT μ then some (Sum.inr (3, fT lay μ b) : xE) else none) := rfl
theorem cXk_31 {Z : xZ} {lay : xK → Nat} {μ : Mu} {tb : Tb} {r : xK → Option xE} {b : Nat} : cX Z lay μ tb r (31, b) = (if b < nT μ then some (aI Z (tb.2.2 b) (tb.2.1 b)) else none) := rfl
set_option maxRecDepth 100000 in
set_option maxHeartbeats 60000 in
theorem cw_X5 {Z : xZ} {lay : xK → Nat} {μ : Mu} {tb : Tb} {r : xK → Option xE} {v : Int32} : ∀ y9, cX Z lay (up2 μ.1 36 0 v, μ.2) tb r y9 = xup (cX Z lay μ tb r) (0, 0) (.inr (4, updV (fX lay μ) 5 (.int v))) y9 := by
  rintro ⟨a, b⟩
  by_cases hk : (a, b) = ((0, 0) : xK)
  · rw [xup, if_pos hk]
    obtain ⟨rfl, rfl⟩ := Prod.mk.inj hk
    show some (Sum.inr (4, fX lay (up2 μ.1 36 0 v, μ.2)) : xE) = _
    refine congrArg (fun f => some (Sum.inr (4, f) : xE)) (funext fun j => ?_)
    unfold updV
    by_cases hj : j = 5
    · subst hj; simp [fX, up2]
    · rw [if_neg hj]
      unfold fX
      split <;> first | rfl | exact absurd rfl hj | simp [up2]
  · rw [xup, if_neg hk]
    by_cases h0 : a = 0
    · subst h0
      have hb : b ≠ 0 := fun z => hk (by rw [z])
      show (if b = 0 then some _ else none) = (if b = 0 then some _ else none)
      rw [if_neg hb, if_neg hb]
    by_cases h1 : a = 1
    · subst h1
      rw [cXk_1, cXk_1] <;> rfl
    by_cases h2 : a = 2
    · subst h2
      rw [cXk_2, cXk_2] <;> rfl
    by_cases h3 : a = 3
    · subst h3
      rw [cXk_3, cXk_3] <;> rfl
    by_cases h4 : a = 4
    · subst h4
      rw [cXk_4, cXk_4] <;> rfl
    by_cases h5 : a = 5
    · subst h5
      rw [cXk_5, cXk_5] <;> rfl
    by_cases h6 : a = 6
    · subst h6
      rw [cXk_6, cXk_6] <;> rfl
    by_cases h7 : a = 7
    · subst h7
      rw [cXk_7, cXk_7] <;> rfl
    by_cases h10 : a = 10
    · subst h10
      rw [cXk_10, cXk_10] <;> rfl
    by_cases h11 : a = 11
    · subst h11
      rw [cXk_11, cXk_11] <;> rfl
    by_cases h12 : a = 12
    · subst h12
      rw [cXk_12, cXk_12] <;> rfl
    by_cases h13 : a = 13
    · subst h13
      rw [cXk_13, cXk_13] <;> rfl
    by_cases h14 : a = 14
    · subst h14
      rw [cXk_14, cXk_14] <;> rfl
    by_cases h20 : a = 20
    · subst h20
      rw [cXk_20, cXk_20] <;> rfl
    by_cases h30 : a = 30
    · subst h30
      rw [cXk_30, cXk_30] <;> rfl
    by_cases h31 : a = 31
    · subst h31
      rw [cXk_31, cXk_31] <;> rfl
    rw [cX_r h0 h1 h2 h3 h4 h5 h6 h7 h10 h11 h12 h13 h14 h20 h30 h31, cX_r h0 h1 h2 h3 h4 h5 h6 h7 h10 h11 h12 h13 h14 h20 h30 h31]
set_option maxRecDepth 100000 in
set_option maxHeartbeats 60000 in
theorem cw_P5 {Z : xZ} {lay : xK → Nat} {μ : Mu} {tb : Tb} {r : xK → Option xE} {i : Nat} (h : i < nP μ) {v : Int32} : ∀ y9, cX Z lay (up2 μ.1 4 i v, μ.2) tb r y9 = xup (cX Z lay μ tb r) (10, i) (.inr (1, updV (fP lay μ i) 5 (.int v))) y9 := by
  rintro ⟨a, b⟩
  by_cases hk : (a, b) = ((10, i) : xK)
  · rw [xup, if_pos hk]
    obtain ⟨rfl, rfl⟩ := Prod.mk.inj hk
    show (if b < nP (up2 μ.1 4 b v, μ.2) then some (Sum.inr (1, fP lay (up2 μ.1 4 b v, μ.2) b) : xE) else none) = _
    refine Eq.trans (if_pos h) ?_
    refine congrArg (fun f => some (Sum.inr (1, f) : xE)) (funext fun j => ?_)
    unfold updV
    by_cases hj : j = 5
    · subst hj; simp [fP, up2]
    · rw [if_neg hj]
      unfold fP
      split <;> first | rfl | exact absurd rfl hj | simp [up2]
  · rw [xup, if_neg hk]
    by_cases h0 : a = 0
    · subst h0
      rw [cXk_0, cXk_0] <;> rfl
    by_cases h1 : a = 1
    · subst h1
      rw [cXk_1, cXk_1] <;> rfl
    by_cases h2 : a = 2
    · subst h2
      rw [cXk_2, cXk_2] <;> rfl
    by_cases h3 : a = 3
    · subst h3
      rw [cXk_3, cXk_3] <;> rfl
    by_cases h4 : a = 4
    · subst h4
      rw [cXk_4, cXk_4] <;> rfl
    by_cases h5 : a = 5
    · subst h5
      rw [cXk_5, cXk_5] <;> rfl
    by_cases h6 : a = 6
    · subst h6
      rw [cXk_6, cXk_6] <;> rfl
    by_cases h7 : a = 7
    · subst h7
      rw [cXk_7, cXk_7] <;> rfl
    by_cases h10 : a = 10
    · subst h10
      have hb : b ≠ i := fun z => hk (by rw [z])
      show (if b < nP (up2 μ.1 4 i v, μ.2) then some (Sum.inr (1, fP lay (up2 μ.1 4 i v, μ.2) b) : xE) else none) = (if b < nP μ then some (Sum.inr (1, fP lay μ b) : xE) else none)
      rw [show fP lay (up2 μ.1 4 i v, μ.2) b = fP lay μ b from funext fun j => by unfold fP; split <;> first | rfl | simp [up2, hb]] <;> rfl
    by_cases h11 : a = 11
    · subst h11
      rw [cXk_11, cXk_11] <;> rfl
    by_cases h12 : a = 12
    · subst h12
      rw [cXk_12, cXk_12] <;> rfl
    by_cases h13 : a = 13
    · subst h13
      rw [cXk_13, cXk_13] <;> rfl
    by_cases h14 : a = 14
    · subst h14
      rw [cXk_14, cXk_14] <;> rfl
    by_cases h20 : a = 20
    · subst h20
      rw [cXk_20, cXk_20] <;> rfl
    by_cases h30 : a = 30
    · subst h30
      rw [cXk_30, cXk_30] <;> rfl
    by_cases h31 : a = 31
    · subst h31
      rw [cXk_31, cXk_31] <;> rfl
    rw [cX_r h0 h1 h2 h3 h4 h5 h6 h7 h10 h11 h12 h13 h14 h20 h30 h31, cX_r h0 h1 h2 h3 h4 h5 h6 h7 h10 h11 h12 h13 h14 h20 h30 h31]
set_option maxRecDepth 100000 in
set_option maxHeartbeats 60000 in
theorem cw_P6 {Z : xZ} {lay : xK → Nat} {μ : Mu} {tb : Tb} {r : xK → Option xE} {i : Nat} (h : i < nP μ) {v : Int32} : ∀ y9, cX Z lay (up2 μ.1 5 i v, μ.2) tb r y9 = xup (cX Z lay μ tb r) (10, i) (.inr (1, updV (fP lay μ i) 6 (.int v))) y9 := by
  rintro ⟨a, b⟩
  by_cases hk : (a, b) = ((10, i) : xK)
  · rw [xup, if_pos hk]
    obtain ⟨rfl, rfl⟩ := Prod.mk.inj hk
    show (if b < nP (up2 μ.1 5 b v, μ.2) then some (Sum.inr (1, fP lay (up2 μ.1 5 b v, μ.2) b) : xE) else none) = _
    refine Eq.trans (if_pos h) ?_
    refine congrArg (fun f => some (Sum.inr (1, f) : xE)) (funext fun j => ?_)
    unfold updV
    by_cases hj : j = 6
    · subst hj; simp [fP, up2]
    · rw [if_neg hj]
      unfold fP
      split <;> first | rfl | exact absurd rfl hj | simp [up2]
  · rw [xup, if_neg hk]
    by_cases h0 : a = 0
    · subst h0
      rw [cXk_0, cXk_0] <;> rfl
    by_cases h1 : a = 1
    · subst h1
      rw [cXk_1, cXk_1] <;> rfl
    by_cases h2 : a = 2
    · subst h2
      rw [cXk_2, cXk_2] <;> rfl
    by_cases h3 : a = 3
    · subst h3
      rw [cXk_3, cXk_3] <;> rfl
    by_cases h4 : a = 4
    · subst h4
      rw [cXk_4, cXk_4] <;> rfl
    by_cases h5 : a = 5
    · subst h5
      rw [cXk_5, cXk_5] <;> rfl
    by_cases h6 : a = 6
    · subst h6
      rw [cXk_6, cXk_6] <;> rfl
    by_cases h7 : a = 7
    · subst h7
      rw [cXk_7, cXk_7] <;> rfl
    by_cases h10 : a = 10
    · subst h10
      have hb : b ≠ i := fun z => hk (by rw [z])
      show (if b < nP (up2 μ.1 5 i v, μ.2) then some (Sum.inr (1, fP lay (up2 μ.1 5 i v, μ.2) b) : xE) else none) = (if b < nP μ then some (Sum.inr (1, fP lay μ b) : xE) else none)
      rw [show fP lay (up2 μ.1 5 i v, μ.2) b = fP lay μ b from funext fun j => by unfold fP; split <;> first | rfl | simp [up2, hb]] <;> rfl
    by_cases h11 : a = 11
    · subst h11
      rw [cXk_11, cXk_11] <;> rfl
    by_cases h12 : a = 12
    · subst h12
      rw [cXk_12, cXk_12] <;> rfl
    by_cases h13 : a = 13
    · subst h13
      rw [cXk_13, cXk_13] <;> rfl
    by_cases h14 : a = 14
    · subst h14
      rw [cXk_14, cXk_14] <;> rfl
    by_cases h20 : a = 20
    · subst h20
      rw [cXk_20, cXk_20] <;> rfl
    by_cases h30 : a = 30
    · subst h30
      rw [cXk_30, cXk_30] <;> rfl
    by_cases h31 : a = 31
    · subst h31
      rw [cXk_31, cXk_31] <;> rfl
    rw [cX_r h0 h1 h2 h3 h4 h5 h6 h7 h10 h11 h12 h13 h14 h20 h30 h31, cX_r h0 h1 h2 h3 h4 h5 h6 h7 h10 h11 h12 h13 h14 h20 h30 h31]
set_option maxRecDepth 100000 in
set_option maxHeartbeats 60000 in
theorem cw_P7 {Z : xZ} {lay : xK → Nat} {μ : Mu} {tb : Tb} {r : xK → Option xE} {i : Nat} (h : i < nP μ) {v : Int32} : ∀ y9, cX Z lay (up2 μ.1 6 i v, μ.2) tb r y9 = xup (cX Z lay μ tb r) (10, i) (.inr (1, updV (fP lay μ i) 7 (.int v))) y9 := by
  rintro ⟨a, b⟩
  by_cases hk : (a, b) = ((10, i) : xK)
  · rw [xup, if_pos hk]
    obtain ⟨rfl, rfl⟩ := Prod.mk.inj hk
    show (if b < nP (up2 μ.1 6 b v, μ.2) then some (Sum.inr (1, fP lay (up2 μ.1 6 b v, μ.2) b) : xE) else none) = _
    refine Eq.trans (if_pos h) ?_
    refine congrArg (fun f => some (Sum.inr (1, f) : xE)) (funext fun j => ?_)
    unfold updV
    by_cases hj : j = 7
    · subst hj; simp [fP, up2]
    · rw [if_neg hj]
      unfold fP
      split <;> first | rfl | exact absurd rfl hj | simp [up2]
  · rw [xup, if_neg hk]
    by_cases h0 : a = 0
    · subst h0
      rw [cXk_0, cXk_0] <;> rfl
    by_cases h1 : a = 1
    · subst h1
      rw [cXk_1, cXk_1] <;> rfl
    by_cases h2 : a = 2
    · subst h2
      rw [cXk_2, cXk_2] <;> rfl
    by_cases h3 : a = 3
    · subst h3
      rw [cXk_3, cXk_3] <;> rfl
    by_cases h4 : a = 4
    · subst h4
      rw [cXk_4, cXk_4] <;> rfl
    by_cases h5 : a = 5
    · subst h5
      rw [cXk_5, cXk_5] <;> rfl
    by_cases h6 : a = 6
    · subst h6
      rw [cXk_6, cXk_6] <;> rfl
    by_cases h7 : a = 7
    · subst h7
      rw [cXk_7, cXk_7] <;> rfl
    by_cases h10 : a = 10
    · subst h10
      have hb : b ≠ i := fun z => hk (by rw [z])
      show (if b < nP (up2 μ.1 6 i v, μ.2) then some (Sum.inr (1, fP lay (up2 μ.1 6 i v, μ.2) b) : xE) else none) = (if b < nP μ then some (Sum.inr (1, fP lay μ b) : xE) else none)
      rw [show fP lay (up2 μ.1 6 i v, μ.2) b = fP lay μ b from funext fun j => by unfold fP; split <;> first | rfl | simp [up2, hb]] <;> rfl
    by_cases h11 : a = 11
    · subst h11
      rw [cXk_11, cXk_11] <;> rfl
    by_cases h12 : a = 12
    · subst h12
      rw [cXk_12, cXk_12] <;> rfl
    by_cases h13 : a = 13
    · subst h13
      rw [cXk_13, cXk_13] <;> rfl
    by_cases h14 : a = 14
    · subst h14
      rw [cXk_14, cXk_14] <;> rfl
    by_cases h20 : a = 20
    · subst h20
      rw [cXk_20, cXk_20] <;> rfl
    by_cases h30 : a = 30
    · subst h30
      rw [cXk_30, cXk_30] <;> rfl
    by_cases h31 : a = 31
    · subst h31
      rw [cXk_31, cXk_31] <;> rfl
    rw [cX_r h0 h1 h2 h3 h4 h5 h6 h7 h10 h11 h12 h13 h14 h20 h30 h31, cX_r h0 h1 h2 h3 h4 h5 h6 h7 h10 h11 h12 h13 h14 h20 h30 h31]
set_option maxRecDepth 100000 in
set_option maxHeartbeats 60000 in
theorem cw_P8 {Z : xZ} {lay : xK → Nat} {μ : Mu} {tb : Tb} {r : xK → Option xE} {i : Nat} (h : i < nP μ) {v : Int64} : ∀ y9, cX Z lay (μ.1, up2 μ.2 7 i v) tb r y9 = xup (cX Z lay μ tb r) (10, i) (.inr (1, updV (fP lay μ i) 8 (.long v))) y9 := by
  rintro ⟨a, b⟩
  by_cases hk : (a, b) = ((10, i) : xK)
  · rw [xup, if_pos hk]
    obtain ⟨rfl, rfl⟩ := Prod.mk.inj hk
    show (if b < nP (μ.1, up2 μ.2 7 b v) then some (Sum.inr (1, fP lay (μ.1, up2 μ.2 7 b v) b) : xE) else none) = _
    refine Eq.trans (if_pos h) ?_
    refine congrArg (fun f => some (Sum.inr (1, f) : xE)) (funext fun j => ?_)
    unfold updV
    by_cases hj : j = 8
    · subst hj; simp [fP, up2]
    · rw [if_neg hj]
      unfold fP
      split <;> first | rfl | exact absurd rfl hj | simp [up2]
  · rw [xup, if_neg hk]
    by_cases h0 : a = 0
    · subst h0
      rw [cXk_0, cXk_0] <;> rfl
    by_cases h1 : a = 1
    · subst h1
      rw [cXk_1, cXk_1] <;> rfl
    by_cases h2 : a = 2
    · subst h2
      rw [cXk_2, cXk_2] <;> rfl
    by_cases h3 : a = 3
    · subst h3
      rw [cXk_3, cXk_3] <;> rfl
    by_cases h4 : a = 4
    · subst h4
      rw [cXk_4, cXk_4] <;> rfl
    by_cases h5 : a = 5
    · subst h5
      rw [cXk_5, cXk_5] <;> rfl
    by_cases h6 : a = 6
    · subst h6
      rw [cXk_6, cXk_6] <;> rfl
    by_cases h7 : a = 7
    · subst h7
      rw [cXk_7, cXk_7] <;> rfl
    by_cases h10 : a = 10
    · subst h10
      have hb : b ≠ i := fun z => hk (by rw [z])
      show (if b < nP (μ.1, up2 μ.2 7 i v) then some (Sum.inr (1, fP lay (μ.1, up2 μ.2 7 i v) b) : xE) else none) = (if b < nP μ then some (Sum.inr (1, fP lay μ b) : xE) else none)
      rw [show fP lay (μ.1, up2 μ.2 7 i v) b = fP lay μ b from funext fun j => by unfold fP; split <;> first | rfl | simp [up2, hb]] <;> rfl
    by_cases h11 : a = 11
    · subst h11
      rw [cXk_11, cXk_11] <;> rfl
    by_cases h12 : a = 12
    · subst h12
      rw [cXk_12, cXk_12] <;> rfl
    by_cases h13 : a = 13
    · subst h13
      rw [cXk_13, cXk_13] <;> rfl
    by_cases h14 : a = 14
    · subst h14
      rw [cXk_14, cXk_14] <;> rfl
    by_cases h20 : a = 20
    · subst h20
      rw [cXk_20, cXk_20] <;> rfl
    by_cases h30 : a = 30
    · subst h30
      rw [cXk_30, cXk_30] <;> rfl
    by_cases h31 : a = 31
    · subst h31
      rw [cXk_31, cXk_31] <;> rfl
    rw [cX_r h0 h1 h2 h3 h4 h5 h6 h7 h10 h11 h12 h13 h14 h20 h30 h31, cX_r h0 h1 h2 h3 h4 h5 h6 h7 h10 h11 h12 h13 h14 h20 h30 h31]
set_option maxRecDepth 100000 in
set_option maxHeartbeats 60000 in
theorem cw_P9 {Z : xZ} {lay : xK → Nat} {μ : Mu} {tb : Tb} {r : xK → Option xE} {i : Nat} (h : i < nP μ) {v : Int64} : ∀ y9, cX Z lay (μ.1, up2 μ.2 8 i v) tb r y9 = xup (cX Z lay μ tb r) (10, i) (.inr (1, updV (fP lay μ i) 9 (.long v))) y9 := by
  rintro ⟨a, b⟩
  by_cases hk : (a, b) = ((10, i) : xK)
  · rw [xup, if_pos hk]
    obtain ⟨rfl, rfl⟩ := Prod.mk.inj hk
    show (if b < nP (μ.1, up2 μ.2 8 b v) then some (Sum.inr (1, fP lay (μ.1, up2 μ.2 8 b v) b) : xE) else none) = _
    refine Eq.trans (if_pos h) ?_
    refine congrArg (fun f => some (Sum.inr (1, f) : xE)) (funext fun j => ?_)
    unfold updV
    by_cases hj : j = 9
    · subst hj; simp [fP, up2]
    · rw [if_neg hj]
      unfold fP
      split <;> first | rfl | exact absurd rfl hj | simp [up2]
  · rw [xup, if_neg hk]
    by_cases h0 : a = 0
    · subst h0
      rw [cXk_0, cXk_0] <;> rfl
    by_cases h1 : a = 1
    · subst h1
      rw [cXk_1, cXk_1] <;> rfl
    by_cases h2 : a = 2
    · subst h2
      rw [cXk_2, cXk_2] <;> rfl
    by_cases h3 : a = 3
    · subst h3
      rw [cXk_3, cXk_3] <;> rfl
    by_cases h4 : a = 4
    · subst h4
      rw [cXk_4, cXk_4] <;> rfl
    by_cases h5 : a = 5
    · subst h5
      rw [cXk_5, cXk_5] <;> rfl
    by_cases h6 : a = 6
    · subst h6
      rw [cXk_6, cXk_6] <;> rfl
    by_cases h7 : a = 7
    · subst h7
      rw [cXk_7, cXk_7] <;> rfl
    by_cases h10 : a = 10
    · subst h10
      have hb : b ≠ i := fun z => hk (by rw [z])
      show (if b < nP (μ.1, up2 μ.2 8 i v) then some (Sum.inr (1, fP lay (μ.1, up2 μ.2 8 i v) b) : xE) else none) = (if b < nP μ then some (Sum.inr (1, fP lay μ b) : xE) else none)
      rw [show fP lay (μ.1, up2 μ.2 8 i v) b = fP lay μ b from funext fun j => by unfold fP; split <;> first | rfl | simp [up2, hb]] <;> rfl
    by_cases h11 : a = 11
    · subst h11
      rw [cXk_11, cXk_11] <;> rfl
    by_cases h12 : a = 12
    · subst h12
      rw [cXk_12, cXk_12] <;> rfl
    by_cases h13 : a = 13
    · subst h13
      rw [cXk_13, cXk_13] <;> rfl
    by_cases h14 : a = 14
    · subst h14
      rw [cXk_14, cXk_14] <;> rfl
    by_cases h20 : a = 20
    · subst h20
      rw [cXk_20, cXk_20] <;> rfl
    by_cases h30 : a = 30
    · subst h30
      rw [cXk_30, cXk_30] <;> rfl
    by_cases h31 : a = 31
    · subst h31
      rw [cXk_31, cXk_31] <;> rfl
    rw [cX_r h0 h1 h2 h3 h4 h5 h6 h7 h10 h11 h12 h13 h14 h20 h30 h31, cX_r h0 h1 h2 h3 h4 h5 h6 h7 h10 h11 h12 h13 h14 h20 h30 h31]
set_option maxRecDepth 100000 in
set_option maxHeartbeats 60000 in
theorem cw_G3 {Z : xZ} {lay : xK → Nat} {μ : Mu} {tb : Tb} {r : xK → Option xE} {i : Nat} (h : i < nG μ) {v : Int32} : ∀ y9, cX Z lay (up2 μ.1 14 i v, μ.2) tb r y9 = xup (cX Z lay μ tb r) (20, i) (.inr (0, updV (fG lay μ i) 3 (.int v))) y9 := by
  rintro ⟨a, b⟩
  by_cases hk : (a, b) = ((20, i) : xK)
  · rw [xup, if_pos hk]
    obtain ⟨rfl, rfl⟩ := Prod.mk.inj hk
    show (if b < nG (up2 μ.1 14 b v, μ.2) then some (Sum.inr (0, fG lay (up2 μ.1 14 b v, μ.2) b) : xE) else none) = _
    refine Eq.trans (if_pos h) ?_
    refine congrArg (fun f => some (Sum.inr (0, f) : xE)) (funext fun j => ?_)
    unfold updV
    by_cases hj : j = 3
    · subst hj; simp [fG, up2]
    · rw [if_neg hj]
      unfold fG
      split <;> first | rfl | exact absurd rfl hj | simp [up2]
  · rw [xup, if_neg hk]
    by_cases h0 : a = 0
    · subst h0
      rw [cXk_0, cXk_0] <;> rfl
    by_cases h1 : a = 1
    · subst h1
      rw [cXk_1, cXk_1] <;> rfl
    by_cases h2 : a = 2
    · subst h2
      rw [cXk_2, cXk_2] <;> rfl
    by_cases h3 : a = 3
    · subst h3
      rw [cXk_3, cXk_3] <;> rfl
    by_cases h4 : a = 4
    · subst h4
      rw [cXk_4, cXk_4] <;> rfl
    by_cases h5 : a = 5
    · subst h5
      rw [cXk_5, cXk_5] <;> rfl
    by_cases h6 : a = 6
    · subst h6
      rw [cXk_6, cXk_6] <;> rfl
    by_cases h7 : a = 7
    · subst h7
      rw [cXk_7, cXk_7] <;> rfl
    by_cases h10 : a = 10
    · subst h10
      rw [cXk_10, cXk_10] <;> rfl
    by_cases h11 : a = 11
    · subst h11
      rw [cXk_11, cXk_11] <;> rfl
    by_cases h12 : a = 12
    · subst h12
      rw [cXk_12, cXk_12] <;> rfl
    by_cases h13 : a = 13
    · subst h13
      rw [cXk_13, cXk_13] <;> rfl
    by_cases h14 : a = 14
    · subst h14
      rw [cXk_14, cXk_14] <;> rfl
    by_cases h20 : a = 20
    · subst h20
      have hb : b ≠ i := fun z => hk (by rw [z])
      show (if b < nG (up2 μ.1 14 i v, μ.2) then some (Sum.inr (0, fG lay (up2 μ.1 14 i v, μ.2) b) : xE) else none) = (if b < nG μ then some (Sum.inr (0, fG lay μ b) : xE) else none)
      rw [show fG lay (up2 μ.1 14 i v, μ.2) b = fG lay μ b from funext fun j => by unfold fG; split <;> first | rfl | simp [up2, hb]] <;> rfl
    by_cases h30 : a = 30
    · subst h30
      rw [cXk_30, cXk_30] <;> rfl
    by_cases h31 : a = 31
    · subst h31
      rw [cXk_31, cXk_31] <;> rfl
    rw [cX_r h0 h1 h2 h3 h4 h5 h6 h7 h10 h11 h12 h13 h14 h20 h30 h31, cX_r h0 h1 h2 h3 h4 h5 h6 h7 h10 h11 h12 h13 h14 h20 h30 h31]
set_option maxRecDepth 100000 in
set_option maxHeartbeats 60000 in
theorem cw_T8 {Z : xZ} {lay : xK → Nat} {μ : Mu} {tb : Tb} {r : xK → Option xE} {i : Nat} (h : i < nT μ) {v : Int32} : ∀ y9, cX Z lay (up2 μ.1 23 i v, μ.2) tb r y9 = xup (cX Z lay μ tb r) (30, i) (.inr (3, updV (fT lay μ i) 8 (.int v))) y9 := by
  rintro ⟨a, b⟩
  by_cases hk : (a, b) = ((30, i) : xK)
  · rw [xup, if_pos hk]
    obtain ⟨rfl, rfl⟩ := Prod.mk.inj hk
    show (if b < nT (up2 μ.1 23 b v, μ.2) then some (Sum.inr (3, fT lay (up2 μ.1 23 b v, μ.2) b) : xE) else none) = _
    refine Eq.trans (if_pos h) ?_
    refine congrArg (fun f => some (Sum.inr (3, f) : xE)) (funext fun j => ?_)
    unfold updV
    by_cases hj : j = 8
    · subst hj; simp [fT, up2]
    · rw [if_neg hj]
      unfold fT
      split <;> first | rfl | exact absurd rfl hj | simp [up2]
  · rw [xup, if_neg hk]
    by_cases h0 : a = 0
    · subst h0
      rw [cXk_0, cXk_0] <;> rfl
    by_cases h1 : a = 1
    · subst h1
      rw [cXk_1, cXk_1] <;> rfl
    by_cases h2 : a = 2
    · subst h2
      rw [cXk_2, cXk_2] <;> rfl
    by_cases h3 : a = 3
    · subst h3
      rw [cXk_3, cXk_3] <;> rfl
    by_cases h4 : a = 4
    · subst h4
      rw [cXk_4, cXk_4] <;> rfl
    by_cases h5 : a = 5
    · subst h5
      rw [cXk_5, cXk_5] <;> rfl
    by_cases h6 : a = 6
    · subst h6
      rw [cXk_6, cXk_6] <;> rfl
    by_cases h7 : a = 7
    · subst h7
      rw [cXk_7, cXk_7] <;> rfl
    by_cases h10 : a = 10
    · subst h10
      rw [cXk_10, cXk_10] <;> rfl
    by_cases h11 : a = 11
    · subst h11
      rw [cXk_11, cXk_11] <;> rfl
    by_cases h12 : a = 12
    · subst h12
      rw [cXk_12, cXk_12] <;> rfl
    by_cases h13 : a = 13
    · subst h13
      rw [cXk_13, cXk_13] <;> rfl
    by_cases h14 : a = 14
    · subst h14
      rw [cXk_14, cXk_14] <;> rfl
    by_cases h20 : a = 20
    · subst h20
      rw [cXk_20, cXk_20] <;> rfl
    by_cases h30 : a = 30
    · subst h30
      have hb : b ≠ i := fun z => hk (by rw [z])
      show (if b < nT (up2 μ.1 23 i v, μ.2) then some (Sum.inr (3, fT lay (up2 μ.1 23 i v, μ.2) b) : xE) else none) = (if b < nT μ then some (Sum.inr (3, fT lay μ b) : xE) else none)
      rw [show fT lay (up2 μ.1 23 i v, μ.2) b = fT lay μ b from funext fun j => by unfold fT; split <;> first | rfl | simp [up2, hb]] <;> rfl
    by_cases h31 : a = 31
    · subst h31
      rw [cXk_31, cXk_31] <;> rfl
    rw [cX_r h0 h1 h2 h3 h4 h5 h6 h7 h10 h11 h12 h13 h14 h20 h30 h31, cX_r h0 h1 h2 h3 h4 h5 h6 h7 h10 h11 h12 h13 h14 h20 h30 h31]
set_option maxRecDepth 100000 in
set_option maxHeartbeats 60000 in
theorem cw_T9 {Z : xZ} {lay : xK → Nat} {μ : Mu} {tb : Tb} {r : xK → Option xE} {i : Nat} (h : i < nT μ) {v : Int32} : ∀ y9, cX Z lay (up2 μ.1 26 i v, μ.2) tb r y9 = xup (cX Z lay μ tb r) (30, i) (.inr (3, updV (fT lay μ i) 9 (.int v))) y9 := by
  rintro ⟨a, b⟩
  by_cases hk : (a, b) = ((30, i) : xK)
  · rw [xup, if_pos hk]
    obtain ⟨rfl, rfl⟩ := Prod.mk.inj hk
    show (if b < nT (up2 μ.1 26 b v, μ.2) then some (Sum.inr (3, fT lay (up2 μ.1 26 b v, μ.2) b) : xE) else none) = _
    refine Eq.trans (if_pos h) ?_
    refine congrArg (fun f => some (Sum.inr (3, f) : xE)) (funext fun j => ?_)
    unfold updV
    by_cases hj : j = 9
    · subst hj; simp [fT, up2]
    · rw [if_neg hj]
      unfold fT
      split <;> first | rfl | exact absurd rfl hj | simp [up2]
  · rw [xup, if_neg hk]
    by_cases h0 : a = 0
    · subst h0
      rw [cXk_0, cXk_0] <;> rfl
    by_cases h1 : a = 1
    · subst h1
      rw [cXk_1, cXk_1] <;> rfl
    by_cases h2 : a = 2
    · subst h2
      rw [cXk_2, cXk_2] <;> rfl
    by_cases h3 : a = 3
    · subst h3
      rw [cXk_3, cXk_3] <;> rfl
    by_cases h4 : a = 4
    · subst h4
      rw [cXk_4, cXk_4] <;> rfl
    by_cases h5 : a = 5
    · subst h5
      rw [cXk_5, cXk_5] <;> rfl
    by_cases h6 : a = 6
    · subst h6
      rw [cXk_6, cXk_6] <;> rfl
    by_cases h7 : a = 7
    · subst h7
      rw [cXk_7, cXk_7] <;> rfl
    by_cases h10 : a = 10
    · subst h10
      rw [cXk_10, cXk_10] <;> rfl
    by_cases h11 : a = 11
    · subst h11
      rw [cXk_11, cXk_11] <;> rfl
    by_cases h12 : a = 12
    · subst h12
      rw [cXk_12, cXk_12] <;> rfl
    by_cases h13 : a = 13
    · subst h13
      rw [cXk_13, cXk_13] <;> rfl
    by_cases h14 : a = 14
    · subst h14
      rw [cXk_14, cXk_14] <;> rfl
    by_cases h20 : a = 20
    · subst h20
      rw [cXk_20, cXk_20] <;> rfl
    by_cases h30 : a = 30
    · subst h30
      have hb : b ≠ i := fun z => hk (by rw [z])
      show (if b < nT (up2 μ.1 26 i v, μ.2) then some (Sum.inr (3, fT lay (up2 μ.1 26 i v, μ.2) b) : xE) else none) = (if b < nT μ then some (Sum.inr (3, fT lay μ b) : xE) else none)
      rw [show fT lay (up2 μ.1 26 i v, μ.2) b = fT lay μ b from funext fun j => by unfold fT; split <;> first | rfl | simp [up2, hb]] <;> rfl
    by_cases h31 : a = 31
    · subst h31
      rw [cXk_31, cXk_31] <;> rfl
    rw [cX_r h0 h1 h2 h3 h4 h5 h6 h7 h10 h11 h12 h13 h14 h20 h30 h31, cX_r h0 h1 h2 h3 h4 h5 h6 h7 h10 h11 h12 h13 h14 h20 h30 h31]
set_option maxRecDepth 100000 in
set_option maxHeartbeats 60000 in
theorem cw_T10 {Z : xZ} {lay : xK → Nat} {μ : Mu} {tb : Tb} {r : xK → Option xE} {i : Nat} (h : i < nT μ) {v : Int32} : ∀ y9, cX Z lay (up2 μ.1 28 i v, μ.2) tb r y9 = xup (cX Z lay μ tb r) (30, i) (.inr (3, updV (fT lay μ i) 10 (.int v))) y9 := by
  rintro ⟨a, b⟩
  by_cases hk : (a, b) = ((30, i) : xK)
  · rw [xup, if_pos hk]
    obtain ⟨rfl, rfl⟩ := Prod.mk.inj hk
    show (if b < nT (up2 μ.1 28 b v, μ.2) then some (Sum.inr (3, fT lay (up2 μ.1 28 b v, μ.2) b) : xE) else none) = _
    refine Eq.trans (if_pos h) ?_
    refine congrArg (fun f => some (Sum.inr (3, f) : xE)) (funext fun j => ?_)
    unfold updV
    by_cases hj : j = 10
    · subst hj; simp [fT, up2]
    · rw [if_neg hj]
      unfold fT
      split <;> first | rfl | exact absurd rfl hj | simp [up2]
  · rw [xup, if_neg hk]
    by_cases h0 : a = 0
    · subst h0
      rw [cXk_0, cXk_0] <;> rfl
    by_cases h1 : a = 1
    · subst h1
      rw [cXk_1, cXk_1] <;> rfl
    by_cases h2 : a = 2
    · subst h2
      rw [cXk_2, cXk_2] <;> rfl
    by_cases h3 : a = 3
    · subst h3
      rw [cXk_3, cXk_3] <;> rfl
    by_cases h4 : a = 4
    · subst h4
      rw [cXk_4, cXk_4] <;> rfl
    by_cases h5 : a = 5
    · subst h5
      rw [cXk_5, cXk_5] <;> rfl
    by_cases h6 : a = 6
    · subst h6
      rw [cXk_6, cXk_6] <;> rfl
    by_cases h7 : a = 7
    · subst h7
      rw [cXk_7, cXk_7] <;> rfl
    by_cases h10 : a = 10
    · subst h10
      rw [cXk_10, cXk_10] <;> rfl
    by_cases h11 : a = 11
    · subst h11
      rw [cXk_11, cXk_11] <;> rfl
    by_cases h12 : a = 12
    · subst h12
      rw [cXk_12, cXk_12] <;> rfl
    by_cases h13 : a = 13
    · subst h13
      rw [cXk_13, cXk_13] <;> rfl
    by_cases h14 : a = 14
    · subst h14
      rw [cXk_14, cXk_14] <;> rfl
    by_cases h20 : a = 20
    · subst h20
      rw [cXk_20, cXk_20] <;> rfl
    by_cases h30 : a = 30
    · subst h30
      have hb : b ≠ i := fun z => hk (by rw [z])
      show (if b < nT (up2 μ.1 28 i v, μ.2) then some (Sum.inr (3, fT lay (up2 μ.1 28 i v, μ.2) b) : xE) else none) = (if b < nT μ then some (Sum.inr (3, fT lay μ b) : xE) else none)
      rw [show fT lay (up2 μ.1 28 i v, μ.2) b = fT lay μ b from funext fun j => by unfold fT; split <;> first | rfl | simp [up2, hb]] <;> rfl
    by_cases h31 : a = 31
    · subst h31
      rw [cXk_31, cXk_31] <;> rfl
    rw [cX_r h0 h1 h2 h3 h4 h5 h6 h7 h10 h11 h12 h13 h14 h20 h30 h31, cX_r h0 h1 h2 h3 h4 h5 h6 h7 h10 h11 h12 h13 h14 h20 h30 h31]
set_option maxRecDepth 100000 in
set_option maxHeartbeats 60000 in
theorem cw_T11 {Z : xZ} {lay : xK → Nat} {μ : Mu} {tb : Tb} {r : xK → Option xE} {i : Nat} (h : i < nT μ) {v : Int32} : ∀ y9, cX Z lay (up2 μ.1 27 i v, μ.2) tb r y9 = xup (cX Z lay μ tb r) (30, i) (.inr (3, updV (fT lay μ i) 11 (.int v))) y9 := by
  rintro ⟨a, b⟩
  by_cases hk : (a, b) = ((30, i) : xK)
  · rw [xup, if_pos hk]
    obtain ⟨rfl, rfl⟩ := Prod.mk.inj hk
    show (if b < nT (up2 μ.1 27 b v, μ.2) then some (Sum.inr (3, fT lay (up2 μ.1 27 b v, μ.2) b) : xE) else none) = _
    refine Eq.trans (if_pos h) ?_
    refine congrArg (fun f => some (Sum.inr (3, f) : xE)) (funext fun j => ?_)
    unfold updV
    by_cases hj : j = 11
    · subst hj; simp [fT, up2]
    · rw [if_neg hj]
      unfold fT
      split <;> first | rfl | exact absurd rfl hj | simp [up2]
  · rw [xup, if_neg hk]
    by_cases h0 : a = 0
    · subst h0
      rw [cXk_0, cXk_0] <;> rfl
    by_cases h1 : a = 1
    · subst h1
      rw [cXk_1, cXk_1] <;> rfl
    by_cases h2 : a = 2
    · subst h2
      rw [cXk_2, cXk_2] <;> rfl
    by_cases h3 : a = 3
    · subst h3
      rw [cXk_3, cXk_3] <;> rfl
    by_cases h4 : a = 4
    · subst h4
      rw [cXk_4, cXk_4] <;> rfl
    by_cases h5 : a = 5
    · subst h5
      rw [cXk_5, cXk_5] <;> rfl
    by_cases h6 : a = 6
    · subst h6
      rw [cXk_6, cXk_6] <;> rfl
    by_cases h7 : a = 7
    · subst h7
      rw [cXk_7, cXk_7] <;> rfl
    by_cases h10 : a = 10
    · subst h10
      rw [cXk_10, cXk_10] <;> rfl
    by_cases h11 : a = 11
    · subst h11
      rw [cXk_11, cXk_11] <;> rfl
    by_cases h12 : a = 12
    · subst h12
      rw [cXk_12, cXk_12] <;> rfl
    by_cases h13 : a = 13
    · subst h13
      rw [cXk_13, cXk_13] <;> rfl
    by_cases h14 : a = 14
    · subst h14
      rw [cXk_14, cXk_14] <;> rfl
    by_cases h20 : a = 20
    · subst h20
      rw [cXk_20, cXk_20] <;> rfl
    by_cases h30 : a = 30
    · subst h30
      have hb : b ≠ i := fun z => hk (by rw [z])
      show (if b < nT (up2 μ.1 27 i v, μ.2) then some (Sum.inr (3, fT lay (up2 μ.1 27 i v, μ.2) b) : xE) else none) = (if b < nT μ then some (Sum.inr (3, fT lay μ b) : xE) else none)
      rw [show fT lay (up2 μ.1 27 i v, μ.2) b = fT lay μ b from funext fun j => by unfold fT; split <;> first | rfl | simp [up2, hb]] <;> rfl
    by_cases h31 : a = 31
    · subst h31
      rw [cXk_31, cXk_31] <;> rfl
    rw [cX_r h0 h1 h2 h3 h4 h5 h6 h7 h10 h11 h12 h13 h14 h20 h30 h31, cX_r h0 h1 h2 h3 h4 h5 h6 h7 h10 h11 h12 h13 h14 h20 h30 h31]
set_option maxRecDepth 100000 in
set_option maxHeartbeats 60000 in
theorem cw_T12 {Z : xZ} {lay : xK → Nat} {μ : Mu} {tb : Tb} {r : xK → Option xE} {i : Nat} (h : i < nT μ) {v : Int32} : ∀ y9, cX Z lay (up2 μ.1 29 i v, μ.2) tb r y9 = xup (cX Z lay μ tb r) (30, i) (.inr (3, updV (fT lay μ i) 12 (.int v))) y9 := by
  rintro ⟨a, b⟩
  by_cases hk : (a, b) = ((30, i) : xK)
  · rw [xup, if_pos hk]
    obtain ⟨rfl, rfl⟩ := Prod.mk.inj hk
    show (if b < nT (up2 μ.1 29 b v, μ.2) then some (Sum.inr (3, fT lay (up2 μ.1 29 b v, μ.2) b) : xE) else none) = _
    refine Eq.trans (if_pos h) ?_
    refine congrArg (fun f => some (Sum.inr (3, f) : xE)) (funext fun j => ?_)
    unfold updV
    by_cases hj : j = 12
    · subst hj; simp [fT, up2]
    · rw [if_neg hj]
      unfold fT
      split <;> first | rfl | exact absurd rfl hj | simp [up2]
  · rw [xup, if_neg hk]
    by_cases h0 : a = 0
    · subst h0
      rw [cXk_0, cXk_0] <;> rfl
    by_cases h1 : a = 1
    · subst h1
      rw [cXk_1, cXk_1] <;> rfl
    by_cases h2 : a = 2
    · subst h2
      rw [cXk_2, cXk_2] <;> rfl
    by_cases h3 : a = 3
    · subst h3
      rw [cXk_3, cXk_3] <;> rfl
    by_cases h4 : a = 4
    · subst h4
      rw [cXk_4, cXk_4] <;> rfl
    by_cases h5 : a = 5
    · subst h5
      rw [cXk_5, cXk_5] <;> rfl
    by_cases h6 : a = 6
    · subst h6
      rw [cXk_6, cXk_6] <;> rfl
    by_cases h7 : a = 7
    · subst h7
      rw [cXk_7, cXk_7] <;> rfl
    by_cases h10 : a = 10
    · subst h10
      rw [cXk_10, cXk_10] <;> rfl
    by_cases h11 : a = 11
    · subst h11
      rw [cXk_11, cXk_11] <;> rfl
    by_cases h12 : a = 12
    · subst h12
      rw [cXk_12, cXk_12] <;> rfl
    by_cases h13 : a = 13
    · subst h13
      rw [cXk_13, cXk_13] <;> rfl
    by_cases h14 : a = 14
    · subst h14
      rw [cXk_14, cXk_14] <;> rfl
    by_cases h20 : a = 20
    · subst h20
      rw [cXk_20, cXk_20] <;> rfl
    by_cases h30 : a = 30
    · subst h30
      have hb : b ≠ i := fun z => hk (by rw [z])
      show (if b < nT (up2 μ.1 29 i v, μ.2) then some (Sum.inr (3, fT lay (up2 μ.1 29 i v, μ.2) b) : xE) else none) = (if b < nT μ then some (Sum.inr (3, fT lay μ b) : xE) else none)
      rw [show fT lay (up2 μ.1 29 i v, μ.2) b = fT lay μ b from funext fun j => by unfold fT; split <;> first | rfl | simp [up2, hb]] <;> rfl
    by_cases h31 : a = 31
    · subst h31
      rw [cXk_31, cXk_31] <;> rfl
    rw [cX_r h0 h1 h2 h3 h4 h5 h6 h7 h10 h11 h12 h13 h14 h20 h30 h31, cX_r h0 h1 h2 h3 h4 h5 h6 h7 h10 h11 h12 h13 h14 h20 h30 h31]
set_option maxRecDepth 100000 in
set_option maxHeartbeats 60000 in
theorem cw_T14 {Z : xZ} {lay : xK → Nat} {μ : Mu} {tb : Tb} {r : xK → Option xE} {i : Nat} (h : i < nT μ) {v : Int32} : ∀ y9, cX Z lay (up2 μ.1 35 i v, μ.2) tb r y9 = xup (cX Z lay μ tb r) (30, i) (.inr (3, updV (fT lay μ i) 14 (.int v))) y9 := by
  rintro ⟨a, b⟩
  by_cases hk : (a, b) = ((30, i) : xK)
  · rw [xup, if_pos hk]
    obtain ⟨rfl, rfl⟩ := Prod.mk.inj hk
    show (if b < nT (up2 μ.1 35 b v, μ.2) then some (Sum.inr (3, fT lay (up2 μ.1 35 b v, μ.2) b) : xE) else none) = _
    refine Eq.trans (if_pos h) ?_
    refine congrArg (fun f => some (Sum.inr (3, f) : xE)) (funext fun j => ?_)
    unfold updV
    by_cases hj : j = 14
    · subst hj; simp [fT, up2]
    · rw [if_neg hj]
      unfold fT
      split <;> first | rfl | exact absurd rfl hj | simp [up2]
  · rw [xup, if_neg hk]
    by_cases h0 : a = 0
    · subst h0
      rw [cXk_0, cXk_0] <;> rfl
    by_cases h1 : a = 1
    · subst h1
      rw [cXk_1, cXk_1] <;> rfl
    by_cases h2 : a = 2
    · subst h2
      rw [cXk_2, cXk_2] <;> rfl
    by_cases h3 : a = 3
    · subst h3
      rw [cXk_3, cXk_3] <;> rfl
    by_cases h4 : a = 4
    · subst h4
      rw [cXk_4, cXk_4] <;> rfl
    by_cases h5 : a = 5
    · subst h5
      rw [cXk_5, cXk_5] <;> rfl
    by_cases h6 : a = 6
    · subst h6
      rw [cXk_6, cXk_6] <;> rfl
    by_cases h7 : a = 7
    · subst h7
      rw [cXk_7, cXk_7] <;> rfl
    by_cases h10 : a = 10
    · subst h10
      rw [cXk_10, cXk_10] <;> rfl
    by_cases h11 : a = 11
    · subst h11
      rw [cXk_11, cXk_11] <;> rfl
    by_cases h12 : a = 12
    · subst h12
      rw [cXk_12, cXk_12] <;> rfl
    by_cases h13 : a = 13
    · subst h13
      rw [cXk_13, cXk_13] <;> rfl
    by_cases h14 : a = 14
    · subst h14
      rw [cXk_14, cXk_14] <;> rfl
    by_cases h20 : a = 20
    · subst h20
      rw [cXk_20, cXk_20] <;> rfl
    by_cases h30 : a = 30
    · subst h30
      have hb : b ≠ i := fun z => hk (by rw [z])
      show (if b < nT (up2 μ.1 35 i v, μ.2) then some (Sum.inr (3, fT lay (up2 μ.1 35 i v, μ.2) b) : xE) else none) = (if b < nT μ then some (Sum.inr (3, fT lay μ b) : xE) else none)
      rw [show fT lay (up2 μ.1 35 i v, μ.2) b = fT lay μ b from funext fun j => by unfold fT; split <;> first | rfl | simp [up2, hb]] <;> rfl
    by_cases h31 : a = 31
    · subst h31
      rw [cXk_31, cXk_31] <;> rfl
    rw [cX_r h0 h1 h2 h3 h4 h5 h6 h7 h10 h11 h12 h13 h14 h20 h30 h31, cX_r h0 h1 h2 h3 h4 h5 h6 h7 h10 h11 h12 h13 h14 h20 h30 h31]
set_option maxRecDepth 100000 in
set_option maxHeartbeats 60000 in
theorem cw_T5 {Z : xZ} {lay : xK → Nat} {μ : Mu} {tb : Tb} {r : xK → Option xE} {i : Nat} (h : i < nT μ) {v : Int32} : ∀ y9, cX Z lay (up2 μ.1 19 i v, μ.2) tb r y9 = xup (cX Z lay μ tb r) (30, i) (.inr (3, updV (fT lay μ i) 5 (.ref (lay (10, ix v))))) y9 := by
  rintro ⟨a, b⟩
  by_cases hk : (a, b) = ((30, i) : xK)
  · rw [xup, if_pos hk]
    obtain ⟨rfl, rfl⟩ := Prod.mk.inj hk
    show (if b < nT (up2 μ.1 19 b v, μ.2) then some (Sum.inr (3, fT lay (up2 μ.1 19 b v, μ.2) b) : xE) else none) = _
    refine Eq.trans (if_pos h) ?_
    refine congrArg (fun f => some (Sum.inr (3, f) : xE)) (funext fun j => ?_)
    unfold updV
    by_cases hj : j = 5
    · subst hj; simp [fT, up2]
    · rw [if_neg hj]
      unfold fT
      split <;> first | exact absurd rfl hj | (simp [up2]; done) | rfl
  · rw [xup, if_neg hk]
    by_cases h0 : a = 0
    · subst h0
      rw [cXk_0, cXk_0] <;> rfl
    by_cases h1 : a = 1
    · subst h1
      rw [cXk_1, cXk_1] <;> rfl
    by_cases h2 : a = 2
    · subst h2
      rw [cXk_2, cXk_2] <;> rfl
    by_cases h3 : a = 3
    · subst h3
      rw [cXk_3, cXk_3] <;> rfl
    by_cases h4 : a = 4
    · subst h4
      rw [cXk_4, cXk_4] <;> rfl
    by_cases h5 : a = 5
    · subst h5
      rw [cXk_5, cXk_5] <;> rfl
    by_cases h6 : a = 6
    · subst h6
      rw [cXk_6, cXk_6] <;> rfl
    by_cases h7 : a = 7
    · subst h7
      rw [cXk_7, cXk_7] <;> rfl
    by_cases h10 : a = 10
    · subst h10
      rw [cXk_10, cXk_10] <;> rfl
    by_cases h11 : a = 11
    · subst h11
      rw [cXk_11, cXk_11] <;> rfl
    by_cases h12 : a = 12
    · subst h12
      rw [cXk_12, cXk_12] <;> rfl
    by_cases h13 : a = 13
    · subst h13
      rw [cXk_13, cXk_13] <;> rfl
    by_cases h14 : a = 14
    · subst h14
      rw [cXk_14, cXk_14] <;> rfl
    by_cases h20 : a = 20
    · subst h20
      rw [cXk_20, cXk_20] <;> rfl
    by_cases h30 : a = 30
    · subst h30
      have hb : b ≠ i := fun z => hk (by rw [z])
      show (if b < nT (up2 μ.1 19 i v, μ.2) then some (Sum.inr (3, fT lay (up2 μ.1 19 i v, μ.2) b) : xE) else none) = (if b < nT μ then some (Sum.inr (3, fT lay μ b) : xE) else none)
      rw [show fT lay (up2 μ.1 19 i v, μ.2) b = fT lay μ b from funext fun j => by unfold fT; split <;> first | (simp [up2, hb]; done) | rfl] <;> rfl
    by_cases h31 : a = 31
    · subst h31
      rw [cXk_31, cXk_31] <;> rfl
    rw [cX_r h0 h1 h2 h3 h4 h5 h6 h7 h10 h11 h12 h13 h14 h20 h30 h31, cX_r h0 h1 h2 h3 h4 h5 h6 h7 h10 h11 h12 h13 h14 h20 h30 h31]
set_option maxRecDepth 100000 in
set_option maxHeartbeats 60000 in
theorem cw_T6 {Z : xZ} {lay : xK → Nat} {μ : Mu} {tb : Tb} {r : xK → Option xE} {i : Nat} (h : i < nT μ) {v : Int32} : ∀ y9, cX Z lay (up2 μ.1 24 i v, μ.2) tb r y9 = xup (cX Z lay μ tb r) (30, i) (.inr (3, updV (fT lay μ i) 6 (.ref (lay (10, ix v))))) y9 := by
  rintro ⟨a, b⟩
  by_cases hk : (a, b) = ((30, i) : xK)
  · rw [xup, if_pos hk]
    obtain ⟨rfl, rfl⟩ := Prod.mk.inj hk
    show (if b < nT (up2 μ.1 24 b v, μ.2) then some (Sum.inr (3, fT lay (up2 μ.1 24 b v, μ.2) b) : xE) else none) = _
    refine Eq.trans (if_pos h) ?_
    refine congrArg (fun f => some (Sum.inr (3, f) : xE)) (funext fun j => ?_)
    unfold updV
    by_cases hj : j = 6
    · subst hj; simp [fT, up2]
    · rw [if_neg hj]
      unfold fT
      split <;> first | exact absurd rfl hj | (simp [up2]; done) | rfl
  · rw [xup, if_neg hk]
    by_cases h0 : a = 0
    · subst h0
      rw [cXk_0, cXk_0] <;> rfl
    by_cases h1 : a = 1
    · subst h1
      rw [cXk_1, cXk_1] <;> rfl
    by_cases h2 : a = 2
    · subst h2
      rw [cXk_2, cXk_2] <;> rfl
    by_cases h3 : a = 3
    · subst h3
      rw [cXk_3, cXk_3] <;> rfl
    by_cases h4 : a = 4
    · subst h4
      rw [cXk_4, cXk_4] <;> rfl
    by_cases h5 : a = 5
    · subst h5
      rw [cXk_5, cXk_5] <;> rfl
    by_cases h6 : a = 6
    · subst h6
      rw [cXk_6, cXk_6] <;> rfl
    by_cases h7 : a = 7
    · subst h7
      rw [cXk_7, cXk_7] <;> rfl
    by_cases h10 : a = 10
    · subst h10
      rw [cXk_10, cXk_10] <;> rfl
    by_cases h11 : a = 11
    · subst h11
      rw [cXk_11, cXk_11] <;> rfl
    by_cases h12 : a = 12
    · subst h12
      rw [cXk_12, cXk_12] <;> rfl
    by_cases h13 : a = 13
    · subst h13
      rw [cXk_13, cXk_13] <;> rfl
    by_cases h14 : a = 14
    · subst h14
      rw [cXk_14, cXk_14] <;> rfl
    by_cases h20 : a = 20
    · subst h20
      rw [cXk_20, cXk_20] <;> rfl
    by_cases h30 : a = 30
    · subst h30
      have hb : b ≠ i := fun z => hk (by rw [z])
      show (if b < nT (up2 μ.1 24 i v, μ.2) then some (Sum.inr (3, fT lay (up2 μ.1 24 i v, μ.2) b) : xE) else none) = (if b < nT μ then some (Sum.inr (3, fT lay μ b) : xE) else none)
      rw [show fT lay (up2 μ.1 24 i v, μ.2) b = fT lay μ b from funext fun j => by unfold fT; split <;> first | (simp [up2, hb]; done) | rfl] <;> rfl
    by_cases h31 : a = 31
    · subst h31
      rw [cXk_31, cXk_31] <;> rfl
    rw [cX_r h0 h1 h2 h3 h4 h5 h6 h7 h10 h11 h12 h13 h14 h20 h30 h31, cX_r h0 h1 h2 h3 h4 h5 h6 h7 h10 h11 h12 h13 h14 h20 h30 h31]
set_option maxRecDepth 100000 in
set_option maxHeartbeats 60000 in
theorem cw_T7 {Z : xZ} {lay : xK → Nat} {μ : Mu} {tb : Tb} {r : xK → Option xE} {i : Nat} (h : i < nT μ) {v : Int32} : ∀ y9, cX Z lay (up2 μ.1 25 i v, μ.2) tb r y9 = xup (cX Z lay μ tb r) (30, i) (.inr (3, updV (fT lay μ i) 7 (tLeg lay v))) y9 := by
  rintro ⟨a, b⟩
  by_cases hk : (a, b) = ((30, i) : xK)
  · rw [xup, if_pos hk]
    obtain ⟨rfl, rfl⟩ := Prod.mk.inj hk
    show (if b < nT (up2 μ.1 25 b v, μ.2) then some (Sum.inr (3, fT lay (up2 μ.1 25 b v, μ.2) b) : xE) else none) = _
    refine Eq.trans (if_pos h) ?_
    refine congrArg (fun f => some (Sum.inr (3, f) : xE)) (funext fun j => ?_)
    unfold updV
    by_cases hj : j = 7
    · subst hj; simp [fT, up2]
    · rw [if_neg hj]
      unfold fT
      split <;> first | exact absurd rfl hj | (simp [up2]; done) | rfl
  · rw [xup, if_neg hk]
    by_cases h0 : a = 0
    · subst h0
      rw [cXk_0, cXk_0] <;> rfl
    by_cases h1 : a = 1
    · subst h1
      rw [cXk_1, cXk_1] <;> rfl
    by_cases h2 : a = 2
    · subst h2
      rw [cXk_2, cXk_2] <;> rfl
    by_cases h3 : a = 3
    · subst h3
      rw [cXk_3, cXk_3] <;> rfl
    by_cases h4 : a = 4
    · subst h4
      rw [cXk_4, cXk_4] <;> rfl
    by_cases h5 : a = 5
    · subst h5
      rw [cXk_5, cXk_5] <;> rfl
    by_cases h6 : a = 6
    · subst h6
      rw [cXk_6, cXk_6] <;> rfl
    by_cases h7 : a = 7
    · subst h7
      rw [cXk_7, cXk_7] <;> rfl
    by_cases h10 : a = 10
    · subst h10
      rw [cXk_10, cXk_10] <;> rfl
    by_cases h11 : a = 11
    · subst h11
      rw [cXk_11, cXk_11] <;> rfl
    by_cases h12 : a = 12
    · subst h12
      rw [cXk_12, cXk_12] <;> rfl
    by_cases h13 : a = 13
    · subst h13
      rw [cXk_13, cXk_13] <;> rfl
    by_cases h14 : a = 14
    · subst h14
      rw [cXk_14, cXk_14] <;> rfl
    by_cases h20 : a = 20
    · subst h20
      rw [cXk_20, cXk_20] <;> rfl
    by_cases h30 : a = 30
    · subst h30
      have hb : b ≠ i := fun z => hk (by rw [z])
      show (if b < nT (up2 μ.1 25 i v, μ.2) then some (Sum.inr (3, fT lay (up2 μ.1 25 i v, μ.2) b) : xE) else none) = (if b < nT μ then some (Sum.inr (3, fT lay μ b) : xE) else none)
      rw [show fT lay (up2 μ.1 25 i v, μ.2) b = fT lay μ b from funext fun j => by unfold fT; split <;> first | (simp [up2, hb]; done) | rfl] <;> rfl
    by_cases h31 : a = 31
    · subst h31
      rw [cXk_31, cXk_31] <;> rfl
    rw [cX_r h0 h1 h2 h3 h4 h5 h6 h7 h10 h11 h12 h13 h14 h20 h30 h31, cX_r h0 h1 h2 h3 h4 h5 h6 h7 h10 h11 h12 h13 h14 h20 h30 h31]
set_option maxRecDepth 100000 in
set_option maxHeartbeats 60000 in
theorem cw_r1 {Z : xZ} {lay : xK → Nat} {μ : Mu} {tb : Tb} {r : xK → Option xE} {i k : Nat} (h : i < nP μ) (hk3 : k < 3) {v : Int32} : ∀ y9, cX Z lay (up2 μ.1 1 (3 * i + k) v, μ.2) tb r y9 = xup (cX Z lay μ tb r) (11, i) (.inl (Z.2 0, 3, .inl (upd (row3 μ.1 1 i) k v))) y9 := by
  rintro ⟨a, b⟩
  by_cases hk : (a, b) = ((11, i) : xK)
  · rw [xup, if_pos hk]
    obtain ⟨rfl, rfl⟩ := Prod.mk.inj hk
    show (if b < nP (up2 μ.1 1 (3 * b + k) v, μ.2) then some (aI Z 3 (row3 (up2 μ.1 1 (3 * b + k) v, μ.2).1 1 b)) else none) = _
    refine Eq.trans (if_pos h) ?_
    refine congrArg (fun f => some (aI Z 3 f)) (funext fun j => ?_)
    by_cases hj : j = k
    · subst hj; simp [row3, up2, upd, hk3]
    · simp [row3, up2, upd, hj]
  · rw [xup, if_neg hk]
    by_cases h0 : a = 0
    · subst h0
      rw [cXk_0, cXk_0] <;> rfl
    by_cases h1 : a = 1
    · subst h1
      rw [cXk_1, cXk_1] <;> rfl
    by_cases h2 : a = 2
    · subst h2
      rw [cXk_2, cXk_2] <;> rfl
    by_cases h3 : a = 3
    · subst h3
      rw [cXk_3, cXk_3] <;> rfl
    by_cases h4 : a = 4
    · subst h4
      rw [cXk_4, cXk_4] <;> rfl
    by_cases h5 : a = 5
    · subst h5
      rw [cXk_5, cXk_5] <;> rfl
    by_cases h6 : a = 6
    · subst h6
      rw [cXk_6, cXk_6] <;> rfl
    by_cases h7 : a = 7
    · subst h7
      rw [cXk_7, cXk_7] <;> rfl
    by_cases h10 : a = 10
    · subst h10
      rw [cXk_10, cXk_10] <;> rfl
    by_cases h11 : a = 11
    · subst h11
      have hb : b ≠ i := fun z => hk (by rw [z])
      show (if b < nP (up2 μ.1 1 (3 * i + k) v, μ.2) then some (aI Z 3 (row3 (up2 μ.1 1 (3 * i + k) v, μ.2).1 1 b)) else none) = (if b < nP μ then some (aI Z 3 (row3 μ.1 1 b)) else none)
      rw [show row3 (up2 μ.1 1 (3 * i + k) v, μ.2).1 1 b = row3 μ.1 1 b from funext fun j => by
        unfold row3
        by_cases hj : j < 3
        · rw [if_pos hj, if_pos hj]; simp [up2]; omega
        · rw [if_neg hj, if_neg hj]] <;> rfl
    by_cases h12 : a = 12
    · subst h12
      rw [cXk_12, cXk_12] <;> rfl
    by_cases h13 : a = 13
    · subst h13
      rw [cXk_13, cXk_13] <;> rfl
    by_cases h14 : a = 14
    · subst h14
      rw [cXk_14, cXk_14] <;> rfl
    by_cases h20 : a = 20
    · subst h20
      rw [cXk_20, cXk_20] <;> rfl
    by_cases h30 : a = 30
    · subst h30
      rw [cXk_30, cXk_30] <;> rfl
    by_cases h31 : a = 31
    · subst h31
      rw [cXk_31, cXk_31] <;> rfl
    rw [cX_r h0 h1 h2 h3 h4 h5 h6 h7 h10 h11 h12 h13 h14 h20 h30 h31, cX_r h0 h1 h2 h3 h4 h5 h6 h7 h10 h11 h12 h13 h14 h20 h30 h31]
set_option maxRecDepth 100000 in
set_option maxHeartbeats 60000 in
theorem cw_r2 {Z : xZ} {lay : xK → Nat} {μ : Mu} {tb : Tb} {r : xK → Option xE} {i k : Nat} (h : i < nP μ) (hk3 : k < 3) {v : Int32} : ∀ y9, cX Z lay (up2 μ.1 2 (3 * i + k) v, μ.2) tb r y9 = xup (cX Z lay μ tb r) (12, i) (.inl (Z.2 0, 3, .inl (upd (row3 μ.1 2 i) k v))) y9 := by
  rintro ⟨a, b⟩
  by_cases hk : (a, b) = ((12, i) : xK)
  · rw [xup, if_pos hk]
    obtain ⟨rfl, rfl⟩ := Prod.mk.inj hk
    show (if b < nP (up2 μ.1 2 (3 * b + k) v, μ.2) then some (aI Z 3 (row3 (up2 μ.1 2 (3 * b + k) v, μ.2).1 2 b)) else none) = _
    refine Eq.trans (if_pos h) ?_
    refine congrArg (fun f => some (aI Z 3 f)) (funext fun j => ?_)
    by_cases hj : j = k
    · subst hj; simp [row3, up2, upd, hk3]
    · simp [row3, up2, upd, hj]
  · rw [xup, if_neg hk]
    by_cases h0 : a = 0
    · subst h0
      rw [cXk_0, cXk_0] <;> rfl
    by_cases h1 : a = 1
    · subst h1
      rw [cXk_1, cXk_1] <;> rfl
    by_cases h2 : a = 2
    · subst h2
      rw [cXk_2, cXk_2] <;> rfl
    by_cases h3 : a = 3
    · subst h3
      rw [cXk_3, cXk_3] <;> rfl
    by_cases h4 : a = 4
    · subst h4
      rw [cXk_4, cXk_4] <;> rfl
    by_cases h5 : a = 5
    · subst h5
      rw [cXk_5, cXk_5] <;> rfl
    by_cases h6 : a = 6
    · subst h6
      rw [cXk_6, cXk_6] <;> rfl
    by_cases h7 : a = 7
    · subst h7
      rw [cXk_7, cXk_7] <;> rfl
    by_cases h10 : a = 10
    · subst h10
      rw [cXk_10, cXk_10] <;> rfl
    by_cases h11 : a = 11
    · subst h11
      rw [cXk_11, cXk_11] <;> rfl
    by_cases h12 : a = 12
    · subst h12
      have hb : b ≠ i := fun z => hk (by rw [z])
      show (if b < nP (up2 μ.1 2 (3 * i + k) v, μ.2) then some (aI Z 3 (row3 (up2 μ.1 2 (3 * i + k) v, μ.2).1 2 b)) else none) = (if b < nP μ then some (aI Z 3 (row3 μ.1 2 b)) else none)
      rw [show row3 (up2 μ.1 2 (3 * i + k) v, μ.2).1 2 b = row3 μ.1 2 b from funext fun j => by
        unfold row3
        by_cases hj : j < 3
        · rw [if_pos hj, if_pos hj]; simp [up2]; omega
        · rw [if_neg hj, if_neg hj]] <;> rfl
    by_cases h13 : a = 13
    · subst h13
      rw [cXk_13, cXk_13] <;> rfl
    by_cases h14 : a = 14
    · subst h14
      rw [cXk_14, cXk_14] <;> rfl
    by_cases h20 : a = 20
    · subst h20
      rw [cXk_20, cXk_20] <;> rfl
    by_cases h30 : a = 30
    · subst h30
      rw [cXk_30, cXk_30] <;> rfl
    by_cases h31 : a = 31
    · subst h31
      rw [cXk_31, cXk_31] <;> rfl
    rw [cX_r h0 h1 h2 h3 h4 h5 h6 h7 h10 h11 h12 h13 h14 h20 h30 h31, cX_r h0 h1 h2 h3 h4 h5 h6 h7 h10 h11 h12 h13 h14 h20 h30 h31]
set_option maxRecDepth 100000 in
set_option maxHeartbeats 60000 in
theorem cw_r3 {Z : xZ} {lay : xK → Nat} {μ : Mu} {tb : Tb} {r : xK → Option xE} {i k : Nat} (h : i < nP μ) (hk3 : k < 3) {v : Int32} : ∀ y9, cX Z lay (up2 μ.1 3 (3 * i + k) v, μ.2) tb r y9 = xup (cX Z lay μ tb r) (13, i) (.inl (Z.2 0, 3, .inl (upd (row3 μ.1 3 i) k v))) y9 := by
  rintro ⟨a, b⟩
  by_cases hk : (a, b) = ((13, i) : xK)
  · rw [xup, if_pos hk]
    obtain ⟨rfl, rfl⟩ := Prod.mk.inj hk
    show (if b < nP (up2 μ.1 3 (3 * b + k) v, μ.2) then some (aI Z 3 (row3 (up2 μ.1 3 (3 * b + k) v, μ.2).1 3 b)) else none) = _
    refine Eq.trans (if_pos h) ?_
    refine congrArg (fun f => some (aI Z 3 f)) (funext fun j => ?_)
    by_cases hj : j = k
    · subst hj; simp [row3, up2, upd, hk3]
    · simp [row3, up2, upd, hj]
  · rw [xup, if_neg hk]
    by_cases h0 : a = 0
    · subst h0
      rw [cXk_0, cXk_0] <;> rfl
    by_cases h1 : a = 1
    · subst h1
      rw [cXk_1, cXk_1] <;> rfl
    by_cases h2 : a = 2
    · subst h2
      rw [cXk_2, cXk_2] <;> rfl
    by_cases h3 : a = 3
    · subst h3
      rw [cXk_3, cXk_3] <;> rfl
    by_cases h4 : a = 4
    · subst h4
      rw [cXk_4, cXk_4] <;> rfl
    by_cases h5 : a = 5
    · subst h5
      rw [cXk_5, cXk_5] <;> rfl
    by_cases h6 : a = 6
    · subst h6
      rw [cXk_6, cXk_6] <;> rfl
    by_cases h7 : a = 7
    · subst h7
      rw [cXk_7, cXk_7] <;> rfl
    by_cases h10 : a = 10
    · subst h10
      rw [cXk_10, cXk_10] <;> rfl
    by_cases h11 : a = 11
    · subst h11
      rw [cXk_11, cXk_11] <;> rfl
    by_cases h12 : a = 12
    · subst h12
      rw [cXk_12, cXk_12] <;> rfl
    by_cases h13 : a = 13
    · subst h13
      have hb : b ≠ i := fun z => hk (by rw [z])
      show (if b < nP (up2 μ.1 3 (3 * i + k) v, μ.2) then some (aI Z 3 (row3 (up2 μ.1 3 (3 * i + k) v, μ.2).1 3 b)) else none) = (if b < nP μ then some (aI Z 3 (row3 μ.1 3 b)) else none)
      rw [show row3 (up2 μ.1 3 (3 * i + k) v, μ.2).1 3 b = row3 μ.1 3 b from funext fun j => by
        unfold row3
        by_cases hj : j < 3
        · rw [if_pos hj, if_pos hj]; simp [up2]; omega
        · rw [if_neg hj, if_neg hj]] <;> rfl
    by_cases h14 : a = 14
    · subst h14
      rw [cXk_14, cXk_14] <;> rfl
    by_cases h20 : a = 20
    · subst h20
      rw [cXk_20, cXk_20] <;> rfl
    by_cases h30 : a = 30
    · subst h30
      rw [cXk_30, cXk_30] <;> rfl
    by_cases h31 : a = 31
    · subst h31
      rw [cXk_31, cXk_31] <;> rfl
    rw [cX_r h0 h1 h2 h3 h4 h5 h6 h7 h10 h11 h12 h13 h14 h20 h30 h31, cX_r h0 h1 h2 h3 h4 h5 h6 h7 h10 h11 h12 h13 h14 h20 h30 h31]
set_option maxRecDepth 100000 in
set_option maxHeartbeats 60000 in
theorem cw_c {Z : xZ} {lay : xK → Nat} {μ : Mu} {tb : Tb} {r : xK → Option xE} {i k : Nat} (h : i < nP μ) (hk8 : k < 8) {v : Int64} : ∀ y9, cX Z lay (μ.1, up2 μ.2 9 (8 * i + k) v) tb r y9 = xup (cX Z lay μ tb r) (14, i) (.inl (Z.2 1, 8, .inr (.inl (vp_updL (row8 μ.2 i) k v)))) y9 := by
  rintro ⟨a, b⟩
  by_cases hk : (a, b) = ((14, i) : xK)
  · rw [xup, if_pos hk]
    obtain ⟨rfl, rfl⟩ := Prod.mk.inj hk
    show (if b < nP (μ.1, up2 μ.2 9 (8 * b + k) v) then some (aL Z 8 (row8 (μ.1, up2 μ.2 9 (8 * b + k) v).2 b)) else none) = _
    refine Eq.trans (if_pos h) ?_
    refine congrArg (fun f => some (aL Z 8 f)) (funext fun j => ?_)
    by_cases hj : j = k
    · subst hj; simp [row8, up2, vp_updL, hk8]
    · simp [row8, up2, vp_updL, hj]
  · rw [xup, if_neg hk]
    by_cases h0 : a = 0
    · subst h0
      rw [cXk_0, cXk_0] <;> rfl
    by_cases h1 : a = 1
    · subst h1
      rw [cXk_1, cXk_1] <;> rfl
    by_cases h2 : a = 2
    · subst h2
      rw [cXk_2, cXk_2] <;> rfl
    by_cases h3 : a = 3
    · subst h3
      rw [cXk_3, cXk_3] <;> rfl
    by_cases h4 : a = 4
    · subst h4
      rw [cXk_4, cXk_4] <;> rfl
    by_cases h5 : a = 5
    · subst h5
      rw [cXk_5, cXk_5] <;> rfl
    by_cases h6 : a = 6
    · subst h6
      rw [cXk_6, cXk_6] <;> rfl
    by_cases h7 : a = 7
    · subst h7
      rw [cXk_7, cXk_7] <;> rfl
    by_cases h10 : a = 10
    · subst h10
      rw [cXk_10, cXk_10] <;> rfl
    by_cases h11 : a = 11
    · subst h11
      rw [cXk_11, cXk_11] <;> rfl
    by_cases h12 : a = 12
    · subst h12
      rw [cXk_12, cXk_12] <;> rfl
    by_cases h13 : a = 13
    · subst h13
      rw [cXk_13, cXk_13] <;> rfl
    by_cases h14 : a = 14
    · subst h14
      have hb : b ≠ i := fun z => hk (by rw [z])
      show (if b < nP (μ.1, up2 μ.2 9 (8 * i + k) v) then some (aL Z 8 (row8 (μ.1, up2 μ.2 9 (8 * i + k) v).2 b)) else none) = (if b < nP μ then some (aL Z 8 (row8 μ.2 b)) else none)
      rw [show row8 (μ.1, up2 μ.2 9 (8 * i + k) v).2 b = row8 μ.2 b from funext fun j => by
        unfold row8
        by_cases hj : j < 8
        · rw [if_pos hj, if_pos hj]; simp [up2]; omega
        · rw [if_neg hj, if_neg hj]] <;> rfl
    by_cases h20 : a = 20
    · subst h20
      rw [cXk_20, cXk_20] <;> rfl
    by_cases h30 : a = 30
    · subst h30
      rw [cXk_30, cXk_30] <;> rfl
    by_cases h31 : a = 31
    · subst h31
      rw [cXk_31, cXk_31] <;> rfl
    rw [cX_r h0 h1 h2 h3 h4 h5 h6 h7 h10 h11 h12 h13 h14 h20 h30 h31, cX_r h0 h1 h2 h3 h4 h5 h6 h7 h10 h11 h12 h13 h14 h20 h30 h31]
set_option maxRecDepth 100000 in
set_option maxHeartbeats 60000 in
theorem cw_t0 {Z : xZ} {lay : xK → Nat} {μ : Mu} {tb : Tb} {r : xK → Option xE} {k : Nat} {v : Int32} : ∀ y9, cX Z lay μ (up2 tb.1 0 k v, tb.2) r y9 = xup (cX Z lay μ tb r) (5, 0) (.inl (Z.2 0, 64, .inl (upd (tb.1 0) k v))) y9 := by
  rintro ⟨a, b⟩
  by_cases hk : (a, b) = ((5, 0) : xK)
  · rw [xup, if_pos hk]
    obtain ⟨rfl, rfl⟩ := Prod.mk.inj hk
    show some (aI Z 64 (up2 tb.1 0 k v 0)) = _
    exact congrArg (fun f => some (aI Z 64 f)) (funext fun j => by simp [up2, upd])
  · rw [xup, if_neg hk]
    by_cases h0 : a = 0
    · subst h0
      rw [cXk_0, cXk_0] <;> rfl
    by_cases h1 : a = 1
    · subst h1
      rw [cXk_1, cXk_1] <;> rfl
    by_cases h2 : a = 2
    · subst h2
      rw [cXk_2, cXk_2] <;> rfl
    by_cases h3 : a = 3
    · subst h3
      rw [cXk_3, cXk_3] <;> rfl
    by_cases h4 : a = 4
    · subst h4
      rw [cXk_4, cXk_4] <;> rfl
    by_cases h5 : a = 5
    · subst h5
      have hb : b ≠ 0 := fun z => hk (by rw [z])
      show (if b = 0 then some _ else none) = (if b = 0 then some _ else none)
      rw [if_neg hb, if_neg hb]
    by_cases h6 : a = 6
    · subst h6
      show (if b = 0 then some (aI Z 64 (up2 tb.1 0 k v 1)) else none) = (if b = 0 then some (aI Z 64 (tb.1 1)) else none)
      rw [up2_ne _ _ _ _ _ (show (1 : Nat) ≠ 0 by decide)]
    by_cases h7 : a = 7
    · subst h7
      show (if b = 0 then some (aI Z 64 (up2 tb.1 0 k v 2)) else none) = (if b = 0 then some (aI Z 64 (tb.1 2)) else none)
      rw [up2_ne _ _ _ _ _ (show (2 : Nat) ≠ 0 by decide)]
    by_cases h10 : a = 10
    · subst h10
      rw [cXk_10, cXk_10] <;> rfl
    by_cases h11 : a = 11
    · subst h11
      rw [cXk_11, cXk_11] <;> rfl
    by_cases h12 : a = 12
    · subst h12
      rw [cXk_12, cXk_12] <;> rfl
    by_cases h13 : a = 13
    · subst h13
      rw [cXk_13, cXk_13] <;> rfl
    by_cases h14 : a = 14
    · subst h14
      rw [cXk_14, cXk_14] <;> rfl
    by_cases h20 : a = 20
    · subst h20
      rw [cXk_20, cXk_20] <;> rfl
    by_cases h30 : a = 30
    · subst h30
      rw [cXk_30, cXk_30] <;> rfl
    by_cases h31 : a = 31
    · subst h31
      rw [cXk_31, cXk_31] <;> rfl
    rw [cX_r h0 h1 h2 h3 h4 h5 h6 h7 h10 h11 h12 h13 h14 h20 h30 h31, cX_r h0 h1 h2 h3 h4 h5 h6 h7 h10 h11 h12 h13 h14 h20 h30 h31]
set_option maxRecDepth 100000 in
set_option maxHeartbeats 60000 in
theorem cw_t1 {Z : xZ} {lay : xK → Nat} {μ : Mu} {tb : Tb} {r : xK → Option xE} {k : Nat} {v : Int32} : ∀ y9, cX Z lay μ (up2 tb.1 1 k v, tb.2) r y9 = xup (cX Z lay μ tb r) (6, 0) (.inl (Z.2 0, 64, .inl (upd (tb.1 1) k v))) y9 := by
  rintro ⟨a, b⟩
  by_cases hk : (a, b) = ((6, 0) : xK)
  · rw [xup, if_pos hk]
    obtain ⟨rfl, rfl⟩ := Prod.mk.inj hk
    show some (aI Z 64 (up2 tb.1 1 k v 1)) = _
    exact congrArg (fun f => some (aI Z 64 f)) (funext fun j => by simp [up2, upd])
  · rw [xup, if_neg hk]
    by_cases h0 : a = 0
    · subst h0
      rw [cXk_0, cXk_0] <;> rfl
    by_cases h1 : a = 1
    · subst h1
      rw [cXk_1, cXk_1] <;> rfl
    by_cases h2 : a = 2
    · subst h2
      rw [cXk_2, cXk_2] <;> rfl
    by_cases h3 : a = 3
    · subst h3
      rw [cXk_3, cXk_3] <;> rfl
    by_cases h4 : a = 4
    · subst h4
      rw [cXk_4, cXk_4] <;> rfl
    by_cases h5 : a = 5
    · subst h5
      show (if b = 0 then some (aI Z 64 (up2 tb.1 1 k v 0)) else none) = (if b = 0 then some (aI Z 64 (tb.1 0)) else none)
      rw [up2_ne _ _ _ _ _ (show (0 : Nat) ≠ 1 by decide)]
    by_cases h6 : a = 6
    · subst h6
      have hb : b ≠ 0 := fun z => hk (by rw [z])
      show (if b = 0 then some _ else none) = (if b = 0 then some _ else none)
      rw [if_neg hb, if_neg hb]
    by_cases h7 : a = 7
    · subst h7
      show (if b = 0 then some (aI Z 64 (up2 tb.1 1 k v 2)) else none) = (if b = 0 then some (aI Z 64 (tb.1 2)) else none)
      rw [up2_ne _ _ _ _ _ (show (2 : Nat) ≠ 1 by decide)]
    by_cases h10 : a = 10
    · subst h10
      rw [cXk_10, cXk_10] <;> rfl
    by_cases h11 : a = 11
    · subst h11
      rw [cXk_11, cXk_11] <;> rfl
    by_cases h12 : a = 12
    · subst h12
      rw [cXk_12, cXk_12] <;> rfl
    by_cases h13 : a = 13
    · subst h13
      rw [cXk_13, cXk_13] <;> rfl
    by_cases h14 : a = 14
    · subst h14
      rw [cXk_14, cXk_14] <;> rfl
    by_cases h20 : a = 20
    · subst h20
      rw [cXk_20, cXk_20] <;> rfl
    by_cases h30 : a = 30
    · subst h30
      rw [cXk_30, cXk_30] <;> rfl
    by_cases h31 : a = 31
    · subst h31
      rw [cXk_31, cXk_31] <;> rfl
    rw [cX_r h0 h1 h2 h3 h4 h5 h6 h7 h10 h11 h12 h13 h14 h20 h30 h31, cX_r h0 h1 h2 h3 h4 h5 h6 h7 h10 h11 h12 h13 h14 h20 h30 h31]
set_option maxRecDepth 100000 in
set_option maxHeartbeats 60000 in
theorem cw_t2 {Z : xZ} {lay : xK → Nat} {μ : Mu} {tb : Tb} {r : xK → Option xE} {k : Nat} {v : Int32} : ∀ y9, cX Z lay μ (up2 tb.1 2 k v, tb.2) r y9 = xup (cX Z lay μ tb r) (7, 0) (.inl (Z.2 0, 64, .inl (upd (tb.1 2) k v))) y9 := by
  rintro ⟨a, b⟩
  by_cases hk : (a, b) = ((7, 0) : xK)
  · rw [xup, if_pos hk]
    obtain ⟨rfl, rfl⟩ := Prod.mk.inj hk
    show some (aI Z 64 (up2 tb.1 2 k v 2)) = _
    exact congrArg (fun f => some (aI Z 64 f)) (funext fun j => by simp [up2, upd])
  · rw [xup, if_neg hk]
    by_cases h0 : a = 0
    · subst h0
      rw [cXk_0, cXk_0] <;> rfl
    by_cases h1 : a = 1
    · subst h1
      rw [cXk_1, cXk_1] <;> rfl
    by_cases h2 : a = 2
    · subst h2
      rw [cXk_2, cXk_2] <;> rfl
    by_cases h3 : a = 3
    · subst h3
      rw [cXk_3, cXk_3] <;> rfl
    by_cases h4 : a = 4
    · subst h4
      rw [cXk_4, cXk_4] <;> rfl
    by_cases h5 : a = 5
    · subst h5
      show (if b = 0 then some (aI Z 64 (up2 tb.1 2 k v 0)) else none) = (if b = 0 then some (aI Z 64 (tb.1 0)) else none)
      rw [up2_ne _ _ _ _ _ (show (0 : Nat) ≠ 2 by decide)]
    by_cases h6 : a = 6
    · subst h6
      show (if b = 0 then some (aI Z 64 (up2 tb.1 2 k v 1)) else none) = (if b = 0 then some (aI Z 64 (tb.1 1)) else none)
      rw [up2_ne _ _ _ _ _ (show (1 : Nat) ≠ 2 by decide)]
    by_cases h7 : a = 7
    · subst h7
      have hb : b ≠ 0 := fun z => hk (by rw [z])
      show (if b = 0 then some _ else none) = (if b = 0 then some _ else none)
      rw [if_neg hb, if_neg hb]
    by_cases h10 : a = 10
    · subst h10
      rw [cXk_10, cXk_10] <;> rfl
    by_cases h11 : a = 11
    · subst h11
      rw [cXk_11, cXk_11] <;> rfl
    by_cases h12 : a = 12
    · subst h12
      rw [cXk_12, cXk_12] <;> rfl
    by_cases h13 : a = 13
    · subst h13
      rw [cXk_13, cXk_13] <;> rfl
    by_cases h14 : a = 14
    · subst h14
      rw [cXk_14, cXk_14] <;> rfl
    by_cases h20 : a = 20
    · subst h20
      rw [cXk_20, cXk_20] <;> rfl
    by_cases h30 : a = 30
    · subst h30
      rw [cXk_30, cXk_30] <;> rfl
    by_cases h31 : a = 31
    · subst h31
      rw [cXk_31, cXk_31] <;> rfl
    rw [cX_r h0 h1 h2 h3 h4 h5 h6 h7 h10 h11 h12 h13 h14 h20 h30 h31, cX_r h0 h1 h2 h3 h4 h5 h6 h7 h10 h11 h12 h13 h14 h20 h30 h31]
set_option maxRecDepth 100000 in
set_option maxHeartbeats 60000 in
theorem cw_h {Z : xZ} {lay : xK → Nat} {μ : Mu} {tb : Tb} {r : xK → Option xE} {i k : Nat} (h : i < nT μ) {v : Int32} : ∀ y9, cX Z lay μ (tb.1, up2 tb.2.1 i k v, tb.2.2) r y9 = xup (cX Z lay μ tb r) (31, i) (.inl (Z.2 0, tb.2.2 i, .inl (upd (tb.2.1 i) k v))) y9 := by
  rintro ⟨a, b⟩
  by_cases hk : (a, b) = ((31, i) : xK)
  · rw [xup, if_pos hk]
    obtain ⟨rfl, rfl⟩ := Prod.mk.inj hk
    show (if b < nT μ then some (aI Z (tb.2.2 b) (up2 tb.2.1 b k v b)) else none) = _
    refine Eq.trans (if_pos h) ?_
    exact congrArg (fun f => some (aI Z (tb.2.2 b) f)) (funext fun j => by simp [up2, upd])
  · rw [xup, if_neg hk]
    by_cases h0 : a = 0
    · subst h0
      rw [cXk_0, cXk_0] <;> rfl
    by_cases h1 : a = 1
    · subst h1
      rw [cXk_1, cXk_1] <;> rfl
    by_cases h2 : a = 2
    · subst h2
      rw [cXk_2, cXk_2] <;> rfl
    by_cases h3 : a = 3
    · subst h3
      rw [cXk_3, cXk_3] <;> rfl
    by_cases h4 : a = 4
    · subst h4
      rw [cXk_4, cXk_4] <;> rfl
    by_cases h5 : a = 5
    · subst h5
      rw [cXk_5, cXk_5] <;> rfl
    by_cases h6 : a = 6
    · subst h6
      rw [cXk_6, cXk_6] <;> rfl
    by_cases h7 : a = 7
    · subst h7
      rw [cXk_7, cXk_7] <;> rfl
    by_cases h10 : a = 10
    · subst h10
      rw [cXk_10, cXk_10] <;> rfl
    by_cases h11 : a = 11
    · subst h11
      rw [cXk_11, cXk_11] <;> rfl
    by_cases h12 : a = 12
    · subst h12
      rw [cXk_12, cXk_12] <;> rfl
    by_cases h13 : a = 13
    · subst h13
      rw [cXk_13, cXk_13] <;> rfl
    by_cases h14 : a = 14
    · subst h14
      rw [cXk_14, cXk_14] <;> rfl
    by_cases h20 : a = 20
    · subst h20
      rw [cXk_20, cXk_20] <;> rfl
    by_cases h30 : a = 30
    · subst h30
      rw [cXk_30, cXk_30] <;> rfl
    by_cases h31 : a = 31
    · subst h31
      have hb : b ≠ i := fun z => hk (by rw [z])
      show (if b < nT μ then some (aI Z (tb.2.2 b) (up2 tb.2.1 i k v b)) else none) = (if b < nT μ then some (aI Z (tb.2.2 b) (tb.2.1 b)) else none)
      rw [up2_ne _ _ _ _ _ hb]
    rw [cX_r h0 h1 h2 h3 h4 h5 h6 h7 h10 h11 h12 h13 h14 h20 h30 h31, cX_r h0 h1 h2 h3 h4 h5 h6 h7 h10 h11 h12 h13 h14 h20 h30 h31]
end
