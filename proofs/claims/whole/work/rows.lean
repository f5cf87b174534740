section
-- ===== PART A: goes FIRST, ahead of the names: the tables' words, and 'selects' of the private methods out of them =====
/-- a private method of a class that the tables say can be made, by its rows of tables_1 -/
def lw_okq (q : MethodName × Nat) : Prop := (q.1.cls ≠ "java/lang/invoke/MethodHandle" ∧ q.1.cls ≠ "java/lang/invoke/VarHandle") ∧ Cond.instantiable q.1.cls q.2 ∈ tables_1 ∧ Cond.privateMethod q.1 ∈ tables_1 ∧ Cond.instanceMethod q.1 ∈ tables_1
theorem lw_p0 : lw_okq (⟨"ZoneHeap", "forgetReached", "()V"⟩, 11) := ⟨⟨by decide +kernel, by decide +kernel⟩, List.mem_of_getElem? (i := 20) (by decide +kernel), List.mem_of_getElem? (i := 96) (by decide +kernel), List.mem_of_getElem? (i := 97) (by decide +kernel)⟩
theorem lw_p1 : lw_okq (⟨"ZoneHeap", "reach", "(I)V"⟩, 11) := ⟨⟨by decide +kernel, by decide +kernel⟩, List.mem_of_getElem? (i := 20) (by decide +kernel), List.mem_of_getElem? (i := 100) (by decide +kernel), List.mem_of_getElem? (i := 101) (by decide +kernel)⟩
theorem lw_p2 : lw_okq (⟨"ZoneHeap", "ledToBy", "(I)LZoneHeap$Block;"⟩, 11) := ⟨⟨by decide +kernel, by decide +kernel⟩, List.mem_of_getElem? (i := 20) (by decide +kernel), List.mem_of_getElem? (i := 104) (by decide +kernel), List.mem_of_getElem? (i := 105) (by decide +kernel)⟩
theorem lw_p3 : lw_okq (⟨"ZoneHeap", "standingAt", "(I)LZoneHeap$Block;"⟩, 11) := ⟨⟨by decide +kernel, by decide +kernel⟩, List.mem_of_getElem? (i := 20) (by decide +kernel), List.mem_of_getElem? (i := 108) (by decide +kernel), List.mem_of_getElem? (i := 109) (by decide +kernel)⟩
theorem lw_p4 : lw_okq (⟨"ZoneHeap", "liveHaving", "(I)LZoneHeap$Block;"⟩, 11) := ⟨⟨by decide +kernel, by decide +kernel⟩, List.mem_of_getElem? (i := 20) (by decide +kernel), List.mem_of_getElem? (i := 115) (by decide +kernel), List.mem_of_getElem? (i := 116) (by decide +kernel)⟩
theorem lw_p5 : lw_okq (⟨"ZoneHeap$Block", "has", "(I)Z"⟩, 4) := ⟨⟨by decide +kernel, by decide +kernel⟩, List.mem_of_getElem? (i := 121) (by decide +kernel), List.mem_of_getElem? (i := 119) (by decide +kernel), List.mem_of_getElem? (i := 120) (by decide +kernel)⟩
theorem lw_p6 : lw_okq (⟨"ZoneHeap", "reachFromWordsOf", "(LZoneHeap$Block;)V"⟩, 11) := ⟨⟨by decide +kernel, by decide +kernel⟩, List.mem_of_getElem? (i := 20) (by decide +kernel), List.mem_of_getElem? (i := 124) (by decide +kernel), List.mem_of_getElem? (i := 125) (by decide +kernel)⟩
theorem lw_p7 : lw_okq (⟨"ZoneHeap", "wordAt", "(I)I"⟩, 11) := ⟨⟨by decide +kernel, by decide +kernel⟩, List.mem_of_getElem? (i := 20) (by decide +kernel), List.mem_of_getElem? (i := 128) (by decide +kernel), List.mem_of_getElem? (i := 129) (by decide +kernel)⟩
theorem lw_p8 : lw_okq (⟨"ZoneHeap", "noteLost", "()V"⟩, 11) := ⟨⟨by decide +kernel, by decide +kernel⟩, List.mem_of_getElem? (i := 20) (by decide +kernel), List.mem_of_getElem? (i := 132) (by decide +kernel), List.mem_of_getElem? (i := 133) (by decide +kernel)⟩
theorem lw_p9 : lw_okq (⟨"java/lang/Throwable", "fillInStackTrace", "(I)Ljava/lang/Throwable;"⟩, 6) := ⟨⟨by decide +kernel, by decide +kernel⟩, List.mem_of_getElem? (i := 185) (by decide +kernel), List.mem_of_getElem? (i := 183) (by decide +kernel), List.mem_of_getElem? (i := 184) (by decide +kernel)⟩
theorem lw_p10 : lw_okq (⟨"ZoneHeap", "make", "(I)LZoneHeap$Block;"⟩, 11) := ⟨⟨by decide +kernel, by decide +kernel⟩, List.mem_of_getElem? (i := 20) (by decide +kernel), List.mem_of_getElem? (i := 214) (by decide +kernel), List.mem_of_getElem? (i := 215) (by decide +kernel)⟩
theorem lw_p11 : lw_okq (⟨"ZoneHeap", "firstRoomFor", "(I)I"⟩, 11) := ⟨⟨by decide +kernel, by decide +kernel⟩, List.mem_of_getElem? (i := 20) (by decide +kernel), List.mem_of_getElem? (i := 224) (by decide +kernel), List.mem_of_getElem? (i := 225) (by decide +kernel)⟩
theorem lw_p12 : lw_okq (⟨"ZoneHeap", "setTaker", "(LZoneHeap$Block;LZoneHeap$Block;)V"⟩, 11) := ⟨⟨by decide +kernel, by decide +kernel⟩, List.mem_of_getElem? (i := 20) (by decide +kernel), List.mem_of_getElem? (i := 249) (by decide +kernel), List.mem_of_getElem? (i := 250) (by decide +kernel)⟩
theorem lw_p13 : lw_okq (⟨"ZoneHeap", "liveStandingAt", "(I)LZoneHeap$Block;"⟩, 11) := ⟨⟨by decide +kernel, by decide +kernel⟩, List.mem_of_getElem? (i := 20) (by decide +kernel), List.mem_of_getElem? (i := 261) (by decide +kernel), List.mem_of_getElem? (i := 262) (by decide +kernel)⟩
theorem lw_p14 : lw_okq (⟨"ZoneHeap", "giveBack", "(LZoneHeap$Block;)V"⟩, 11) := ⟨⟨by decide +kernel, by decide +kernel⟩, List.mem_of_getElem? (i := 20) (by decide +kernel), List.mem_of_getElem? (i := 282) (by decide +kernel), List.mem_of_getElem? (i := 283) (by decide +kernel)⟩
theorem lw_p15 : lw_okq (⟨"java/util/ArrayList", "add", "(Ljava/lang/Object;[Ljava/lang/Object;I)V"⟩, 3) := ⟨⟨by decide +kernel, by decide +kernel⟩, List.mem_of_getElem? (i := 30) (by decide +kernel), List.mem_of_getElem? (i := 290) (by decide +kernel), List.mem_of_getElem? (i := 291) (by decide +kernel)⟩
def lw_privs_1 : List (MethodName × Nat) := [(⟨"ZoneHeap", "forgetReached", "()V"⟩, 11), (⟨"ZoneHeap", "reach", "(I)V"⟩, 11), (⟨"ZoneHeap", "ledToBy", "(I)LZoneHeap$Block;"⟩, 11), (⟨"ZoneHeap", "standingAt", "(I)LZoneHeap$Block;"⟩, 11), (⟨"ZoneHeap", "liveHaving", "(I)LZoneHeap$Block;"⟩, 11), (⟨"ZoneHeap$Block", "has", "(I)Z"⟩, 4), (⟨"ZoneHeap", "reachFromWordsOf", "(LZoneHeap$Block;)V"⟩, 11), (⟨"ZoneHeap", "wordAt", "(I)I"⟩, 11), (⟨"ZoneHeap", "noteLost", "()V"⟩, 11), (⟨"java/lang/Throwable", "fillInStackTrace", "(I)Ljava/lang/Throwable;"⟩, 6), (⟨"ZoneHeap", "make", "(I)LZoneHeap$Block;"⟩, 11), (⟨"ZoneHeap", "firstRoomFor", "(I)I"⟩, 11), (⟨"ZoneHeap", "setTaker", "(LZoneHeap$Block;LZoneHeap$Block;)V"⟩, 11), (⟨"ZoneHeap", "liveStandingAt", "(I)LZoneHeap$Block;"⟩, 11), (⟨"ZoneHeap", "giveBack", "(LZoneHeap$Block;)V"⟩, 11), (⟨"java/util/ArrayList", "add", "(Ljava/lang/Object;[Ljava/lang/Object;I)V"⟩, 3)]
theorem lw_r1 : ∀ q ∈ lw_privs_1, lw_okq q := List.forall_mem_cons.mpr ⟨lw_p0, List.forall_mem_cons.mpr ⟨lw_p1, List.forall_mem_cons.mpr ⟨lw_p2, List.forall_mem_cons.mpr ⟨lw_p3, List.forall_mem_cons.mpr ⟨lw_p4, List.forall_mem_cons.mpr ⟨lw_p5, List.forall_mem_cons.mpr ⟨lw_p6, List.forall_mem_cons.mpr ⟨lw_p7, List.forall_mem_cons.mpr ⟨lw_p8, List.forall_mem_cons.mpr ⟨lw_p9, List.forall_mem_cons.mpr ⟨lw_p10, List.forall_mem_cons.mpr ⟨lw_p11, List.forall_mem_cons.mpr ⟨lw_p12, List.forall_mem_cons.mpr ⟨lw_p13, List.forall_mem_cons.mpr ⟨lw_p14, List.forall_mem_cons.mpr ⟨lw_p15, fun _ h => absurd h List.not_mem_nil⟩⟩⟩⟩⟩⟩⟩⟩⟩⟩⟩⟩⟩⟩⟩⟩
theorem lw_p16 : lw_okq (⟨"java/util/ArrayList", "grow", "()[Ljava/lang/Object;"⟩, 3) := ⟨⟨by decide +kernel, by decide +kernel⟩, List.mem_of_getElem? (i := 30) (by decide +kernel), List.mem_of_getElem? (i := 294) (by decide +kernel), List.mem_of_getElem? (i := 295) (by decide +kernel)⟩
theorem lw_p17 : lw_okq (⟨"java/util/ArrayList", "grow", "(I)[Ljava/lang/Object;"⟩, 3) := ⟨⟨by decide +kernel, by decide +kernel⟩, List.mem_of_getElem? (i := 30) (by decide +kernel), List.mem_of_getElem? (i := 298) (by decide +kernel), List.mem_of_getElem? (i := 299) (by decide +kernel)⟩
theorem lw_p18 : lw_okq (⟨"ZoneHeap", "dropOldestKept", "()V"⟩, 11) := ⟨⟨by decide +kernel, by decide +kernel⟩, List.mem_of_getElem? (i := 20) (by decide +kernel), List.mem_of_getElem? (i := 342) (by decide +kernel), List.mem_of_getElem? (i := 343) (by decide +kernel)⟩
theorem lw_p19 : lw_okq (⟨"java/util/ArrayList", "fastRemove", "([Ljava/lang/Object;I)V"⟩, 3) := ⟨⟨by decide +kernel, by decide +kernel⟩, List.mem_of_getElem? (i := 30) (by decide +kernel), List.mem_of_getElem? (i := 360) (by decide +kernel), List.mem_of_getElem? (i := 361) (by decide +kernel)⟩
theorem lw_p20 : lw_okq (⟨"ZoneHeap", "isTaken", "(I)Z"⟩, 11) := ⟨⟨by decide +kernel, by decide +kernel⟩, List.mem_of_getElem? (i := 20) (by decide +kernel), List.mem_of_getElem? (i := 401) (by decide +kernel), List.mem_of_getElem? (i := 402) (by decide +kernel)⟩
theorem lw_p21 : lw_okq (⟨"ZoneHeap", "refuseWrongWord", "(I)V"⟩, 11) := ⟨⟨by decide +kernel, by decide +kernel⟩, List.mem_of_getElem? (i := 20) (by decide +kernel), List.mem_of_getElem? (i := 419) (by decide +kernel), List.mem_of_getElem? (i := 420) (by decide +kernel)⟩
theorem lw_p22 : lw_okq (⟨"ZoneHeapModel", "fails", "(ZI)Z"⟩, 12) := ⟨⟨by decide +kernel, by decide +kernel⟩, List.mem_of_getElem? (i := 448) (by decide +kernel), List.mem_of_getElem? (i := 500) (by decide +kernel), List.mem_of_getElem? (i := 501) (by decide +kernel)⟩
theorem lw_p23 : lw_okq (⟨"ZoneHeapModel", "make", "(I)I"⟩, 12) := ⟨⟨by decide +kernel, by decide +kernel⟩, List.mem_of_getElem? (i := 448) (by decide +kernel), List.mem_of_getElem? (i := 504) (by decide +kernel), List.mem_of_getElem? (i := 505) (by decide +kernel)⟩
theorem lw_p24 : lw_okq (⟨"ZoneHeapModel", "room", "(I)I"⟩, 12) := ⟨⟨by decide +kernel, by decide +kernel⟩, List.mem_of_getElem? (i := 448) (by decide +kernel), List.mem_of_getElem? (i := 508) (by decide +kernel), List.mem_of_getElem? (i := 509) (by decide +kernel)⟩
theorem lw_p25 : lw_okq (⟨"ZoneHeapModel", "at", "(II)I"⟩, 12) := ⟨⟨by decide +kernel, by decide +kernel⟩, List.mem_of_getElem? (i := 448) (by decide +kernel), List.mem_of_getElem? (i := 519) (by decide +kernel), List.mem_of_getElem? (i := 520) (by decide +kernel)⟩
theorem lw_p26 : lw_okq (⟨"ZoneHeapModel", "give", "(I)V"⟩, 12) := ⟨⟨by decide +kernel, by decide +kernel⟩, List.mem_of_getElem? (i := 448) (by decide +kernel), List.mem_of_getElem? (i := 523) (by decide +kernel), List.mem_of_getElem? (i := 524) (by decide +kernel)⟩
theorem lw_p27 : lw_okq (⟨"ZoneHeapModel", "kept", "()I"⟩, 12) := ⟨⟨by decide +kernel, by decide +kernel⟩, List.mem_of_getElem? (i := 448) (by decide +kernel), List.mem_of_getElem? (i := 527) (by decide +kernel), List.mem_of_getElem? (i := 528) (by decide +kernel)⟩
theorem lw_p28 : lw_okq (⟨"ZoneHeapModel", "of", "(II)I"⟩, 12) := ⟨⟨by decide +kernel, by decide +kernel⟩, List.mem_of_getElem? (i := 448) (by decide +kernel), List.mem_of_getElem? (i := 539) (by decide +kernel), List.mem_of_getElem? (i := 540) (by decide +kernel)⟩
theorem lw_p29 : lw_okq (⟨"ZoneHeapModel", "bad", "(I)Z"⟩, 12) := ⟨⟨by decide +kernel, by decide +kernel⟩, List.mem_of_getElem? (i := 448) (by decide +kernel), List.mem_of_getElem? (i := 551) (by decide +kernel), List.mem_of_getElem? (i := 552) (by decide +kernel)⟩
theorem lw_p30 : lw_okq (⟨"ZoneHeapModel", "word", "(I)I"⟩, 12) := ⟨⟨by decide +kernel, by decide +kernel⟩, List.mem_of_getElem? (i := 448) (by decide +kernel), List.mem_of_getElem? (i := 559) (by decide +kernel), List.mem_of_getElem? (i := 560) (by decide +kernel)⟩
theorem lw_p31 : lw_okq (⟨"ZoneHeapModel", "touch", "(I)Z"⟩, 12) := ⟨⟨by decide +kernel, by decide +kernel⟩, List.mem_of_getElem? (i := 448) (by decide +kernel), List.mem_of_getElem? (i := 567) (by decide +kernel), List.mem_of_getElem? (i := 568) (by decide +kernel)⟩
def lw_privs_2 : List (MethodName × Nat) := [(⟨"java/util/ArrayList", "grow", "()[Ljava/lang/Object;"⟩, 3), (⟨"java/util/ArrayList", "grow", "(I)[Ljava/lang/Object;"⟩, 3), (⟨"ZoneHeap", "dropOldestKept", "()V"⟩, 11), (⟨"java/util/ArrayList", "fastRemove", "([Ljava/lang/Object;I)V"⟩, 3), (⟨"ZoneHeap", "isTaken", "(I)Z"⟩, 11), (⟨"ZoneHeap", "refuseWrongWord", "(I)V"⟩, 11), (⟨"ZoneHeapModel", "fails", "(ZI)Z"⟩, 12), (⟨"ZoneHeapModel", "make", "(I)I"⟩, 12), (⟨"ZoneHeapModel", "room", "(I)I"⟩, 12), (⟨"ZoneHeapModel", "at", "(II)I"⟩, 12), (⟨"ZoneHeapModel", "give", "(I)V"⟩, 12), (⟨"ZoneHeapModel", "kept", "()I"⟩, 12), (⟨"ZoneHeapModel", "of", "(II)I"⟩, 12), (⟨"ZoneHeapModel", "bad", "(I)Z"⟩, 12), (⟨"ZoneHeapModel", "word", "(I)I"⟩, 12), (⟨"ZoneHeapModel", "touch", "(I)Z"⟩, 12)]
theorem lw_r2 : ∀ q ∈ lw_privs_2, lw_okq q := List.forall_mem_cons.mpr ⟨lw_p16, List.forall_mem_cons.mpr ⟨lw_p17, List.forall_mem_cons.mpr ⟨lw_p18, List.forall_mem_cons.mpr ⟨lw_p19, List.forall_mem_cons.mpr ⟨lw_p20, List.forall_mem_cons.mpr ⟨lw_p21, List.forall_mem_cons.mpr ⟨lw_p22, List.forall_mem_cons.mpr ⟨lw_p23, List.forall_mem_cons.mpr ⟨lw_p24, List.forall_mem_cons.mpr ⟨lw_p25, List.forall_mem_cons.mpr ⟨lw_p26, List.forall_mem_cons.mpr ⟨lw_p27, List.forall_mem_cons.mpr ⟨lw_p28, List.forall_mem_cons.mpr ⟨lw_p29, List.forall_mem_cons.mpr ⟨lw_p30, List.forall_mem_cons.mpr ⟨lw_p31, fun _ h => absurd h List.not_mem_nil⟩⟩⟩⟩⟩⟩⟩⟩⟩⟩⟩⟩⟩⟩⟩⟩
theorem lw_p32 : lw_okq (⟨"ZoneHeapModel", "leads", "(I)I"⟩, 12) := ⟨⟨by decide +kernel, by decide +kernel⟩, List.mem_of_getElem? (i := 448) (by decide +kernel), List.mem_of_getElem? (i := 571) (by decide +kernel), List.mem_of_getElem? (i := 572) (by decide +kernel)⟩
def lw_privs_3 : List (MethodName × Nat) := [(⟨"ZoneHeapModel", "leads", "(I)I"⟩, 12)]
theorem lw_r3 : ∀ q ∈ lw_privs_3, lw_okq q := List.forall_mem_cons.mpr ⟨lw_p32, fun _ h => absurd h List.not_mem_nil⟩
def lw_privs : List (MethodName × Nat) := lw_privs_1 ++ (lw_privs_2 ++ (lw_privs_3))
def lw_tbl : List Cond := k2_sels lw_privs ++ tables_1
theorem lw_privs_ok : ∀ q ∈ lw_privs, lw_okq q := by
  show ∀ q ∈ lw_privs_1 ++ (lw_privs_2 ++ (lw_privs_3)), lw_okq q
  exact List.forall_mem_append.mpr ⟨lw_r1, List.forall_mem_append.mpr ⟨lw_r2, lw_r3⟩⟩
/-! ===== BEGIN words of one list among another's, by their places ===== -/
theorem goodIn_r {big : List Cond} (ws : List Cond) (ps : List Nat) (hp : ws = ps.filterMap (fun i => big[i]?)) (h : ws.all goodWord = true) : GoodIn big ws := by
  intro w hw
  have h1 := List.all_eq_true.mp h w hw
  rw [hp] at hw
  obtain ⟨i, -, hi⟩ := List.mem_filterMap.mp hw
  have hm : w ∈ big := by first | exact List.mem_of_getElem? hi | exact List.getElem?_mem hi
  exact ⟨hm, good_of_word h1⟩
theorem goodIn_app {big a b : List Cond} (ha : GoodIn big a) (hb : GoodIn big b) : GoodIn big (a ++ b) := fun w h => (List.mem_append.mp h).elim (ha w) (hb w)
theorem goodIn_ca {big a b : List Cond} {c : Cond} (ha : GoodIn big (c :: a)) (hb : GoodIn big b) : GoodIn big (c :: (a ++ b)) := fun w h => (List.mem_cons.mp h).elim (fun e => ha w (List.mem_cons.mpr (Or.inl e))) (fun h => (List.mem_append.mp h).elim (fun h => ha w (List.mem_cons.mpr (Or.inr h))) (hb w))
theorem goodIn_sub {big ws : List Cond} (hm : ∀ w ∈ ws, w ∈ big) (h : ws.all goodWord = true) : GoodIn big ws := fun w hw => ⟨hm w hw, good_of_word (List.all_eq_true.mp h w hw)⟩
/-! ===== END ===== -/

/-! ===== BEGIN exceptions that leave a method, and their catching by the caller (launches without stack traces) ===== -/
section VXA
/-! The laws vx_back, vx_callV, vx_callS, vx_callSW, vx_throw0, vx_throwS follow proofs of the library, with one case more: JvmDerived/Free/Laws.lean (Back.of_free), Shelf42/LK1.lean (callV, callS), Shelf/KitTraced.lean (throwNew0V, throwNewS). -/
/-- where a method has thrown q: the class by its name, the cell, what was written, the world -/
def vx_T (XC : String → State → State → Prop) (st : State) (q : Addr) (t : State) (mc ms : Nat) (free : Addr → Prop) : Prop :=
  ∃ (E : String) (ce : Cell) (L : List Loc), XC E st t ∧ t.heap[q]? = some ce ∧ ce.vm = .none ∧ st.vm.findClass E = some ce.cls ∧ st.WarmedH t.vm ∧ st.sameButNew ({ t with vm := st.vm } : State) L mc ms ∧ ∀ z ∈ L, free z.base
def vx_Q (Qc : Array Value → State → Outcome → State → Prop) (XC : String → State → State → Prop) (mc ms : Nat) (free : Addr → Prop) : Array Value → State → Outcome → State → Prop := fun a st o t =>
  (Qc a st o t ∧ ∃ L, FrameEnd st o t L mc ms ∧ ∀ q ∈ L, free q.base) ∨ ∃ q, o = .threw q ∧ vx_T XC st q t mc ms free
/-- a callee that returns or throws -/
def vx_Met (l : Launch) (y : MethodName) (ws : List Cond) (rm : Room) (Pc : Array Value → State → Prop) (Qc : Array Value → State → Outcome → State → Prop) (XC : String → State → State → Prop) (mc ms : Nat) (free : Addr → Prop) : Prop :=
  MetFree l y (headSpec ws rm) Pc (fun _ _ _ _ _ => True) (vx_Q Qc XC mc ms free)
def vx_Post (XC : String → State → State → Prop) (mc ms : Nat) (free : Addr → Prop) : Pt → Array Value → Addr → Pt → Prop := fun A a q B =>
  ∃ (g : JFrame) (mk : MethodId) (t : State) (L : List Loc) (E : String) (ce : Cell), B.U.heap = t.heap ∧ B.U.vm = t.vm ∧ XC E (A.U.calling g mk a) t ∧ t.heap[q]? = some ce ∧ ce.vm = .none ∧ A.U.vm.findClass E = some ce.cls ∧ B.locs = A.locs ++ L ∧ (∀ z ∈ L, free z.base) ∧ B.cells = A.cells + mc ∧ B.slots = A.slots + ms
def vx_Back (l : Launch) (R : Room) (p : Program) (e : Env) (below : List Frame) (s : State) (sargs : Array Value) (y : MethodName) (len W9 : Nat)
    (Pre : Pt → Array Value → Prop) (Post : Pt → Array Value → Option Value → Pt → Prop) (PostX : Pt → Array Value → Addr → Pt → Prop) : Prop :=
  ∀ (m : MethodId) (meth : Method) (c : Code) (A : Pt) (g : JFrame) (ig : Instr) (mk : MethodId) (a : Array Value),
    Stand p l e R s m sargs below meth c A.U A.locs A.cells A.slots → g.method = m → g.locals.size = c.maxLocals → decode c.code g.pc = .ok (ig, len) →
    2 * g.monitorRoom + (g.stack.map fun v => v.category).sum ≤ W9 → A.U.methodNamed? y = some mk → Pre A a →
    (∃ (v : Option Value) (B : Pt), Stand p l e R s m sargs below meth c B.U B.locs B.cells B.slots ∧ Post A a v B ∧
      Steps p.tables e below (doInvoke e (A.U.setTop g) [] mk a).1 (B.U.setTop { g with pc := g.pc + len, stack := v.toList ++ g.stack })) ∨
    (∃ (q : Addr) (B : Pt), Stand p l e R s m sargs below meth c B.U B.locs B.cells B.slots ∧ PostX A a q B ∧
      Steps p.tables e below (doInvoke e (A.U.setTop g) [] mk a).1 ((B.U.setTop g).pushFrame (.throwing q)))
section Payer
variable {l : Launch} {R : Room} {p : Program} {e : Env} {below : List Frame} {s : State} {sargs : Array Value} {y : MethodName} {len W9 : Nat}
theorem vx_back {ws : List Cond} {rm : Room} {Pc : Array Value → State → Prop} {Qc : Array Value → State → Outcome → State → Prop} {XC : String → State → State → Prop} {mc ms : Nat} {free : Addr → Prop} {bytes : ByteArray} {maxL : Nat} {ret : Option FieldType}
    (hM : vx_Met l y ws rm Pc Qc XC mc ms free) (hblind : FrameBlind Pc) (hrc : rm.cells = mc) (hrs : rm.slots = ms)
    (hframes : rm.frames + 1 ≤ R.frames) (hlocals : W9 + (maxL + 11) + rm.locals ≤ R.locals)
    (hws : ∀ w ∈ ws, ∀ a' U, s.WarmedH U.vm → w.before a' U = true) (hcode : Cond.code y bytes maxL ret ∈ ws) (hinit : ∀ a' U, s.WarmedH U.vm → (Cond.initialized y.cls).before a' U = true) :
    vx_Back l R p e below s sargs y len W9 (PreOf R mc ms Pc) (PostOf Qc mc ms free) (vx_Post XC mc ms free) := by
  intro m meth c A g ig mk a X hg hsize hdg hW hn hp
  have h1 : (headSpec ws rm).pre.before a A.U = true := atoms_intro fun w hw => hws w hw _ _ X.warmed
  have h2 : (Cond.code y bytes maxL ret).before a A.U = true := hws _ hcode _ _ X.warmed
  have h3 : (Cond.initialized y.cls).before a A.U = true := hinit _ _ X.warmed
  have h4 : A.cells + (headSpec ws rm).room.cells ≤ R.cells := by rw [show (headSpec ws rm).room.cells = mc from hrc]; exact hp.1
  have h5 : A.slots + (headSpec ws rm).room.slots ≤ R.slots := by rw [show (headSpec ws rm).room.slots = ms from hrs]; exact hp.2.1
  have hPc : Pc a (A.U.calling g mk a) := hblind _ _ _ _ hp.2.2
  obtain ⟨U, Ls, c0, s0⟩ := A
  dsimp only [Pt.U, Pt.locs, Pt.cells, Pt.slots] at h1 h2 h3 h4 h5 X hn hPc ⊢
  obtain ⟨methY, cY, hmY, hcY, -, hlY, -, -, -, -⟩ := Cond.code_spec hn h2
  obtain ⟨kY, hkY, -⟩ := className_of_methodNamed hn
  have hinitY : kY.init = .initialized := Cond.initialized_spec (findClass_of_methodNamed hn) hkY h3
  have h : At U g.method c below := by rw [hg]; exact X.here
  have hlocals9 : W9 + (maxL + 11) + (headSpec ws rm).room.locals ≤ R.locals := hlocals
  have happ : (headSpec ws rm).appliesLoose y e.platform (U.calling g mk a) = true :=
    Spec.appliesLoose_calling (g := g) h hdg hn hkY hinitY
      (X.room_calling (g := g) (R' := (headSpec ws rm).room) hsize hmY hcY hframes (by rw [hlY]; omega) h4 h5) h1
  obtain ⟨mid, hmid⟩ := h.above
  have hfr : (U.setTop g).frames = (.java g :: mid) ++ below := by rw [State.frames_setTop' g h.top, hmid]; rfl
  obtain ⟨o, s₂, hsteps, -, hend, hq⟩ := Steps.callFree hM p X.admits X.cas X.clock (acts := []) hfr happ hPc trivial
  have hq' : vx_Q Qc XC mc ms free a (U.calling g mk a) o s₂ := hq
  rw [State.frames_setTop' g h.top] at hend
  obtain ⟨g₀, hg0⟩ := Option.isSome_iff_exists.mp h.top
  obtain ⟨r, hr⟩ := State.topJava?_eq_some.mp hg0
  have hr' : (({ U with heap := s₂.heap, slotsUsed := s₂.slotsUsed } : State).setVm s₂.vm).frames = .java g₀ :: r := hr
  rcases hq' with ⟨hqc, L, hfe, hL⟩ | ⟨q, rfl, E, ce, L, hx, hce, hcv, hcl, hW₂, hsm, hL⟩
  · obtain ⟨⟨v, rfl⟩, hW₂, e2, q2, q3, q4, q5, q6⟩ := id hfe
    have e3 : s₂ = ({ (U.calling g mk a).setFrames s₂.frames with heap := s₂.heap, slotsUsed := s₂.slotsUsed } : State).setVm s₂.vm := by
      have : s₂ = ({ s₂ with vm := (U.calling g mk a).vm } : State).setVm s₂.vm := rfl
      rw [e2] at this
      exact this
    obtain ⟨c₂, i₂, len₂, hc₂, hd₂, hf₂⟩ := hend
    have hW' : U.WarmedH s₂.vm := hW₂
    have hcc : c₂ = c := by
      have h1 : s₂.code? g.method = U.code? g.method := by
        rw [State.code?_eq, State.code?_eq, hW'.alike.method?]
      exact Option.some.inj (hc₂.symm.trans (h1.trans h.code))
    subst hcc
    have hlen : len₂ = len := by rw [hdg] at hd₂; cases hd₂; rfl
    subst hlen
    have hs₂ : s₂ = (({ U with heap := s₂.heap, slotsUsed := s₂.slotsUsed } : State).setVm s₂.vm).setTop { g with pc := g.pc + len₂, stack := v.toList ++ g.stack } := by
      refine e3.trans ?_
      rw [hf₂, State.calling_eq h.top, State.setFrames_setFrames, State.setTop_of_frames _ hr', hr]
      rfl
    have hsame : U.sameButNew ({ U with heap := s₂.heap, slotsUsed := s₂.slotsUsed } : State) L mc ms := by
      refine ⟨?_, q2, q3, q4, q5, q6⟩
      obtain ⟨t, ht, -⟩ := State.frames_cons hr
      show ({ U with heap := s₂.heap, slotsUsed := s₂.slotsUsed } : State) = { U.setFrames U.frames with heap := s₂.heap, slotsUsed := s₂.slotsUsed }
      rw [State.setFrames_self ht]
    subst hg
    refine Or.inl ⟨v, ⟨(({ U with heap := s₂.heap, slotsUsed := s₂.slotsUsed } : State).setVm s₂.vm), Ls ++ L, c0 + mc, s0 + ms⟩,
      ⟨X.admits, X.cas, X.clock, X.frames, X.room, X.hears, X.method, X.code, (X.here.setHeapUsed s₂.heap s₂.slotsUsed).setVm hW'.alike, X.tail, State.WarmedH.trans X.warmed hW', X.limits, X.bytes, X.same.trans (hsame.setVm s.vm)⟩,
      ⟨g, mk, s₂, L, rfl, rfl, hqc, rfl, hL, rfl, rfl⟩, ?_⟩
    show Steps p.tables e below _ ((({ U with heap := s₂.heap, slotsUsed := s₂.slotsUsed } : State).setVm s₂.vm).setTop { g with pc := g.pc + len₂, stack := v.toList ++ g.stack })
    rw [← hs₂]
    exact hsteps
  · obtain ⟨e2, q2, q3, q4, q5, q6⟩ := id hsm
    have e3 : s₂ = ({ (U.calling g mk a).setFrames s₂.frames with heap := s₂.heap, slotsUsed := s₂.slotsUsed } : State).setVm s₂.vm := by
      have : s₂ = ({ s₂ with vm := (U.calling g mk a).vm } : State).setVm s₂.vm := rfl
      rw [e2] at this
      exact this
    have hf₂ : s₂.frames = .throwing q :: .java g :: U.frames.tail := hend
    have hW' : U.WarmedH s₂.vm := hW₂
    have hs₂ : s₂ = ((({ U with heap := s₂.heap, slotsUsed := s₂.slotsUsed } : State).setVm s₂.vm).setTop g).pushFrame (.throwing q) := by
      refine e3.trans ?_
      rw [hf₂, State.calling_eq h.top, State.setFrames_setFrames, State.pushFrame, State.frames_setTop _ hr', State.setTop_of_frames _ hr', State.setFrames_setFrames, hr]
      rfl
    have hsame : U.sameButNew ({ U with heap := s₂.heap, slotsUsed := s₂.slotsUsed } : State) L mc ms := by
      refine ⟨?_, q2, q3, q4, q5, q6⟩
      obtain ⟨t, ht, -⟩ := State.frames_cons hr
      show ({ U with heap := s₂.heap, slotsUsed := s₂.slotsUsed } : State) = { U.setFrames U.frames with heap := s₂.heap, slotsUsed := s₂.slotsUsed }
      rw [State.setFrames_self ht]
    subst hg
    refine Or.inr ⟨q, ⟨(({ U with heap := s₂.heap, slotsUsed := s₂.slotsUsed } : State).setVm s₂.vm), Ls ++ L, c0 + mc, s0 + ms⟩,
      ⟨X.admits, X.cas, X.clock, X.frames, X.room, X.hears, X.method, X.code, (X.here.setHeapUsed s₂.heap s₂.slotsUsed).setVm hW'.alike, X.tail, State.WarmedH.trans X.warmed hW', X.limits, X.bytes, X.same.trans (hsame.setVm s.vm)⟩,
      ⟨g, mk, s₂, L, E, ce, rfl, rfl, hx, hce, hcv, hcl, rfl, hL, rfl, rfl⟩, ?_⟩
    show Steps p.tables e below _ (((({ U with heap := s₂.heap, slotsUsed := s₂.slotsUsed } : State).setVm s₂.vm).setTop g).pushFrame (.throwing q))
    rw [← hs₂]
    exact hsteps
end Payer
section Calls
variable {p : Program} {l : Launch} {e : Env} {R : Room} {s : State} {m : MethodId} {args : Array Value} {below : List Frame} {meth : Method} {c : Code} {T : State} {locs : List Loc} {cells slots : Nat}
theorem vx_callV (X : Stand p l e R s m args below meth c T locs cells slots) (hexec : p.tables.exec = Jvm.exec) {own C : String} {index : Nat} {y : MethodName} {bytes : ByteArray} {maxL : Nat} {ret : Option FieldType}
    (hown : s.vm.findClass own = some m.cls) (hlink : (Cond.methodLink own index y).before args s = true) (hinst : (Cond.instanceMethod y).before args s = true) (hsel : (Cond.selects C y y).before args s = true)
    (hcode : (Cond.code y bytes maxL ret).before args s = true) (hy : y.cls ≠ "java/lang/invoke/MethodHandle" ∧ y.cls ≠ "java/lang/invoke/VarHandle")
    {W9 : Nat} {Pre : Pt → Array Value → Prop} {Post : Pt → Array Value → Option Value → Pt → Prop} {PostX : Pt → Array Value → Addr → Pt → Prop} (hK : vx_Back l R p e below s args y 3 W9 Pre Post PostX)
    {b : Addr} {cellB : Cell} (hcell : T.heap[b]? = some cellB) (hobj : cellB.vm.isStatics = false) (hcls : s.vm.findClass C = some cellB.cls)
    {g : JFrame} (hg : g.method = m) (hsize : g.locals.size = c.maxLocals) {argsL rest : List Value} (hlen : ∀ sig, parseMethodDescriptor y.desc = some sig → argsL.length = sig.parameters.length)
    (hstack : g.stack = argsL.reverse ++ .ref b :: rest) (hW : 2 * g.monitorRoom + (rest.map fun v => v.category).sum ≤ W9) (hdg : decode c.code g.pc = .ok (.invokevirtual index, 3))
    (hpre : ∀ vm₁, s.WarmedH vm₁ → Pre ⟨T.setVm vm₁, locs, cells, slots⟩ (Value.ref b :: argsL).toArray) :
    (∃ (v : Option Value) (vm₁ : Vm) (B : Pt), s.WarmedH vm₁ ∧ Stand p l e R s m args below meth c B.U B.locs B.cells B.slots ∧ Post ⟨T.setVm vm₁, locs, cells, slots⟩ (Value.ref b :: argsL).toArray v B ∧
      ∀ target, Steps p.tables e below (B.U.setTop { g with pc := g.pc + 3, stack := v.toList ++ rest }) target → Steps p.tables e below (T.setTop g) target) ∨
    (∃ (q : Addr) (vm₁ : Vm) (B : Pt), s.WarmedH vm₁ ∧ Stand p l e R s m args below meth c B.U B.locs B.cells B.slots ∧ PostX ⟨T.setVm vm₁, locs, cells, slots⟩ (Value.ref b :: argsL).toArray q B ∧
      Steps p.tables e below (T.setTop g) ((B.U.setTop { g with stack := rest }).pushFrame (.throwing q))) := by
  obtain ⟨mk, methM, hnamed, hmethM, hstM, habM⟩ := Cond.instanceMethod_spec hinst
  obtain ⟨methM', cM, hmethM', -, -, -, -, -, -, hsigM⟩ := Cond.code_spec hnamed hcode
  cases hmethM.symm.trans hmethM'
  obtain ⟨c2, r2, m2, q1, q2, q3, q4, kP, hkP, hkPi⟩ := Cond.selects_spec hsel
  cases hcls.symm.trans q1
  cases (State.methodFound?_of_named hnamed hy).symm.trans q2
  cases hnamed.symm.trans q3
  have hselP : selectMethod e.platform s.vm cellB.cls mk = .method mk := by rw [Launch.admits_selectMethod X.admits]; exact q4
  obtain ⟨vm₁, X₁, hstep₁⟩ := X.invokevirtual hexec hown hlink hnamed hmethM hstM hkP hkPi hy (a := b) (cell := cellB) hcell
    (fun z h => by rw [h] at hobj; cases hobj) hselP hmethM habM hkP hkPi (g := g) hg (argsL := argsL) (rest := rest) (hlen _ hsigM) hstack hdg
  rcases hK m meth c ⟨T.setVm vm₁, locs, cells, slots⟩ { g with stack := rest } (.invokevirtual index) mk (Value.ref b :: argsL).toArray X₁ hg hsize hdg hW (X₁.named hnamed) (hpre vm₁ X₁.warmed) with ⟨v, B, X', hpost, hsteps⟩ | ⟨q, B, X', hpost, hsteps⟩
  · exact Or.inl ⟨v, vm₁, B, X₁.warmed, X', hpost, fun target h => hstep₁ _ fun acts => by rw [doInvoke_state]; exact hsteps.trans h⟩
  · exact Or.inr ⟨q, vm₁, B, X₁.warmed, X', hpost, hstep₁ _ fun acts => by rw [doInvoke_state]; exact hsteps⟩
theorem vx_callS (X : Stand p l e R s m args below meth c T locs cells slots) (hexec : p.tables.exec = Jvm.exec) {own : String} {index : Nat} {y : MethodName} {bytes : ByteArray} {maxL : Nat} {ret : Option FieldType}
    (hown : s.vm.findClass own = some m.cls) (hlink : (Cond.methodLink own index y).before args s = true) (hstat : (Cond.static y).before args s = true) (hinit : (Cond.initialized y.cls).before args s = true)
    (hcode : (Cond.code y bytes maxL ret).before args s = true) (hy : y.cls ≠ "java/lang/invoke/MethodHandle" ∧ y.cls ≠ "java/lang/invoke/VarHandle")
    {W9 : Nat} {Pre : Pt → Array Value → Prop} {Post : Pt → Array Value → Option Value → Pt → Prop} {PostX : Pt → Array Value → Addr → Pt → Prop} (hK : vx_Back l R p e below s args y 3 W9 Pre Post PostX)
    {g : JFrame} (hg : g.method = m) (hsize : g.locals.size = c.maxLocals) {argsL rest : List Value} (hlen : ∀ sig, parseMethodDescriptor y.desc = some sig → argsL.length = sig.parameters.length)
    (hstack : g.stack = argsL.reverse ++ rest) (hW : 2 * g.monitorRoom + (rest.map fun v => v.category).sum ≤ W9) (hdg : decode c.code g.pc = .ok (.invokestatic index, 3))
    (hpre : ∀ vm₁, s.WarmedH vm₁ → Pre ⟨T.setVm vm₁, locs, cells, slots⟩ argsL.toArray) :
    (∃ (v : Option Value) (vm₁ : Vm) (B : Pt), s.WarmedH vm₁ ∧ Stand p l e R s m args below meth c B.U B.locs B.cells B.slots ∧ Post ⟨T.setVm vm₁, locs, cells, slots⟩ argsL.toArray v B ∧
      ∀ target, Steps p.tables e below (B.U.setTop { g with pc := g.pc + 3, stack := v.toList ++ rest }) target → Steps p.tables e below (T.setTop g) target) ∨
    (∃ (q : Addr) (vm₁ : Vm) (B : Pt), s.WarmedH vm₁ ∧ Stand p l e R s m args below meth c B.U B.locs B.cells B.slots ∧ PostX ⟨T.setVm vm₁, locs, cells, slots⟩ argsL.toArray q B ∧
      Steps p.tables e below (T.setTop g) ((B.U.setTop { g with stack := rest }).pushFrame (.throwing q))) := by
  obtain ⟨mk, hnamed⟩ := Cond.code_named hcode
  obtain ⟨methM, cM, hmethM, -, -, -, -, -, -, hsigM⟩ := Cond.code_spec hnamed hcode
  have hstatic : methM.isStatic = true := Cond.static_spec hnamed hmethM hstat
  obtain ⟨kP, hkP, -⟩ := className_of_methodNamed hnamed
  have hinitP : kP.init = .initialized := Cond.initialized_spec (findClass_of_methodNamed hnamed) hkP hinit
  obtain ⟨vm₁, X₁, hstep₁⟩ := X.invokestatic hexec hown hlink hnamed hmethM hstatic hkP hinitP hy (g := g) hg (argsL := argsL) (rest := rest) (hlen _ hsigM) hstack hdg
  rcases hK m meth c ⟨T.setVm vm₁, locs, cells, slots⟩ { g with stack := rest } (.invokestatic index) mk argsL.toArray X₁ hg hsize hdg hW (X₁.named hnamed) (hpre vm₁ X₁.warmed) with ⟨v, B, X', hpost, hsteps⟩ | ⟨q, B, X', hpost, hsteps⟩
  · exact Or.inl ⟨v, vm₁, B, X₁.warmed, X', hpost, fun target h => hstep₁ _ fun acts => by rw [doInvoke_state]; exact hsteps.trans h⟩
  · exact Or.inr ⟨q, vm₁, B, X₁.warmed, X', hpost, hstep₁ _ fun acts => by rw [doInvoke_state]; exact hsteps⟩
end Calls
theorem vx_cls {s : State} {T : State} {vm₁ : Vm} {E : String} {k : ClassId} (hW : s.WarmedH vm₁) (h : (T.setVm vm₁).vm.findClass E = some k) : s.vm.findClass E = some k := by
  have h1 : vm₁.findClass E = some k := h
  rw [hW.alike.findClass] at h1
  exact h1
/-- the method's frame g, with q thrown over it -/
def vx_W (p : Program) (l : Launch) (e : Env) (R : Room) (s : State) (m : MethodId) (args : Array Value) (below : List Frame) (meth : Method) (c : Code) (H : Heap) (locs : List Loc) (cells slots : Nat) (Q : State → Prop) (g : JFrame) (q : Addr) : Prop :=
  ∀ T : State, T.heap = H → Stand p l e R s m args below meth c T locs cells slots → ∃ t, Steps p.tables e below ((T.setTop g).pushFrame (.throwing q)) t ∧ Q t
def vx_Run (p : Program) (l : Launch) (e : Env) (R : Room) (s : State) (m : MethodId) (args : Array Value) (below : List Frame) (meth : Method) (c : Code) (H : Heap) (locs : List Loc) (cells slots mc ms : Nat) (g : JFrame) (rest : List Value) (Qa : State → Outcome → State → Prop) (XC : String → State → State → Prop) (free : Addr → Prop) : Prop :=
  ∀ T : State, T.heap = H → Stand p l e R s m args below meth c T locs cells slots →
    (∃ (v : Option Value) (st₀ t T' : State) (L : List Loc), st₀.heap = H ∧ Stand p l e R s m args below meth c T' (locs ++ L) (cells + mc) (slots + ms) ∧ (∀ q ∈ L, free q.base) ∧ T'.heap = t.heap ∧ T'.vm = t.vm ∧ Qa st₀ (.returned v) t ∧
      Goes p e below T g T' { g with pc := g.pc + 3, stack := v.toList ++ rest }) ∨
    (∃ (q : Addr) (st₀ t T' : State) (L : List Loc) (E : String) (ce : Cell), st₀.heap = H ∧ Stand p l e R s m args below meth c T' (locs ++ L) (cells + mc) (slots + ms) ∧ (∀ z ∈ L, free z.base) ∧ T'.heap = t.heap ∧ T'.vm = t.vm ∧ XC E st₀ t ∧ t.heap[q]? = some ce ∧ ce.vm = .none ∧ s.vm.findClass E = some ce.cls ∧
      Steps p.tables e below (T.setTop g) ((T'.setTop { g with stack := rest }).pushFrame (.throwing q)))
def vx_X {S : Type} (px : S → Prop) (B : String → S → State → Prop) (A : Nat → Prop) : String → State → State → Prop := fun E st t => ∃ u : S, px u ∧ B E u t ∧ va_F A st t
section Runs
variable {p : Program} {l : Launch} {e : Env} {R : Room} {s : State} {m : MethodId} {args : Array Value} {below : List Frame} {meth : Method} {c : Code} {H : Heap} {locs : List Loc} {cells slots : Nat}
variable {y : MethodName} {bytes cc : ByteArray} {maxL nL mc ms n index : Nat} {ret : Option FieldType} {ws : List Cond} {rm : Room} {Pc : Array Value → State → Prop} {Qc : Array Value → State → Outcome → State → Prop} {XC : String → State → State → Prop} {free : Addr → Prop} {Ts : List Cond} {own C : String} {b : Addr} {As rest : List Value} {g : JFrame}
theorem vx_callBack (cb : CallB R s args own index y bytes maxL ret ws rm mc ms n) (hM : vx_Met l y ws rm Pc Qc XC mc ms free) (hbl : FrameBlind Pc) : vx_Back l R p e below s args y 3 8 (PreOf R mc ms Pc) (PostOf Qc mc ms free) (vx_Post XC mc ms free) := by
  obtain ⟨hrc, hrs, hfr, hlo, hws, hcw, -, hini, -⟩ := cb
  exact vx_back (bytes := bytes) (maxL := maxL) (ret := ret) hM hbl hrc hrs hfr hlo hws hcw (fun a' U hW => word_at hW (Or.inl (by first | rfl | simp [Cond.onTables, Cond.keeps, Cond.steady])) hini)
theorem vx_runV (S : CallFix p m c cc nL s args Ts own) (hM : vx_Met l y ws rm Pc Qc XC mc ms free) (cw : CallW R s args own C index y bytes maxL ret ws rm mc ms n) (hp : PreV s H C b Pc As)
    (hg : g.method = m) (hn : As.length = n) (hsize : g.locals.size = nL) (hstack : g.stack = As.reverse ++ .ref b :: rest) (hW : 2 * g.monitorRoom + (rest.map fun v => v.category).sum ≤ 8) (hdg : decode cc g.pc = .ok (.invokevirtual index, 3)) (hf : cells + mc ≤ R.cells ∧ slots + ms ≤ R.slots) :
    vx_Run p l e R s m args below meth c H locs cells slots mc ms g rest (Qc (Value.ref b :: As).toArray) XC free := by
  have hK : vx_Back l R p e below s args y 3 8 (PreOf R mc ms Pc) (PostOf Qc mc ms free) (vx_Post XC mc ms free) := vx_callBack cw.1 hM hp.1
  obtain ⟨⟨-, -, -, -, -, -, hcode, -, hy, hlen, hl⟩, hin, hse⟩ := cw
  obtain ⟨hx, hb, hml, ho, -⟩ := S
  obtain ⟨-, ⟨cellB, hcB, hoB, hclB⟩, hPc⟩ := hp
  intro T hT X
  rcases vx_callV X hx (C := C) (bytes := bytes) (maxL := maxL) (ret := ret) ho hl hin hse hcode hy hK (by rw [hT]; exact hcB) hoB hclB hg (hsize.trans hml.symm) (argsL := As) (rest := rest) (fun sig h => hn.trans (hlen sig h)) hstack hW (by rw [hb]; exact hdg)
    (fun vm₁ hW₁ => ⟨hf.1, hf.2, hPc (T.setVm vm₁) hT hW₁⟩) with ⟨v, vm₁, ⟨U', l2, c2, s2⟩, hW₁, X', ⟨g', mk, t, L, e1, e2, hq, h1, hL, h2, h3⟩, st⟩ | ⟨q, vm₁, ⟨U', l2, c2, s2⟩, hW₁, X', ⟨g', mk, t, L, E, ce, e1, e2, hq, hce, hcv, hcl, h1, hL, h2, h3⟩, st⟩
  · dsimp only [Pt.U, Pt.locs, Pt.cells, Pt.slots] at X' e1 e2 h1 h2 h3 st
    subst h1; subst h2; subst h3
    exact Or.inl ⟨v, (T.setVm vm₁).calling g' mk (Value.ref b :: As).toArray, t, U', L, hT, X', hL, e1, e2, hq, st⟩
  · dsimp only [Pt.U, Pt.locs, Pt.cells, Pt.slots] at X' e1 e2 h1 h2 h3 st hcl
    subst h1; subst h2; subst h3
    exact Or.inr ⟨q, (T.setVm vm₁).calling g' mk (Value.ref b :: As).toArray, t, U', L, E, ce, hT, X', hL, e1, e2, hq, hce, hcv, vx_cls hW₁ hcl, st⟩
theorem vx_runS (S : CallFix p m c cc nL s args Ts own) (hM : vx_Met l y ws rm Pc Qc XC mc ms free) (cw : CallB R s args own index y bytes maxL ret ws rm mc ms n ∧ (Cond.static y).before args s = true) (hp : PreS s H Pc As)
    (hg : g.method = m) (hn : As.length = n) (hsize : g.locals.size = nL) (hstack : g.stack = As.reverse ++ rest) (hW : 2 * g.monitorRoom + (rest.map fun v => v.category).sum ≤ 8) (hdg : decode cc g.pc = .ok (.invokestatic index, 3)) (hf : cells + mc ≤ R.cells ∧ slots + ms ≤ R.slots) :
    vx_Run p l e R s m args below meth c H locs cells slots mc ms g rest (Qc As.toArray) XC free := by
  have hK : vx_Back l R p e below s args y 3 8 (PreOf R mc ms Pc) (PostOf Qc mc ms free) (vx_Post XC mc ms free) := vx_callBack cw.1 hM hp.1
  obtain ⟨⟨-, -, -, -, -, -, hcode, hini, hy, hlen, hl⟩, hstt⟩ := cw
  obtain ⟨hx, hb, hml, ho, -⟩ := S
  intro T hT X
  rcases vx_callS X hx (bytes := bytes) (maxL := maxL) (ret := ret) ho hl hstt hini hcode hy hK hg (hsize.trans hml.symm) (argsL := As) (rest := rest) (fun sig h => hn.trans (hlen sig h)) hstack hW (by rw [hb]; exact hdg)
    (fun vm₁ hW₁ => ⟨hf.1, hf.2, hp.2 (T.setVm vm₁) hT hW₁⟩) with ⟨v, vm₁, ⟨U', l2, c2, s2⟩, hW₁, X', ⟨g', mk, t, L, e1, e2, hq, h1, hL, h2, h3⟩, st⟩ | ⟨q, vm₁, ⟨U', l2, c2, s2⟩, hW₁, X', ⟨g', mk, t, L, E, ce, e1, e2, hq, hce, hcv, hcl, h1, hL, h2, h3⟩, st⟩
  · dsimp only [Pt.U, Pt.locs, Pt.cells, Pt.slots] at X' e1 e2 h1 h2 h3 st
    subst h1; subst h2; subst h3
    exact Or.inl ⟨v, (T.setVm vm₁).calling g' mk As.toArray, t, U', L, hT, X', hL, e1, e2, hq, st⟩
  · dsimp only [Pt.U, Pt.locs, Pt.cells, Pt.slots] at X' e1 e2 h1 h2 h3 st hcl
    subst h1; subst h2; subst h3
    exact Or.inr ⟨q, (T.setVm vm₁).calling g' mk As.toArray, t, U', L, E, ce, hT, X', hL, e1, e2, hq, hce, hcv, vx_cls hW₁ hcl, st⟩
end Runs
section Rows
variable {p : Program} {l : Launch} {e : Env} {R : Room} {s : State} {m : MethodId} {args : Array Value} {below : List Frame} {meth : Method} {c : Code} {H : Heap} {locs : List Loc} {cells slots : Nat} {Q : State → Prop}
variable {mc ms : Nat} {free : Addr → Prop} {A0 A1 : Nat → Prop} {H0 : Heap} {a : Array Value} {pc : Nat} {ls : Array Slot} {st0 rest : List Value}
theorem vx_keep {st₀ t T' : State} {L : List Loc} (h0 : st₀.heap = H) (e1 : T'.heap = t.heap) (hS : va_S A0 H0 H locs) (hA : ∀ q, q < H.size → A1 q → A0 q) (hf : ∀ q, free q → A0 q) (hL : ∀ q ∈ L, free q.base) (hF : va_F A1 st₀ t) :
    H.size ≤ T'.heap.size ∧ (∀ q : Nat, q < H.size → ¬ A1 q → T'.heap[q]? = H[q]?) ∧ va_S A0 H0 T'.heap (locs ++ L) := by
  obtain ⟨hz, hk⟩ := hF
  rw [h0] at hz hk
  exact ⟨by rw [e1]; exact hz, fun q h1 h2 => by rw [e1]; exact hk q h1 h2,
    ⟨Nat.le_trans hS.1 (by rw [e1]; exact hz), fun q h1 h2 => by rw [e1, hk q (Nat.lt_of_lt_of_le h1 hS.1) (fun z => h2 (hA q (Nat.lt_of_lt_of_le h1 hS.1) z))]; exact hS.2.1 q h1 h2, fun q hq => by
      rcases List.mem_append.mp hq with h | h
      · exact hS.2.2 q h
      · exact hf _ (hL q h)⟩⟩
theorem vx_calli {S SX : Type} {post : Int32 → S → Prop} {px : SX → Prop} {B : S → State → Prop} {BX : String → SX → State → Prop} {AX : Nat → Prop} (hr : vx_Run p l e R s m args below meth c H locs cells slots mc ms (F0 m pc ls st0) rest (va_Qi post B A1 a) (vx_X px BX AX) free) (hS : va_S A0 H0 H locs) (hA : ∀ q, q < H.size → A1 q → A0 q) (hf : ∀ q, free q → A0 q) (hAX : ∀ q, q < H.size → AX q → A0 q)
    (kx : ∀ (E : String) (ce : Cell) (q9 : Addr) (u : SX) (t : State) (H1 : Heap) (locs1 : List Loc), t.heap = H1 → s.vm.Alike t.vm → px u → BX E u t → H.size ≤ H1.size → (∀ q : Nat, q < H.size → ¬ AX q → H1[q]? = H[q]?) → va_S A0 H0 H1 locs1 → H1[q9]? = some ce → ce.vm = .none → s.vm.findClass E = some ce.cls → vx_W p l e R s m args below meth c H1 locs1 (cells + mc) (slots + ms) Q (F0 m pc ls rest) q9)
    (kk : ∀ (r : Int32) (u : S) (t : State) (H1 : Heap) (locs1 : List Loc), t.heap = H1 → s.vm.Alike t.vm → post r u → B u t → H.size ≤ H1.size → (∀ q : Nat, q < H.size → ¬ A1 q → H1[q]? = H[q]?) → va_S A0 H0 H1 locs1 → W p l e R s m args below meth c H1 locs1 (cells + mc) (slots + ms) Q (F0 m (pc + 3) ls (.int r :: rest))) : W p l e R s m args below meth c H locs cells slots Q (F0 m pc ls st0) := by
  intro T hT X
  rcases hr T hT X with ⟨v, st₀, t, T', L, h0, X', hL, e1, e2, ⟨⟨r, u, hv, hp, hb⟩, hF⟩, st⟩ | ⟨q, st₀, t, T', L, E, ce, h0, X', hL, e1, e2, ⟨u, hp, hb, hF⟩, hce, hcv, hcl, st⟩
  · cases hv
    obtain ⟨k1, k2, k3⟩ := vx_keep h0 e1 hS hA hf hL hF
    obtain ⟨t2, a1, b1⟩ := kk r u t T'.heap (locs ++ L) e1.symm (by rw [← e2]; exact X'.warmed.alike) hp hb k1 k2 k3 T' rfl X'
    exact ⟨t2, st t2 a1, b1⟩
  · obtain ⟨k1, k2, k3⟩ := vx_keep h0 e1 hS hAX hf hL hF
    obtain ⟨t2, a1, b1⟩ := kx E ce q u t T'.heap (locs ++ L) e1.symm (by rw [← e2]; exact X'.warmed.alike) hp hb k1 k2 k3 (by rw [e1]; exact hce) hcv hcl T' rfl X'
    exact ⟨t2, st.trans a1, b1⟩
theorem vx_calll {S SX : Type} {post : Int64 → S → Prop} {px : SX → Prop} {B : S → State → Prop} {BX : String → SX → State → Prop} {AX : Nat → Prop} (hr : vx_Run p l e R s m args below meth c H locs cells slots mc ms (F0 m pc ls st0) rest (va_Ql post B A1 a) (vx_X px BX AX) free) (hS : va_S A0 H0 H locs) (hA : ∀ q, q < H.size → A1 q → A0 q) (hf : ∀ q, free q → A0 q) (hAX : ∀ q, q < H.size → AX q → A0 q)
    (kx : ∀ (E : String) (ce : Cell) (q9 : Addr) (u : SX) (t : State) (H1 : Heap) (locs1 : List Loc), t.heap = H1 → s.vm.Alike t.vm → px u → BX E u t → H.size ≤ H1.size → (∀ q : Nat, q < H.size → ¬ AX q → H1[q]? = H[q]?) → va_S A0 H0 H1 locs1 → H1[q9]? = some ce → ce.vm = .none → s.vm.findClass E = some ce.cls → vx_W p l e R s m args below meth c H1 locs1 (cells + mc) (slots + ms) Q (F0 m pc ls rest) q9)
    (kk : ∀ (r : Int64) (u : S) (t : State) (H1 : Heap) (locs1 : List Loc), t.heap = H1 → s.vm.Alike t.vm → post r u → B u t → H.size ≤ H1.size → (∀ q : Nat, q < H.size → ¬ A1 q → H1[q]? = H[q]?) → va_S A0 H0 H1 locs1 → W p l e R s m args below meth c H1 locs1 (cells + mc) (slots + ms) Q (F0 m (pc + 3) ls (.long r :: rest))) : W p l e R s m args below meth c H locs cells slots Q (F0 m pc ls st0) := by
  intro T hT X
  rcases hr T hT X with ⟨v, st₀, t, T', L, h0, X', hL, e1, e2, ⟨⟨r, u, hv, hp, hb⟩, hF⟩, st⟩ | ⟨q, st₀, t, T', L, E, ce, h0, X', hL, e1, e2, ⟨u, hp, hb, hF⟩, hce, hcv, hcl, st⟩
  · cases hv
    obtain ⟨k1, k2, k3⟩ := vx_keep h0 e1 hS hA hf hL hF
    obtain ⟨t2, a1, b1⟩ := kk r u t T'.heap (locs ++ L) e1.symm (by rw [← e2]; exact X'.warmed.alike) hp hb k1 k2 k3 T' rfl X'
    exact ⟨t2, st t2 a1, b1⟩
  · obtain ⟨k1, k2, k3⟩ := vx_keep h0 e1 hS hAX hf hL hF
    obtain ⟨t2, a1, b1⟩ := kx E ce q u t T'.heap (locs ++ L) e1.symm (by rw [← e2]; exact X'.warmed.alike) hp hb k1 k2 k3 (by rw [e1]; exact hce) hcv hcl T' rfl X'
    exact ⟨t2, st.trans a1, b1⟩
theorem vx_callf {S SX : Type} {post : UInt32 → S → Prop} {px : SX → Prop} {B : S → State → Prop} {BX : String → SX → State → Prop} {AX : Nat → Prop} (hr : vx_Run p l e R s m args below meth c H locs cells slots mc ms (F0 m pc ls st0) rest (va_Qf post B A1 a) (vx_X px BX AX) free) (hS : va_S A0 H0 H locs) (hA : ∀ q, q < H.size → A1 q → A0 q) (hf : ∀ q, free q → A0 q) (hAX : ∀ q, q < H.size → AX q → A0 q)
    (kx : ∀ (E : String) (ce : Cell) (q9 : Addr) (u : SX) (t : State) (H1 : Heap) (locs1 : List Loc), t.heap = H1 → s.vm.Alike t.vm → px u → BX E u t → H.size ≤ H1.size → (∀ q : Nat, q < H.size → ¬ AX q → H1[q]? = H[q]?) → va_S A0 H0 H1 locs1 → H1[q9]? = some ce → ce.vm = .none → s.vm.findClass E = some ce.cls → vx_W p l e R s m args below meth c H1 locs1 (cells + mc) (slots + ms) Q (F0 m pc ls rest) q9)
    (kk : ∀ (r : UInt32) (u : S) (t : State) (H1 : Heap) (locs1 : List Loc), t.heap = H1 → s.vm.Alike t.vm → post r u → B u t → H.size ≤ H1.size → (∀ q : Nat, q < H.size → ¬ A1 q → H1[q]? = H[q]?) → va_S A0 H0 H1 locs1 → W p l e R s m args below meth c H1 locs1 (cells + mc) (slots + ms) Q (F0 m (pc + 3) ls (.float r :: rest))) : W p l e R s m args below meth c H locs cells slots Q (F0 m pc ls st0) := by
  intro T hT X
  rcases hr T hT X with ⟨v, st₀, t, T', L, h0, X', hL, e1, e2, ⟨⟨r, u, hv, hp, hb⟩, hF⟩, st⟩ | ⟨q, st₀, t, T', L, E, ce, h0, X', hL, e1, e2, ⟨u, hp, hb, hF⟩, hce, hcv, hcl, st⟩
  · cases hv
    obtain ⟨k1, k2, k3⟩ := vx_keep h0 e1 hS hA hf hL hF
    obtain ⟨t2, a1, b1⟩ := kk r u t T'.heap (locs ++ L) e1.symm (by rw [← e2]; exact X'.warmed.alike) hp hb k1 k2 k3 T' rfl X'
    exact ⟨t2, st t2 a1, b1⟩
  · obtain ⟨k1, k2, k3⟩ := vx_keep h0 e1 hS hAX hf hL hF
    obtain ⟨t2, a1, b1⟩ := kx E ce q u t T'.heap (locs ++ L) e1.symm (by rw [← e2]; exact X'.warmed.alike) hp hb k1 k2 k3 (by rw [e1]; exact hce) hcv hcl T' rfl X'
    exact ⟨t2, st.trans a1, b1⟩
theorem vx_calld {S SX : Type} {post : UInt64 → S → Prop} {px : SX → Prop} {B : S → State → Prop} {BX : String → SX → State → Prop} {AX : Nat → Prop} (hr : vx_Run p l e R s m args below meth c H locs cells slots mc ms (F0 m pc ls st0) rest (va_Qd post B A1 a) (vx_X px BX AX) free) (hS : va_S A0 H0 H locs) (hA : ∀ q, q < H.size → A1 q → A0 q) (hf : ∀ q, free q → A0 q) (hAX : ∀ q, q < H.size → AX q → A0 q)
    (kx : ∀ (E : String) (ce : Cell) (q9 : Addr) (u : SX) (t : State) (H1 : Heap) (locs1 : List Loc), t.heap = H1 → s.vm.Alike t.vm → px u → BX E u t → H.size ≤ H1.size → (∀ q : Nat, q < H.size → ¬ AX q → H1[q]? = H[q]?) → va_S A0 H0 H1 locs1 → H1[q9]? = some ce → ce.vm = .none → s.vm.findClass E = some ce.cls → vx_W p l e R s m args below meth c H1 locs1 (cells + mc) (slots + ms) Q (F0 m pc ls rest) q9)
    (kk : ∀ (r : UInt64) (u : S) (t : State) (H1 : Heap) (locs1 : List Loc), t.heap = H1 → s.vm.Alike t.vm → post r u → B u t → H.size ≤ H1.size → (∀ q : Nat, q < H.size → ¬ A1 q → H1[q]? = H[q]?) → va_S A0 H0 H1 locs1 → W p l e R s m args below meth c H1 locs1 (cells + mc) (slots + ms) Q (F0 m (pc + 3) ls (.double r :: rest))) : W p l e R s m args below meth c H locs cells slots Q (F0 m pc ls st0) := by
  intro T hT X
  rcases hr T hT X with ⟨v, st₀, t, T', L, h0, X', hL, e1, e2, ⟨⟨r, u, hv, hp, hb⟩, hF⟩, st⟩ | ⟨q, st₀, t, T', L, E, ce, h0, X', hL, e1, e2, ⟨u, hp, hb, hF⟩, hce, hcv, hcl, st⟩
  · cases hv
    obtain ⟨k1, k2, k3⟩ := vx_keep h0 e1 hS hA hf hL hF
    obtain ⟨t2, a1, b1⟩ := kk r u t T'.heap (locs ++ L) e1.symm (by rw [← e2]; exact X'.warmed.alike) hp hb k1 k2 k3 T' rfl X'
    exact ⟨t2, st t2 a1, b1⟩
  · obtain ⟨k1, k2, k3⟩ := vx_keep h0 e1 hS hAX hf hL hF
    obtain ⟨t2, a1, b1⟩ := kx E ce q u t T'.heap (locs ++ L) e1.symm (by rw [← e2]; exact X'.warmed.alike) hp hb k1 k2 k3 (by rw [e1]; exact hce) hcv hcl T' rfl X'
    exact ⟨t2, st.trans a1, b1⟩
theorem vx_callv {S SX : Type} {post : S → Prop} {px : SX → Prop} {B : S → State → Prop} {BX : String → SX → State → Prop} {AX : Nat → Prop} (hr : vx_Run p l e R s m args below meth c H locs cells slots mc ms (F0 m pc ls st0) rest (va_Qv post B A1 a) (vx_X px BX AX) free) (hS : va_S A0 H0 H locs) (hA : ∀ q, q < H.size → A1 q → A0 q) (hf : ∀ q, free q → A0 q) (hAX : ∀ q, q < H.size → AX q → A0 q)
    (kx : ∀ (E : String) (ce : Cell) (q9 : Addr) (u : SX) (t : State) (H1 : Heap) (locs1 : List Loc), t.heap = H1 → s.vm.Alike t.vm → px u → BX E u t → H.size ≤ H1.size → (∀ q : Nat, q < H.size → ¬ AX q → H1[q]? = H[q]?) → va_S A0 H0 H1 locs1 → H1[q9]? = some ce → ce.vm = .none → s.vm.findClass E = some ce.cls → vx_W p l e R s m args below meth c H1 locs1 (cells + mc) (slots + ms) Q (F0 m pc ls rest) q9)
    (kk : ∀ (u : S) (t : State) (H1 : Heap) (locs1 : List Loc), t.heap = H1 → s.vm.Alike t.vm → post u → B u t → H.size ≤ H1.size → (∀ q : Nat, q < H.size → ¬ A1 q → H1[q]? = H[q]?) → va_S A0 H0 H1 locs1 → W p l e R s m args below meth c H1 locs1 (cells + mc) (slots + ms) Q (F0 m (pc + 3) ls (rest))) : W p l e R s m args below meth c H locs cells slots Q (F0 m pc ls st0) := by
  intro T hT X
  rcases hr T hT X with ⟨v, st₀, t, T', L, h0, X', hL, e1, e2, ⟨⟨u, hv, hp, hb⟩, hF⟩, st⟩ | ⟨q, st₀, t, T', L, E, ce, h0, X', hL, e1, e2, ⟨u, hp, hb, hF⟩, hce, hcv, hcl, st⟩
  · cases hv
    obtain ⟨k1, k2, k3⟩ := vx_keep h0 e1 hS hA hf hL hF
    obtain ⟨t2, a1, b1⟩ := kk u t T'.heap (locs ++ L) e1.symm (by rw [← e2]; exact X'.warmed.alike) hp hb k1 k2 k3 T' rfl X'
    exact ⟨t2, st t2 a1, b1⟩
  · obtain ⟨k1, k2, k3⟩ := vx_keep h0 e1 hS hAX hf hL hF
    obtain ⟨t2, a1, b1⟩ := kx E ce q u t T'.heap (locs ++ L) e1.symm (by rw [← e2]; exact X'.warmed.alike) hp hb k1 k2 k3 (by rw [e1]; exact hce) hcv hcl T' rfl X'
    exact ⟨t2, st.trans a1, b1⟩
/-- caught by the row x of this method's table; the rows ahead don't take it -/
theorem vx_catch {own name : String} {E : String} {ce : Cell} {q : Addr} (hown : s.vm.findClass own = some m.cls) (pre : List ExceptionTableEntry) (x : ExceptionTableEntry) (suf : List ExceptionTableEntry) (hsplit : c.exceptionTable.toList = pre ++ x :: suf)
    (hpass : ∀ z ∈ pre, covers z pc = false ∨ (z.catchType ≠ 0 ∧ ∃ nm : String, (Cond.classLink own z.catchType nm).before args s = true ∧ va_Nc E nm s)) (hx : covers x pc = true) (h0 : x.catchType ≠ 0)
    (hlink : (Cond.classLink own x.catchType name).before args s = true) (hcast : (Cond.castable E name).before args s = true) (hcell : H[q]? = some ce) (hv : ce.vm = .none) (hcl : s.vm.findClass E = some ce.cls)
    (kk : W p l e R s m args below meth c H locs cells slots Q (F0 m x.handlerPc ls [.ref q])) : vx_W p l e R s m args below meth c H locs cells slots Q (F0 m pc ls rest) q := by
  intro T hT X
  have hpl : e.platform.magicAccessors = ({} : Platform).magicAccessors := by rw [X.admits.platform]
  obtain ⟨c3, c4, hc3, hc4, hasg⟩ := Cond.castable_spec hcast
  cases Option.some.inj (hc3.symm.trans hcl)
  obtain ⟨c5, hc5, hcl5⟩ := Cond.classLink_spec hown hlink e.platform hpl
  cases Option.some.inj (hc4.symm.trans hc5)
  obtain ⟨vm', X', st⟩ := X.thenCaughtThrough q (g := F0 m pc ls rest) rfl (Steps.refl _) (by rw [hT]; exact hcell) (by rw [hv]; rfl) (by obtain ⟨k9, h9, -⟩ := Vm.findClass_spec hcl; exact ⟨k9, h9⟩) pre x suf hsplit
    (fun z hz => by
      rcases hpass z hz with h | ⟨hz0, nm, hl1, hn1⟩
      · exact Or.inl h
      · obtain ⟨c6, hc6, hcl6⟩ := Cond.classLink_spec hown hl1 e.platform hpl
        obtain ⟨a8, b8, h1, h2, h3⟩ := hn1
        cases Option.some.inj (h1.symm.trans hcl)
        cases Option.some.inj (h2.symm.trans hc6)
        exact Or.inr ⟨hz0, _, hcl6, h3⟩) hx (Or.inr ⟨h0, c4, hcl5, hasg⟩)
  obtain ⟨t, a1, b1⟩ := kk (T.setVm vm') hT X'
  exact ⟨t, st.trans a1, b1⟩
end Rows
section Ends
variable {p : Program} {l : Launch} {e : Env} {R : Room} {s : State} {m : MethodId} {args : Array Value} {below : List Frame} {meth : Method} {c : Code} {H : Heap} {locs : List Loc} {cells slots : Nat} {Q : State → Prop}
variable {mc ms : Nat} {free : Addr → Prop} {A0 A1 : Nat → Prop} {H0 : Heap} {a : Array Value} {ls : Array Slot} {st0 rest : List Value}
variable {Qc : Array Value → State → Outcome → State → Prop} {XC : String → State → State → Prop}
/-- what a body that may throw owes at its end -/
def vx_MQ (below : List Frame) (Qc : Array Value → State → Outcome → State → Prop) (XC : String → State → State → Prop) (a : Array Value) (s : State) (mc ms : Nat) (free : Addr → Prop) : State → Prop := fun t =>
  ∃ o, t.status = .running ∧ Ended t below o ∧ vx_Q Qc XC mc ms free a s o t
theorem vx_ret {g : JFrame} {mc ms : Nat} (k : W p l e R s m args below meth c H locs cells slots (MQ below Qc args s mc ms free) g) : W p l e R s m args below meth c H locs cells slots (vx_MQ below Qc XC args s mc ms free) g := by
  intro T hT X
  obtain ⟨t, a1, o, b1, b2, b3, b4⟩ := k T hT X
  exact ⟨t, a1, o, b1, b2, Or.inl ⟨b3, b4⟩⟩
/-- not caught here: it goes on to the caller -/
theorem vx_widen {g : JFrame} {q : Addr} {k n : Nat} (h1 : cells ≤ k) (h2 : slots ≤ n) (kk : vx_W p l e R s m args below meth c H locs k n Q g q) : vx_W p l e R s m args below meth c H locs cells slots Q g q := fun T hT X => kk T hT (stand_widen X h1 h2)
theorem vx_out {pc : Nat} {E : String} {ce : Cell} {q : Addr} {mc ms : Nat} (hout : ∀ x ∈ c.exceptionTable.toList, covers x pc = false) (hlocks : meth.locks = false) (hcell : H[q]? = some ce) (hv : ce.vm = .none) (hcl : s.vm.findClass E = some ce.cls)
    (hx : ∀ t : State, t.heap = H → s.vm.Alike t.vm → XC E s t) (hf : ∀ z ∈ locs, free z.base) (hc : cells ≤ mc) (hs : slots ≤ ms) :
    vx_W p l e R s m args below meth c H locs cells slots (vx_MQ below Qc XC args s mc ms free) (F0 m pc ls rest) q := by
  intro T hT X
  obtain ⟨st1, hrun, hend, hW, hsm⟩ := X.leaveThrown q (g := F0 m pc ls rest) rfl rfl rfl hout hlocks
  have hcell9 : (T.setFrames (.throwing q :: below)).heap[q]? = some ce := by
    show T.heap[q]? = some ce
    rw [hT]; exact hcell
  exact ⟨_, st1, .threw q, hrun, hend, Or.inr ⟨q, rfl, E, ce, locs, hx _ hT hW.alike, hcell9, hv, hcl, hW, hsm.mono hc hs, hf⟩⟩
theorem vx_frame {U : State} {k n : Nat} (h : s.sameButNew ({ U with vm := s.vm } : State) locs k n) : s.heap.size ≤ U.heap.size ∧ ∀ q : Nat, q < s.heap.size → (∀ z ∈ locs, z.base ≠ q) → U.heap[q]? = s.heap[q]? := by
  obtain ⟨-, h2, -, -, -, h6⟩ := h
  refine ⟨h2, fun q hq hz => ?_⟩
  obtain ⟨c9, e1, e2, e3, e4⟩ := h6 q _ (Array.getElem?_eq_getElem hq)
  have hs : c9.slots = (s.heap[q]).slots := Array.ext_getElem? fun i => e4 i fun hm => hz _ hm rfl
  have h9 : c9 = s.heap[q] := by
    rw [hs] at e2
    exact e2
  have e5 : U.heap[q]? = some c9 := e1
  rw [e5, h9, Array.getElem?_eq_getElem hq]
/-- the words of a throw but the four that speak of the heap -/
def vx_no (w : Cond) : Bool := decide (w ≠ .isRef (.static Bundle.tN "UNASSIGNED_STACK" Bundle.steD)) && decide (w ≠ .isRef (.static Bundle.tN "SUPPRESSED_SENTINEL" Bundle.listD)) && decide (w ≠ .laysStatic Bundle.tN "UNASSIGNED_STACK" Bundle.steD) && decide (w ≠ .laysStatic Bundle.tN "SUPPRESSED_SENTINEL" Bundle.listD)
def vx_at0 (own : String) (ic : Nat) (X : String) (names : List String) : List Cond := (Bundle.ownAtoms0 own ic X names).filter vx_no
def vx_atS (own : String) (ic : Nat) (X : String) (names : List String) : List Cond := (Bundle.ownAtoms own ic X names).filter vx_no
/-- a word that the tables alone decide, or a good one -/
def vx_ot (w : Cond) : Bool := w.onTables || goodWord w
theorem vx_ot_at {args a' : Array Value} {s U : State} {w : Cond} (hW : s.WarmedH U.vm) (hvm : s.vm = U.vm) (hg : vx_ot w = true) (h : w.before args s = true) : w.before a' U = true := by
  simp only [vx_ot, Bool.or_eq_true] at hg
  rcases hg with hg | hg
  · exact va_tabs hg hvm h
  · exact word_at hW (good_of_word hg) h
/-- a list's words: the good ones out of the method's own list, the others by premises of their own -/
theorem vx_hat {args : Array Value} {s : State} {L B : List Cond} (h1 : ∀ w ∈ L.filter goodWord, w.before args s = true) (h2 : ∀ w ∈ L.filter (fun w => !goodWord w), w ∈ B) (h3 : ∀ w ∈ B, w.before args s = true) : ∀ w ∈ L, w.before args s = true := by
  intro w hw
  by_cases g : goodWord w = true
  · exact h1 w (List.mem_filter.mpr ⟨hw, g⟩)
  · refine h3 w (h2 w (List.mem_filter.mpr ⟨hw, ?_⟩))
    show (!goodWord w) = true
    cases hgw : goodWord w
    · rfl
    · exact absurd hgw g
theorem vx_c {args : Array Value} {s : State} {w : Cond} {B : List Cond} (h : w.before args s = true) (t : ∀ w ∈ B, w.before args s = true) : ∀ w' ∈ w :: B, w'.before args s = true := fun w' h' => (List.mem_cons.mp h').elim (fun e => by rw [e]; exact h) (t w')
theorem vx_n {args : Array Value} {s : State} : ∀ w ∈ ([] : List Cond), w.before args s = true := fun _ h => nomatch h
theorem vx_own {args : Array Value} {s : State} {L : List Cond} (h1 : ∀ w ∈ L.filter vx_no, w.before args s = true)
    (hU : (Cond.isRef (.static Bundle.tN "UNASSIGNED_STACK" Bundle.steD)).before args s = true) (hN : (Cond.isRef (.static Bundle.tN "SUPPRESSED_SENTINEL" Bundle.listD)).before args s = true)
    (lU : (Cond.laysStatic Bundle.tN "UNASSIGNED_STACK" Bundle.steD).before args s = true) (lN : (Cond.laysStatic Bundle.tN "SUPPRESSED_SENTINEL" Bundle.listD).before args s = true) : ∀ w ∈ L, w.before args s = true := by
  intro w hw
  by_cases e1 : w = .isRef (.static Bundle.tN "UNASSIGNED_STACK" Bundle.steD)
  · rw [e1]; exact hU
  · by_cases e2 : w = .isRef (.static Bundle.tN "SUPPRESSED_SENTINEL" Bundle.listD)
    · rw [e2]; exact hN
    · by_cases e3 : w = .laysStatic Bundle.tN "UNASSIGNED_STACK" Bundle.steD
      · rw [e3]; exact lU
      · by_cases e4 : w = .laysStatic Bundle.tN "SUPPRESSED_SENTINEL" Bundle.listD
        · rw [e4]; exact lN
        · exact h1 w (List.mem_filter.mpr ⟨hw, by unfold vx_no; rw [decide_eq_true e1, decide_eq_true e2, decide_eq_true e3, decide_eq_true e4]; rfl⟩)
/-- where a static field lies, its class's statics cell in H -/
def vx_L (C n d : String) (A : Nat → Prop) (U : State) (H : Heap) : Prop := ∃ (c : ClassId) (k : Class) (i : Nat) (f : Field) (a : Nat) (cell : Cell), U.vm.findClass C = some c ∧ U.fieldFound? C n d = some (c, k, i, f) ∧ f.isStatic = true ∧ k.statics = some a ∧ H[a]? = some cell ∧ cell.vm.isStatics = true ∧ cell.cls = c ∧ f.slot < cell.slots.size ∧ k.staticTypes[f.slot]? = some f.type ∧ ¬ A a
theorem vx_L.moved {C n d : String} {A : Nat → Prop} {u U : State} {H : Heap} (hvm : u.vm.Alike U.vm) (h : vx_L C n d A u H) : vx_L C n d A U H := by
  obtain ⟨c, k, i, f, a, cell, h1, h2, h3, h4, h5, h6, h7, h8, h9, h10⟩ := h
  obtain ⟨k', hi', he⟩ := State.fieldFound?_setVm hvm h2
  exact ⟨c, k', i, f, a, cell, by rw [hvm.findClass]; exact h1, hi', h3, by rw [he]; exact h4, h5, h6, h7, h8, by rw [he]; exact h9, h10⟩
theorem vx_L.kept {C n d : String} {A : Nat → Prop} {U : State} {H H1 : Heap} (h : vx_L C n d A U H) (hq : ∀ a : Nat, a < H.size → ¬ A a → H1[a]? = H[a]?) : vx_L C n d A U H1 := by
  obtain ⟨c, k, i, f, a, cell, h1, h2, h3, h4, h5, h6, h7, h8, h9, h10⟩ := h
  exact ⟨c, k, i, f, a, cell, h1, h2, h3, h4, by rw [hq a (Array.getElem?_eq_some_iff.mp h5).1 h10]; exact h5, h6, h7, h8, h9, h10⟩
theorem vx_L.narrow {C n d : String} {A B : Nat → Prop} {U : State} {H : Heap} (h : vx_L C n d A U H) (hAB : ∀ q, B q → A q) : vx_L C n d B U H := by
  obtain ⟨c, k, i, f, a, cell, h1, h2, h3, h4, h5, h6, h7, h8, h9, h10⟩ := h
  exact ⟨c, k, i, f, a, cell, h1, h2, h3, h4, h5, h6, h7, h8, h9, fun z => h10 (hAB _ z)⟩
theorem vx_L.word {C n d : String} {A : Nat → Prop} {s : State} {args : Array Value} (h : vx_L C n d A s s.heap) : (Cond.laysStatic C n d).before args s = true := by
  obtain ⟨c, k, i, f, a, cell, h1, h2, h3, h4, h5, h6, h7, h8, h9, -⟩ := h
  show (Cond.laysStatic C n d).holds args s none s [] = true
  exact Cond.laysStatic_of h1 h2 h3 h4 h5 h6 h7 h8 h9
/-- .. and what it holds: null or some reference -/
def vx_Zq (C n d : String) (A : Nat → Prop) (U : State) (H : Heap) : Prop := va_Zq C n d A U H ∧ vx_L C n d A U H
theorem vx_Zq.moved {C n d : String} {A : Nat → Prop} {u U : State} {H : Heap} (hvm : u.vm.Alike U.vm) (h : vx_Zq C n d A u H) : vx_Zq C n d A U H := ⟨va_Zq.moved hvm h.1, vx_L.moved hvm h.2⟩
theorem vx_Zq.kept {C n d : String} {A : Nat → Prop} {U : State} {H H1 : Heap} (h : vx_Zq C n d A U H) (hq : ∀ a : Nat, a < H.size → ¬ A a → H1[a]? = H[a]?) : vx_Zq C n d A U H1 := ⟨va_Zq.kept h.1 hq, vx_L.kept h.2 hq⟩
theorem vx_Zq.narrow {C n d : String} {A B : Nat → Prop} {U : State} {H : Heap} (h : vx_Zq C n d A U H) (hAB : ∀ q, B q → A q) : vx_Zq C n d B U H := ⟨va_Zq.narrow h.1 hAB, vx_L.narrow h.2 hAB⟩
theorem vx_Zqof {args : Array Value} {s : State} {C n d : String} {A : Nat → Prop} (hl : (Cond.laysStatic C n d).before args s = true) (hini : (Cond.initialized C).before args s = true) (h : (Cond.isRef (.static C n d)).before args s = true) (hA : ∀ a : Nat, a < s.heap.size → ¬ A a) : vx_Zq C n d A s s.heap := by
  refine ⟨va_Zqof hl hini h hA, ?_⟩
  obtain ⟨c, k, i, f, a, cell, h1, h2, h3, h4, h5, h6, h7, h8, h9⟩ := Cond.laysStatic_spec hl
  exact ⟨c, k, i, f, a, cell, h1, h2, h3, h4, h5, h6, h7, h8, h9, hA a (Array.getElem?_eq_some_iff.mp h5).1⟩
theorem vx_isRef {C n d : String} {v : Value} {A : Nat → Prop} {s : State} {args : Array Value} (h : va_Z C n d v A s s.heap) (hv : v.isRef = true) : (Cond.isRef (.static C n d)).before args s = true := by
  obtain ⟨cf, kf, fi, f, a, cell, h1, h2, h3, h4, h5, h6, h7, -⟩ := h
  have he : (Term.static C n d).eval args s none [] s = some v := by
    simp [Term.eval, State.fieldNamed?, h1, h2, h4, h5, h6, h7]
  simp only [Cond.before, Cond.holds, Cond.value, he]
  cases v <;> simp_all [Value.isRef]
theorem vx_isRefq {C n d : String} {A : Nat → Prop} {s : State} {args : Array Value} (h : va_Zq C n d A s s.heap) : (Cond.isRef (.static C n d)).before args s = true := by
  rcases h with h | ⟨t, h⟩
  · exact vx_isRef h rfl
  · exact vx_isRef h rfl
/-- the same frame, seen from here: as if the method were called anew in this heap -/
theorem vx_rebase {T : State} (X : Stand p l e R s m args below meth c T locs cells slots) {R' : Room} (hf : R'.frames ≤ R.frames) (hl : R'.locals ≤ R.locals) (hc : cells + R'.cells ≤ R.cells) (hs : slots + R'.slots ≤ R.slots) :
    Stand p l e R' ((T.setVm s.vm).setFrames (.invoking m args :: below)) m args below meth c T [] 0 0 := by
  have htop : (T.setVm s.vm).topJava?.isSome := X.here.top
  have hF : ((T.setVm s.vm).setFrames (.invoking m args :: below)).frames = .invoking m args :: below := State.frames_setFrames _ (State.cur_lt_of_top htop)
  obtain ⟨g₀, hg0⟩ := Option.isSome_iff_exists.mp htop
  obtain ⟨r, hr⟩ := State.topJava?_eq_some.mp hg0
  have hl9 : e.platform.stackLimits (T.setVm s.vm).me = e.platform.stackLimits s.me := X.limits
  have hb9 : (T.setVm s.vm).me.stackBytes = s.me.stackBytes := X.bytes
  refine ⟨X.admits, X.cas, X.clock, hF, ?_, X.hears, X.method, X.code, X.here, X.tail, X.warmed, ?_, ?_, ?_⟩
  · have h := X.room
    have hU : ((T.setVm s.vm).setFrames (.invoking m args :: below)).localsInUse = s.localsInUse := by
      rw [State.localsInUse_invoking hF (meth := meth) (c := c) X.method X.code, State.localsInUse_invoking X.frames X.method X.code]
    simp only [State.hasRoom, Bool.and_eq_true, decide_eq_true_eq] at h ⊢
    obtain ⟨⟨⟨⟨h1, h2, h3, h4, h5, h6⟩, h7⟩, h8⟩, h9⟩ := h
    rw [X.frames, List.length_cons] at h2 h3
    have q1 := X.heapSize
    have q2 := X.used
    simp only [hF, hU, List.length_cons, State.stackLimits_setFrames, State.stackBytes_setFrames, hl9, hb9]
    refine ⟨⟨⟨⟨by omega, by omega, by omega, by omega, by omega, h6⟩, ?_⟩, ?_⟩, X.book⟩
    · show T.heap.size + R'.cells ≤ e.platform.maxCells
      omega
    · show T.slotsUsed + R'.slots ≤ e.platform.maxSlots
      omega
  · rw [State.stackLimits_setFrames]; rfl
  · rw [State.stackBytes_setFrames]; rfl
  · refine ⟨?_, Nat.le_refl _, Nat.le_refl _, ?_, ?_, fun a c9 h9 => ⟨c9, h9, rfl, rfl, fun _ _ => rfl⟩⟩
    · obtain ⟨t, ht, -⟩ := State.frames_cons hr
      show T.setVm s.vm = { ((T.setVm s.vm).setFrames (.invoking m args :: below)).setFrames (T.setVm s.vm).frames with heap := T.heap, slotsUsed := T.slotsUsed }
      rw [State.setFrames_setFrames, State.setFrames_self ht]
      rfl
    · show T.slotsUsed = T.slotsUsed + ((T.heap.toList.drop T.heap.size).map (·.slots.size)).sum
      rw [List.drop_eq_nil_of_le (Nat.le_of_eq Array.length_toList)]
      rfl
    · show ((T.heap.toList.drop T.heap.size).map (·.slots.size)).sum ≤ 0
      rw [List.drop_eq_nil_of_le (Nat.le_of_eq Array.length_toList)]
      exact Nat.le_refl _
/-- 'throw new E()': new; dup; invokespecial; athrow -/
theorem vx_throw0 {cc : ByteArray} {pc : Nat} (hexec : p.tables.exec = Jvm.exec) (hb : c.code = cc) (hl : l.stackTraces = false) {own cls : String} {names : List String} {ik ic mc ms : Nat} {A : Nat → Prop}
    (hown : s.vm.findClass own = some m.cls) (hcls : Bundle.fit cls = true) (hnames : ∀ n ∈ names, Bundle.fit n = true)
    (hk : (Cond.classLink own ik cls).before args s = true) (hini : (Cond.initialized cls).before args s = true) (hat : ∀ w ∈ vx_at0 own ic cls names, w.before args s = true)
    (hgood : ∀ w ∈ Cond.classLink own ik cls :: Cond.initialized cls :: vx_at0 own ic cls names, vx_ot w = true)
    (hU : vx_Zq Bundle.tN "UNASSIGNED_STACK" Bundle.steD A s s.heap) (hN : vx_Zq Bundle.tN "SUPPRESSED_SENTINEL" Bundle.listD A s s.heap) (hS : va_S A s.heap H locs) (hsize : ls.size = c.maxLocals)
    (d0 : decode cc pc = .ok (.new ik, 3)) (d3 : decode cc (pc + 3) = .ok (.dup, 1)) (d4 : decode cc (pc + 4) = .ok (.invokespecial ic, 3)) (d7 : decode cc (pc + 7) = .ok (.athrow, 1))
    (hout : ∀ x ∈ c.exceptionTable.toList, covers x (pc + 7) = false)
    (hRframes : names.length + 3 < R.frames) (hRlocals : (rest.map fun v => v.category).sum + (13 * (names.length + 1) + 42) ≤ R.locals) (hRcells : cells + 1 ≤ R.cells) (hRslots : slots + 6 ≤ R.slots) (hlocks : meth.locks = false)
    (hx : ∀ t : State, s.vm.Alike t.vm → H.size ≤ t.heap.size → (∀ q : Nat, q < H.size → t.heap[q]? = H[q]?) → XC cls s t)
    (hf : ∀ z ∈ locs, free z.base) (hc : cells + 1 ≤ mc) (hs : slots + 6 ≤ ms) :
    W p l e R s m args below meth c H locs cells slots (vx_MQ below Qc XC args s mc ms free) (F0 m pc ls rest) := by
  intro T hT X
  have htr : e.platform.stackTraces = false := (show e.platform.stackTraces = l.stackTraces by rw [X.admits.platform]).trans hl
  have Y := vx_rebase X (R' := { frames := R.frames, locals := R.locals, cells := 1, slots := 6 }) (Nat.le_refl _) (Nat.le_refl _) hRcells hRslots
  obtain ⟨s', hA⟩ : ∃ z, z = (T.setVm s.vm).setFrames (.invoking m args :: below) := ⟨_, rfl⟩
  rw [← hA] at Y
  have hvm : s'.vm = s.vm := by rw [hA]; rfl
  have hhp : s'.heap = H := by rw [hA]; exact hT
  have hW0 : s.WarmedH s'.vm := by rw [hvm]; exact State.WarmedH.refl s
  have hat' : ∀ w ∈ vx_at0 own ic cls names, w.before args s' = true := fun w hw => vx_ot_at hW0 hvm.symm (hgood w (List.mem_cons_of_mem _ (List.mem_cons_of_mem _ hw))) (hat w hw)
  have hk' : (Cond.classLink own ik cls).before args s' = true := vx_ot_at hW0 hvm.symm (hgood _ List.mem_cons_self) hk
  have hini' : (Cond.initialized cls).before args s' = true := vx_ot_at hW0 hvm.symm (hgood _ (List.mem_cons_of_mem _ List.mem_cons_self)) hini
  have hU' : vx_Zq Bundle.tN "UNASSIGNED_STACK" Bundle.steD A s' s'.heap := by rw [hhp]; exact vx_Zq.moved hW0.alike (hU.kept hS.2.1)
  have hN' : vx_Zq Bundle.tN "SUPPRESSED_SENTINEL" Bundle.listD A s' s'.heap := by rw [hhp]; exact vx_Zq.moved hW0.alike (hN.kept hS.2.1)
  have h : ∀ w ∈ Bundle.ownAtoms0 own ic cls names, w.before args s' = true := vx_own hat' (vx_isRefq hU'.1) (vx_isRefq hN'.1) hU'.2.word hN'.2.word
  have hown' : s'.vm.findClass own = some m.cls := by rw [hvm]; exact hown
  have hins : (Cond.instantiable cls 6).before args s' = true := h _ (by simp [Bundle.ownAtoms0])
  obtain ⟨vm₁, cX, kX, hfX, hkX, -, -, X₁, st1⟩ := Y.newCold hexec (own := own) (C := cls) (index := ik) (n := 6) hown' hk' hins hini'
    (g := F0 m pc ls rest) rfl (by rw [hb]; exact d0) (Nat.le_refl _) (Nat.le_refl _)
  generalize hT1 : (T.setVm vm₁).pushCell { cls := cX, slots := kX.instanceTypes.map defaultValue, vm := .none } = T1 at X₁ st1
  have hcat : (Value.ref T.heap.size).category = 1 := rfl
  have hcellA : T1.heap[T.heap.size]? = some (freshCell cX kX) := by rw [← hT1]; exact State.heap_pushCell_size _ _
  have d3' : decode c.code (pc + 3) = .ok (.dup, 1) := by rw [hb]; exact d3
  obtain ⟨U, hsteps, hrun, hend, hW, hsame, ce, hce, hO⟩ := X₁.ctorThrow0 hexec htr (own := own) (cls := cls) (names := names) (ic := ic) hown' hcls hnames h (fun x hx => nomatch hx) hfX hkX hcellA (by rw [hhp, hT]; exact Nat.le_refl _)
    (g := { method := m, pc := pc + 4, locals := ls, stack := .ref T.heap.size :: .ref T.heap.size :: rest, locked := none }) rfl hsize rfl rfl (rest := rest) rfl
    (by rw [hb]; exact d4) (by rw [hb]; exact d7) hout hRframes (by simp only [List.map_cons, List.sum_cons, hcat]; omega) hlocks
  obtain ⟨f1, f2⟩ := vx_frame hsame
  rw [hhp] at f1 f2
  have hWs : s.WarmedH U.vm := State.WarmedH.trans hW0 hW
  have hcl : s.vm.findClass cls = some ce.cls := by
    have h9 := hO.cls
    rw [hvm] at h9
    exact h9
  have hall : s.sameButNew ({ U with vm := s.vm } : State) locs mc ms := by
    subst hA
    obtain ⟨e1, e2⟩ := hsame
    rw [State.setFrames_setFrames] at e1
    have h2 : (T.setVm s.vm).sameButNew ({ U with vm := s.vm } : State) [] (0 + 1) (0 + 6) := ⟨e1, e2⟩
    have h3 := X.same.trans h2
    rw [List.append_nil] at h3
    exact h3.mono hc hs
  refine ⟨U, ?_, .threw T.heap.size, hrun, hend, Or.inr ⟨T.heap.size, rfl, cls, ce, locs, hx U hWs.alike f1 (fun q hq => f2 q hq (fun z hz => nomatch hz)), hce, hO.vm, hcl, hWs, hall, hf⟩⟩
  refine st1 _ ?_
  show Steps p.tables e below (T1.setTop { method := m, pc := pc + 3, locals := ls, stack := .ref T.heap.size :: rest, locked := none }) _
  jvm_step X₁.here [X₁.here.top, hexec, d3', Value.category]
  exact hsteps
/-- 'throw new E("text")': new; dup; ldc; invokespecial; athrow -/
theorem vx_throwS {cc : ByteArray} {pc : Nat} (hexec : p.tables.exec = Jvm.exec) (hb : c.code = cc) (hl : l.stackTraces = false) {own cls text : String} {names : List String} {ik is ic mc ms sa : Nat} {A : Nat → Prop}
    (hown : s.vm.findClass own = some m.cls) (hcls : Bundle.fit cls = true) (hnames : ∀ n ∈ names, Bundle.fit n = true)
    (hk : (Cond.classLink own ik cls).before args s = true) (hini : (Cond.initialized cls).before args s = true) (hstr : vk_R own is text sa s) (hat : ∀ w ∈ vx_atS own ic cls names, w.before args s = true)
    (hgood : ∀ w ∈ Cond.classLink own ik cls :: Cond.initialized cls :: vx_atS own ic cls names, vx_ot w = true)
    (hU : vx_Zq Bundle.tN "UNASSIGNED_STACK" Bundle.steD A s s.heap) (hN : vx_Zq Bundle.tN "SUPPRESSED_SENTINEL" Bundle.listD A s s.heap) (hS : va_S A s.heap H locs) (hsize : ls.size = c.maxLocals)
    (d0 : decode cc pc = .ok (.new ik, 3)) (d3 : decode cc (pc + 3) = .ok (.dup, 1)) (d4 : decode cc (pc + 4) = .ok (.ldc is, 2)) (d6 : decode cc (pc + 6) = .ok (.invokespecial ic, 3)) (d9 : decode cc (pc + 9) = .ok (.athrow, 1))
    (hout : ∀ x ∈ c.exceptionTable.toList, covers x (pc + 9) = false)
    (hRframes : names.length + 3 < R.frames) (hRlocals : (rest.map fun v => v.category).sum + (13 * (names.length + 1) + 43) ≤ R.locals) (hRcells : cells + 1 ≤ R.cells) (hRslots : slots + 6 ≤ R.slots) (hlocks : meth.locks = false)
    (hx : ∀ t : State, s.vm.Alike t.vm → H.size ≤ t.heap.size → (∀ q : Nat, q < H.size → t.heap[q]? = H[q]?) → XC cls s t)
    (hf : ∀ z ∈ locs, free z.base) (hc : cells + 1 ≤ mc) (hs : slots + 6 ≤ ms) :
    W p l e R s m args below meth c H locs cells slots (vx_MQ below Qc XC args s mc ms free) (F0 m pc ls rest) := by
  intro T hT X
  have htr : e.platform.stackTraces = false := (show e.platform.stackTraces = l.stackTraces by rw [X.admits.platform]).trans hl
  have Y := vx_rebase X (R' := { frames := R.frames, locals := R.locals, cells := 1, slots := 6 }) (Nat.le_refl _) (Nat.le_refl _) hRcells hRslots
  obtain ⟨s', hA⟩ : ∃ z, z = (T.setVm s.vm).setFrames (.invoking m args :: below) := ⟨_, rfl⟩
  rw [← hA] at Y
  have hvm : s'.vm = s.vm := by rw [hA]; rfl
  have hhp : s'.heap = H := by rw [hA]; exact hT
  have hW0 : s.WarmedH s'.vm := by rw [hvm]; exact State.WarmedH.refl s
  have hat' : ∀ w ∈ vx_atS own ic cls names, w.before args s' = true := fun w hw => vx_ot_at hW0 hvm.symm (hgood w (List.mem_cons_of_mem _ (List.mem_cons_of_mem _ hw))) (hat w hw)
  have hk' : (Cond.classLink own ik cls).before args s' = true := vx_ot_at hW0 hvm.symm (hgood _ List.mem_cons_self) hk
  have hini' : (Cond.initialized cls).before args s' = true := vx_ot_at hW0 hvm.symm (hgood _ (List.mem_cons_of_mem _ List.mem_cons_self)) hini
  have hU' : vx_Zq Bundle.tN "UNASSIGNED_STACK" Bundle.steD A s' s'.heap := by rw [hhp]; exact vx_Zq.moved hW0.alike (hU.kept hS.2.1)
  have hN' : vx_Zq Bundle.tN "SUPPRESSED_SENTINEL" Bundle.listD A s' s'.heap := by rw [hhp]; exact vx_Zq.moved hW0.alike (hN.kept hS.2.1)
  have h : ∀ w ∈ Bundle.ownAtoms own ic cls names, w.before args s' = true := vx_own hat' (vx_isRefq hU'.1) (vx_isRefq hN'.1) hU'.2.word hN'.2.word
  have hown' : s'.vm.findClass own = some m.cls := by rw [hvm]; exact hown
  have hins : (Cond.instantiable cls 6).before args s' = true := h _ (by simp [Bundle.ownAtoms])
  obtain ⟨vm₁, cX, kX, hfX, hkX, -, -, X₁, st1⟩ := Y.newCold hexec (own := own) (C := cls) (index := ik) (n := 6) hown' hk' hins hini'
    (g := F0 m pc ls rest) rfl (by rw [hb]; exact d0) (Nat.le_refl _) (Nat.le_refl _)
  generalize hT1 : (T.setVm vm₁).pushCell { cls := cX, slots := kX.instanceTypes.map defaultValue, vm := .none } = T1 at X₁ st1
  have hcat : (Value.ref T.heap.size).category = 1 := rfl
  have hcellA : T1.heap[T.heap.size]? = some (freshCell cX kX) := by rw [← hT1]; exact State.heap_pushCell_size _ _
  have d3' : decode c.code (pc + 3) = .ok (.dup, 1) := by rw [hb]; exact d3
  have d4' : decode c.code (pc + 4) = .ok (.ldc is, 2) := by rw [hb]; exact d4
  have hstr' : vk_R own is text sa s' := vk_R.warm hW0 hstr
  obtain ⟨U, hsteps, hrun, hend, hW, hsame, ce, hce, hO⟩ := X₁.ctorThrowS hexec htr (own := own) (cls := cls) (names := names) (ic := ic) hown' hcls hnames h (fun x hx => nomatch hx) hfX hkX hcellA (by rw [hhp, hT]; exact Nat.le_refl _) (msg := .ref sa) rfl
    (g := { method := m, pc := pc + 6, locals := ls, stack := .ref sa :: .ref T.heap.size :: .ref T.heap.size :: rest, locked := none }) rfl hsize rfl rfl (rest := rest) rfl
    (by rw [hb]; exact d6) (by rw [hb]; exact d9) hout hRframes (by simp only [List.map_cons, List.sum_cons, hcat]; omega) hlocks
  obtain ⟨f1, f2⟩ := vx_frame hsame
  rw [hhp] at f1 f2
  have hWs : s.WarmedH U.vm := State.WarmedH.trans hW0 hW
  have hcl : s.vm.findClass cls = some ce.cls := by
    have h9 := hO.cls
    rw [hvm] at h9
    exact h9
  have hall : s.sameButNew ({ U with vm := s.vm } : State) locs mc ms := by
    subst hA
    obtain ⟨e1, e2⟩ := hsame
    rw [State.setFrames_setFrames] at e1
    have h2 : (T.setVm s.vm).sameButNew ({ U with vm := s.vm } : State) [] (0 + 1) (0 + 6) := ⟨e1, e2⟩
    have h3 := X.same.trans h2
    rw [List.append_nil] at h3
    exact h3.mono hc hs
  refine ⟨U, ?_, .threw T.heap.size, hrun, hend, Or.inr ⟨T.heap.size, rfl, cls, ce, locs, hx U hWs.alike f1 (fun q hq => f2 q hq (fun z hz => nomatch hz)), hce, hO.vm, hcl, hWs, hall, hf⟩⟩
  refine st1 _ ?_
  show Steps p.tables e below (T1.setTop { method := m, pc := pc + 3, locals := ls, stack := .ref T.heap.size :: rest, locked := none }) _
  jvm_step X₁.here [X₁.here.top, hexec, d3', Value.category]
  exact X₁.ldcString hexec (own := own) (text := text) (index := is) (a := sa) hown' hstr'.1 hstr'.2
    (g := { method := m, pc := pc + 4, locals := ls, stack := .ref T.heap.size :: .ref T.heap.size :: rest, locked := none }) rfl d4' _ hsteps
/-- 'throw new E("text")', the text by a wide index -/
theorem vx_throwSW {cc : ByteArray} {pc : Nat} (hexec : p.tables.exec = Jvm.exec) (hb : c.code = cc) (hl : l.stackTraces = false) {own cls text : String} {names : List String} {ik is ic mc ms sa : Nat} {A : Nat → Prop}
    (hown : s.vm.findClass own = some m.cls) (hcls : Bundle.fit cls = true) (hnames : ∀ n ∈ names, Bundle.fit n = true)
    (hk : (Cond.classLink own ik cls).before args s = true) (hini : (Cond.initialized cls).before args s = true) (hstr : vk_R own is text sa s) (hat : ∀ w ∈ vx_atS own ic cls names, w.before args s = true)
    (hgood : ∀ w ∈ Cond.classLink own ik cls :: Cond.initialized cls :: vx_atS own ic cls names, vx_ot w = true)
    (hU : vx_Zq Bundle.tN "UNASSIGNED_STACK" Bundle.steD A s s.heap) (hN : vx_Zq Bundle.tN "SUPPRESSED_SENTINEL" Bundle.listD A s s.heap) (hS : va_S A s.heap H locs) (hsize : ls.size = c.maxLocals)
    (d0 : decode cc pc = .ok (.new ik, 3)) (d3 : decode cc (pc + 3) = .ok (.dup, 1)) (d4 : decode cc (pc + 4) = .ok (.ldc_w is, 3)) (d7 : decode cc (pc + 7) = .ok (.invokespecial ic, 3)) (d10 : decode cc (pc + 10) = .ok (.athrow, 1))
    (hout : ∀ x ∈ c.exceptionTable.toList, covers x (pc + 10) = false)
    (hRframes : names.length + 3 < R.frames) (hRlocals : (rest.map fun v => v.category).sum + (13 * (names.length + 1) + 43) ≤ R.locals) (hRcells : cells + 1 ≤ R.cells) (hRslots : slots + 6 ≤ R.slots) (hlocks : meth.locks = false)
    (hx : ∀ t : State, s.vm.Alike t.vm → H.size ≤ t.heap.size → (∀ q : Nat, q < H.size → t.heap[q]? = H[q]?) → XC cls s t)
    (hf : ∀ z ∈ locs, free z.base) (hc : cells + 1 ≤ mc) (hs : slots + 6 ≤ ms) :
    W p l e R s m args below meth c H locs cells slots (vx_MQ below Qc XC args s mc ms free) (F0 m pc ls rest) := by
  intro T hT X
  have htr : e.platform.stackTraces = false := (show e.platform.stackTraces = l.stackTraces by rw [X.admits.platform]).trans hl
  have Y := vx_rebase X (R' := { frames := R.frames, locals := R.locals, cells := 1, slots := 6 }) (Nat.le_refl _) (Nat.le_refl _) hRcells hRslots
  obtain ⟨s', hA⟩ : ∃ z, z = (T.setVm s.vm).setFrames (.invoking m args :: below) := ⟨_, rfl⟩
  rw [← hA] at Y
  have hvm : s'.vm = s.vm := by rw [hA]; rfl
  have hhp : s'.heap = H := by rw [hA]; exact hT
  have hW0 : s.WarmedH s'.vm := by rw [hvm]; exact State.WarmedH.refl s
  have hat' : ∀ w ∈ vx_atS own ic cls names, w.before args s' = true := fun w hw => vx_ot_at hW0 hvm.symm (hgood w (List.mem_cons_of_mem _ (List.mem_cons_of_mem _ hw))) (hat w hw)
  have hk' : (Cond.classLink own ik cls).before args s' = true := vx_ot_at hW0 hvm.symm (hgood _ List.mem_cons_self) hk
  have hini' : (Cond.initialized cls).before args s' = true := vx_ot_at hW0 hvm.symm (hgood _ (List.mem_cons_of_mem _ List.mem_cons_self)) hini
  have hU' : vx_Zq Bundle.tN "UNASSIGNED_STACK" Bundle.steD A s' s'.heap := by rw [hhp]; exact vx_Zq.moved hW0.alike (hU.kept hS.2.1)
  have hN' : vx_Zq Bundle.tN "SUPPRESSED_SENTINEL" Bundle.listD A s' s'.heap := by rw [hhp]; exact vx_Zq.moved hW0.alike (hN.kept hS.2.1)
  have h : ∀ w ∈ Bundle.ownAtoms own ic cls names, w.before args s' = true := vx_own hat' (vx_isRefq hU'.1) (vx_isRefq hN'.1) hU'.2.word hN'.2.word
  have hown' : s'.vm.findClass own = some m.cls := by rw [hvm]; exact hown
  have hins : (Cond.instantiable cls 6).before args s' = true := h _ (by simp [Bundle.ownAtoms])
  obtain ⟨vm₁, cX, kX, hfX, hkX, -, -, X₁, st1⟩ := Y.newCold hexec (own := own) (C := cls) (index := ik) (n := 6) hown' hk' hins hini'
    (g := F0 m pc ls rest) rfl (by rw [hb]; exact d0) (Nat.le_refl _) (Nat.le_refl _)
  generalize hT1 : (T.setVm vm₁).pushCell { cls := cX, slots := kX.instanceTypes.map defaultValue, vm := .none } = T1 at X₁ st1
  have hcat : (Value.ref T.heap.size).category = 1 := rfl
  have hcellA : T1.heap[T.heap.size]? = some (freshCell cX kX) := by rw [← hT1]; exact State.heap_pushCell_size _ _
  have d3' : decode c.code (pc + 3) = .ok (.dup, 1) := by rw [hb]; exact d3
  have d4' : decode c.code (pc + 4) = .ok (.ldc_w is, 3) := by rw [hb]; exact d4
  have hstr' : vk_R own is text sa s' := vk_R.warm hW0 hstr
  obtain ⟨U, hsteps, hrun, hend, hW, hsame, ce, hce, hO⟩ := X₁.ctorThrowS hexec htr (own := own) (cls := cls) (names := names) (ic := ic) hown' hcls hnames h (fun x hx => nomatch hx) hfX hkX hcellA (by rw [hhp, hT]; exact Nat.le_refl _) (msg := .ref sa) rfl
    (g := { method := m, pc := pc + 7, locals := ls, stack := .ref sa :: .ref T.heap.size :: .ref T.heap.size :: rest, locked := none }) rfl hsize rfl rfl (rest := rest) rfl
    (by rw [hb]; exact d7) (by rw [hb]; exact d10) hout hRframes (by simp only [List.map_cons, List.sum_cons, hcat]; omega) hlocks
  obtain ⟨f1, f2⟩ := vx_frame hsame
  rw [hhp] at f1 f2
  have hWs : s.WarmedH U.vm := State.WarmedH.trans hW0 hW
  have hcl : s.vm.findClass cls = some ce.cls := by
    have h9 := hO.cls
    rw [hvm] at h9
    exact h9
  have hall : s.sameButNew ({ U with vm := s.vm } : State) locs mc ms := by
    subst hA
    obtain ⟨e1, e2⟩ := hsame
    rw [State.setFrames_setFrames] at e1
    have h2 : (T.setVm s.vm).sameButNew ({ U with vm := s.vm } : State) [] (0 + 1) (0 + 6) := ⟨e1, e2⟩
    have h3 := X.same.trans h2
    rw [List.append_nil] at h3
    exact h3.mono hc hs
  refine ⟨U, ?_, .threw T.heap.size, hrun, hend, Or.inr ⟨T.heap.size, rfl, cls, ce, locs, hx U hWs.alike f1 (fun q hq => f2 q hq (fun z hz => nomatch hz)), hce, hO.vm, hcl, hWs, hall, hf⟩⟩
  refine st1 _ ?_
  show Steps p.tables e below (T1.setTop { method := m, pc := pc + 3, locals := ls, stack := .ref T.heap.size :: rest, locked := none }) _
  jvm_step X₁.here [X₁.here.top, hexec, d3', Value.category]
  exact X₁.ldcStringW hexec (own := own) (text := text) (index := is) (a := sa) hown' hstr'.1 hstr'.2
    (g := { method := m, pc := pc + 4, locals := ls, stack := .ref T.heap.size :: .ref T.heap.size :: rest, locked := none }) rfl d4' _ hsteps
end Ends
section Bodies
variable {l : Launch}
theorem vx_ofW {y : MethodName} {ws ws' : List Cond} {rm : Room} {Pc : Array Value → State → Prop} {Qc : Array Value → State → Outcome → State → Prop} {XC : String → State → State → Prop} {mc ms : Nat} {free : Addr → Prop} {cc : ByteArray} {maxL : Nat} {ret : Option FieldType}
    (hy : plainName y.cls = true) (hw : ws = Cond.code y cc maxL ret :: ws')
    (body : ∀ p e s m args below meth c s₁, BodyLoose p l y (headSpec ws rm) cc maxL ret e s m args below meth c s₁ → c.maxLocals = maxL → (∀ x ∈ c.exceptionTable.toList, False) → Pc args s →
      W p l e (headSpec ws rm).room s m args below meth c s.heap [] 0 0 (vx_MQ below Qc XC args s mc ms free) (entryFrame m args maxL)) : vx_Met l y ws rm Pc Qc XC mc ms free := by
  refine MetFree.of_bodyS (code := cc) (maxLocals := maxL) (ret := ret) hy ?_ ?_
  · intro args s m h hn
    obtain ⟨meth, c, h1, h2, h3, h4, h5, h6, -, -⟩ := Cond.code_spec hn (atoms_spec (ws := ws) h _ (by rw [hw]; exact List.mem_cons_self))
    exact ⟨meth, c, h1, h2, h3, h4, h5, h6⟩
  · intro p e s m args below meth c s₁ B hml hP _
    have hh0 : s₁.heap = s.heap := by rw [B.state]; rfl
    have ht : ∀ x ∈ c.exceptionTable.toList, False := by
      obtain ⟨meth9, c9, h1, h2, -, -, -, -, h7, -⟩ := Cond.code_spec B.named (atoms_spec (ws := ws) B.pre _ (by rw [hw]; exact List.mem_cons_self))
      cases Option.some.inj (h1.symm.trans B.method)
      cases Option.some.inj (h2.symm.trans (Stand.of_body B).code)
      intro x hx
      rw [Array.isEmpty_iff.mp h7] at hx
      cases hx
    obtain ⟨t, a1, o, b1, b2, b3⟩ := body p e s m args below meth c s₁ B hml ht hP s₁ hh0 (Stand.of_body B)
    exact ⟨t, o, a1, b1, b2, b3⟩
/-- the table of a body with handlers -/
theorem vx_table {p : Program} {x y : MethodName} {S : Spec} {cc bytes : ByteArray} {maxL maxL' : Nat} {ret ret' : Option FieldType} {e : Env} {s s₁ : State} {m : MethodId} {args : Array Value} {below : List Frame} {meth : Method} {c : Code} {hh : List (Nat × Nat × Nat × Nat)}
    (B : BodyLoose p l y S cc maxL ret e s m args below meth c s₁) (h : (Cond.codeWith y bytes maxL' ret' hh).before args s = true) : c.exceptionTable.toList = tableOf hh := by
  obtain ⟨m9, meth9, c9, hn9, h1, h2, -, -, h6, -⟩ := Cond.codeWith_spec h
  cases Option.some.inj (hn9.symm.trans B.named)
  cases Option.some.inj (h1.symm.trans B.method)
  cases Option.some.inj (h2.symm.trans (Stand.of_body B).code)
  rw [← h6, table_eq]
end Bodies
end VXA
/-! ===== END ===== -/
/-! ===== BEGIN a static call of a method with an exception table ===== -/
section VXS
variable {p : Program} {l : Launch} {e : Env} {R : Room} {s : State} {m : MethodId} {args : Array Value} {below : List Frame} {meth : Method} {c : Code} {T : State} {H : Heap} {locs : List Loc} {cells slots : Nat}
abbrev vx_CSW (R : Room) (s : State) (args : Array Value) (own : String) (index : Nat) (y : MethodName) (bytes : ByteArray) (maxL : Nat) (ret : Option FieldType) (hh : List (Nat × Nat × Nat × Nat)) (ws : List Cond) (rm : Room) (mc ms n : Nat) : Prop :=
  (rm.cells = mc ∧ rm.slots = ms ∧ rm.frames + 1 ≤ R.frames ∧ 8 + (maxL + 11) + rm.locals ≤ R.locals ∧ (∀ w ∈ ws, ∀ (a' : Array Value) (U : State), s.WarmedH U.vm → w.before a' U = true) ∧ Cond.codeWith y bytes maxL ret hh ∈ ws) ∧
  (Cond.codeWith y bytes maxL ret hh).before args s = true ∧ (Cond.initialized y.cls).before args s = true ∧ (y.cls ≠ "java/lang/invoke/MethodHandle" ∧ y.cls ≠ "java/lang/invoke/VarHandle") ∧
  (∀ sig, parseMethodDescriptor y.desc = some sig → n = sig.parameters.length) ∧ (Cond.methodLink own index y).before args s = true ∧ (Cond.static y).before args s = true
theorem vx_cwSW {own : String} {index maxL mc ms : Nat} {y : MethodName} {bytes : ByteArray} {ret : Option FieldType} {hh : List (Nat × Nat × Nat × Nat)} {Ts ws ws' : List Cond} {rm : Room} (n : Nat) (ht : ∀ w ∈ Ts, w.before args s = true) (hT : GoodIn Ts (va_wsS own index y ws)) (hw : ws = Cond.codeWith y bytes maxL ret hh :: ws') (hrc : rm.cells = mc) (hrs : rm.slots = ms)
    (hd : y.cls ≠ "java/lang/invoke/MethodHandle" ∧ y.cls ≠ "java/lang/invoke/VarHandle" ∧ (parseMethodDescriptor y.desc).map (fun d => d.parameters.length) = some n) (hR : rm.frames + 1 ≤ R.frames ∧ 8 + (maxL + 11) + rm.locals ≤ R.locals) :
    vx_CSW R s args own index y bytes maxL ret hh ws rm mc ms n := by
  have ok : ∀ w ∈ va_wsS own index y ws, w.before args s = true := fun w h => ht w (hT w h).1
  have hG : GoodIn Ts ws := fun w h => hT w (by unfold va_wsS; exact List.mem_append_right _ h)
  have hc : Cond.codeWith y bytes maxL ret hh ∈ ws := by rw [hw]; exact List.mem_cons_self
  refine ⟨⟨hrc, hrs, hR.1, hR.2, pay_in ht hG, hc⟩, ht _ (hG _ hc).1, ok _ (by simp [va_wsS]), ⟨hd.1, hd.2.1⟩, fun sig h => ?_, ok _ (by simp [va_wsS]), ok _ (by simp [va_wsS])⟩
  have h2 := hd.2.2
  rw [h] at h2
  exact (Option.some.inj h2).symm
theorem vx_callSW (X : Stand p l e R s m args below meth c T locs cells slots) (hexec : p.tables.exec = Jvm.exec) {own : String} {index : Nat} {y : MethodName} {bytes : ByteArray} {maxL : Nat} {ret : Option FieldType} {hh : List (Nat × Nat × Nat × Nat)}
    (hown : s.vm.findClass own = some m.cls) (hlink : (Cond.methodLink own index y).before args s = true) (hstat : (Cond.static y).before args s = true) (hinit : (Cond.initialized y.cls).before args s = true)
    (hcode : (Cond.codeWith y bytes maxL ret hh).before args s = true) (hy : y.cls ≠ "java/lang/invoke/MethodHandle" ∧ y.cls ≠ "java/lang/invoke/VarHandle")
    {W9 : Nat} {Pre : Pt → Array Value → Prop} {Post : Pt → Array Value → Option Value → Pt → Prop} (hK : Back l R p e below s args y 3 W9 Pre Post)
    {g : JFrame} (hg : g.method = m) (hsize : g.locals.size = c.maxLocals) {argsL rest : List Value} (hlen : ∀ sig, parseMethodDescriptor y.desc = some sig → argsL.length = sig.parameters.length)
    (hstack : g.stack = argsL.reverse ++ rest) (hW : 2 * g.monitorRoom + (rest.map fun v => v.category).sum ≤ W9) (hdg : decode c.code g.pc = .ok (.invokestatic index, 3))
    (hpre : ∀ vm₁, s.WarmedH vm₁ → Pre ⟨T.setVm vm₁, locs, cells, slots⟩ argsL.toArray) :
    ∃ (v : Option Value) (vm₁ : Vm) (B : Pt), s.WarmedH vm₁ ∧ Stand p l e R s m args below meth c B.U B.locs B.cells B.slots ∧ Post ⟨T.setVm vm₁, locs, cells, slots⟩ argsL.toArray v B ∧
      ∀ target, Steps p.tables e below (B.U.setTop { g with pc := g.pc + 3, stack := v.toList ++ rest }) target → Steps p.tables e below (T.setTop g) target := by
  obtain ⟨mk, methM, cM, hnamed, hmethM, -, -, -, -, -, -, hsigM⟩ := Cond.codeWith_spec hcode
  have hstatic : methM.isStatic = true := Cond.static_spec hnamed hmethM hstat
  obtain ⟨kP, hkP, -⟩ := className_of_methodNamed hnamed
  have hinitP : kP.init = .initialized := Cond.initialized_spec (findClass_of_methodNamed hnamed) hkP hinit
  obtain ⟨vm₁, X₁, hstep₁⟩ := X.invokestatic hexec hown hlink hnamed hmethM hstatic hkP hinitP hy (g := g) hg (argsL := argsL) (rest := rest) (hlen _ hsigM) hstack hdg
  obtain ⟨v, B, X', hpost, hsteps⟩ := hK m meth c ⟨T.setVm vm₁, locs, cells, slots⟩ { g with stack := rest } (.invokestatic index) mk argsL.toArray X₁ hg hsize hdg hW (X₁.named hnamed) (hpre vm₁ X₁.warmed)
  exact ⟨v, vm₁, B, X₁.warmed, X', hpost, fun target h => hstep₁ _ fun acts => by rw [doInvoke_state]; exact hsteps.trans h⟩
theorem vx_runSW {y : MethodName} {bytes cc : ByteArray} {maxL nL mc ms n index : Nat} {ret : Option FieldType} {hh : List (Nat × Nat × Nat × Nat)} {ws : List Cond} {rm : Room} {Pc : Array Value → State → Prop} {Qc : Array Value → State → Outcome → State → Prop} {free : Addr → Prop} {Ts : List Cond} {own : String} {As rest : List Value} {g : JFrame}
    (S : CallFix p m c cc nL s args Ts own) (hM : Met l y ws rm Pc Qc mc ms free) (cw : vx_CSW R s args own index y bytes maxL ret hh ws rm mc ms n) (hp : PreS s H Pc As)
    (hg : g.method = m) (hn : As.length = n) (hsize : g.locals.size = nL) (hstack : g.stack = As.reverse ++ rest) (hW : 2 * g.monitorRoom + (rest.map fun v => v.category).sum ≤ 8) (hdg : decode cc g.pc = .ok (.invokestatic index, 3)) (hf : cells + mc ≤ R.cells ∧ slots + ms ≤ R.slots) :
    va_Run p l e R s m args below meth c H locs cells slots mc ms g rest (Qc As.toArray) (free) := by
  obtain ⟨⟨hrc, hrs, hfr, hlo, hws, hcw⟩, hcode, hini, hy, hlen, hl, hstt⟩ := cw
  have hK : Back l R p e below s args y 3 8 (PreOf R mc ms Pc) (PostOf Qc mc ms free) := va_backW (hh := hh) (bytes := bytes) (maxL := maxL) (ret := ret) hM hp.1 hrc hrs hfr hlo hws hcw (fun a' U hW => word_at hW (Or.inl (by first | rfl | simp [Cond.onTables, Cond.keeps, Cond.steady])) hini)
  obtain ⟨hx, hb, hml, ho, -⟩ := S
  intro T hT X
  obtain ⟨v, vm₁, ⟨U', l2, c2, s2⟩, hW₁, X', ⟨g', mk, t, L, e1, e2, hq, h1, hL, h2, h3⟩, st⟩ := vx_callSW X hx (hh := hh) (bytes := bytes) (maxL := maxL) (ret := ret) ho hl hstt hini hcode hy hK hg (hsize.trans hml.symm) (argsL := As) (rest := rest) (fun sig h => hn.trans (hlen sig h)) hstack hW (by rw [hb]; exact hdg)
    (fun vm₁ hW₁ => ⟨hf.1, hf.2, hp.2 (T.setVm vm₁) hT hW₁⟩)
  dsimp only [Pt.U, Pt.locs, Pt.cells, Pt.slots] at X' e1 e2 h1 h2 h3 st
  subst h1; subst h2; subst h3
  exact ⟨v, (T.setVm vm₁).calling g' mk As.toArray, t, U', L, hT, X', hL, e1, e2, hq, st⟩
/-- not caught here, past rows that name other classes: it goes on to the caller -/
theorem vx_outP {p : Program} {l : Launch} {e : Env} {R : Room} {s : State} {m : MethodId} {args : Array Value} {below : List Frame} {meth : Method} {c : Code} {H : Heap} {locs : List Loc} {cells slots : Nat} {free : Addr → Prop} {ls : Array Slot} {rest : List Value} {Qc : Array Value → State → Outcome → State → Prop} {XC : String → State → State → Prop}
    {pc : Nat} {own E : String} {ce : Cell} {q : Addr} {mc ms : Nat} (hown : s.vm.findClass own = some m.cls) (hlocks : meth.locks = false)
    (hpass : ∀ z ∈ c.exceptionTable.toList, covers z pc = false ∨ (z.catchType ≠ 0 ∧ ∃ nm : String, (Cond.classLink own z.catchType nm).before args s = true ∧ va_Nc E nm s)) (hcell : H[q]? = some ce) (hv : ce.vm = .none) (hcl : s.vm.findClass E = some ce.cls)
    (hx : ∀ t : State, t.heap = H → s.vm.Alike t.vm → XC E s t) (hf : ∀ z ∈ locs, free z.base) (hc : cells ≤ mc) (hs : slots ≤ ms) :
    vx_W p l e R s m args below meth c H locs cells slots (vx_MQ below Qc XC args s mc ms free) (F0 m pc ls rest) q := by
  intro T hT X
  have hpl : e.platform.magicAccessors = ({} : Platform).magicAccessors := by rw [X.admits.platform]
  obtain ⟨vm', hW', X', st⟩ := X.outThrough hlocks q (g := F0 m pc ls rest) rfl rfl rfl (cell := ce) (by rw [hT]; exact hcell) (by rw [hv]; rfl)
    (by obtain ⟨k9, h9, -⟩ := Vm.findClass_spec hcl; exact ⟨k9, h9⟩) (fun z hz => by
      rcases hpass z hz with h | ⟨hz0, nm, hl1, hn1⟩
      · exact Or.inl h
      · obtain ⟨c6, hc6, hcl6⟩ := Cond.classLink_spec hown hl1 e.platform hpl
        obtain ⟨a8, b8, h1, h2, h3⟩ := hn1
        cases Option.some.inj (h1.symm.trans hcl)
        cases Option.some.inj (h2.symm.trans hc6)
        exact Or.inr ⟨hz0, _, hcl6, h3⟩)
  obtain ⟨g₀, hfr⟩ := X'.frames_eq
  have hcell9 : ((T.setVm vm').setFrames (.throwing q :: below)).heap[q]? = some ce := by
    show T.heap[q]? = some ce
    rw [hT]; exact hcell
  have hend : Ended ((T.setVm vm').setFrames (.throwing q :: below)) below (.threw q) := State.frames_setFrames _ (State.cur_lt_of_frames hfr)
  refine ⟨(T.setVm vm').setFrames (.throwing q :: below), ?_, .threw q, X'.here.running, hend, Or.inr ⟨q, rfl, E, ce, locs, hx _ hT (X'.ends _).1.alike, hcell9, hv, hcl, (X'.ends _).1, (X'.ends _).2.mono hc hs, hf⟩⟩
  rw [X.pushThrowing_eq]
  exact st
/-- a thing of a world lies in the heap -/
theorem vx_lt {D : va_G} {cl : List vw_C} {ws : va_W} {H1 : Heap} (h : va_P D cl ws H1) {k : Nat} {q : Nat × va_E} (hk : ws[k]? = some q) : q.1 < H1.size := (h k q hk).lt
end VXS
/-! ===== END ===== -/
/-! ===== BEGIN methods with a table of their own: called by a name, returning or throwing ===== -/
section VXH
/-! vx_backW, vx_callVX, vx_callSX, vx_callVW, vx_runVW, vx_runVX, vx_runSX, vx_ofWH follow the same proofs as their sisters above (Free/Laws.lean, Shelf42/LK1.lean); vx_outP calls Shelf42/NT130.lean (outThrough). -/
section
variable {l : Launch} {R : Room} {p : Program} {e : Env} {below : List Frame} {s : State} {sargs : Array Value} {y : MethodName} {len W9 : Nat}
theorem vx_backW {ws : List Cond} {rm : Room} {Pc : Array Value → State → Prop} {Qc : Array Value → State → Outcome → State → Prop} {XC : String → State → State → Prop} {mc ms : Nat} {free : Addr → Prop} {bytes : ByteArray} {maxL : Nat} {ret : Option FieldType} {hh : List (Nat × Nat × Nat × Nat)}
    (hM : vx_Met l y ws rm Pc Qc XC mc ms free) (hblind : FrameBlind Pc) (hrc : rm.cells = mc) (hrs : rm.slots = ms)
    (hframes : rm.frames + 1 ≤ R.frames) (hlocals : W9 + (maxL + 11) + rm.locals ≤ R.locals)
    (hws : ∀ w ∈ ws, ∀ a' U, s.WarmedH U.vm → w.before a' U = true) (hcode : Cond.codeWith y bytes maxL ret hh ∈ ws) (hinit : ∀ a' U, s.WarmedH U.vm → (Cond.initialized y.cls).before a' U = true) :
    vx_Back l R p e below s sargs y len W9 (PreOf R mc ms Pc) (PostOf Qc mc ms free) (vx_Post XC mc ms free) := by
  intro m meth c A g ig mk a X hg hsize hdg hW hn hp
  have h1 : (headSpec ws rm).pre.before a A.U = true := atoms_intro fun w hw => hws w hw _ _ X.warmed
  have h2 : (Cond.codeWith y bytes maxL ret hh).before a A.U = true := hws _ hcode _ _ X.warmed
  have h3 : (Cond.initialized y.cls).before a A.U = true := hinit _ _ X.warmed
  have h4 : A.cells + (headSpec ws rm).room.cells ≤ R.cells := by rw [show (headSpec ws rm).room.cells = mc from hrc]; exact hp.1
  have h5 : A.slots + (headSpec ws rm).room.slots ≤ R.slots := by rw [show (headSpec ws rm).room.slots = ms from hrs]; exact hp.2.1
  have hPc : Pc a (A.U.calling g mk a) := hblind _ _ _ _ hp.2.2
  obtain ⟨U, Ls, c0, s0⟩ := A
  dsimp only [Pt.U, Pt.locs, Pt.cells, Pt.slots] at h1 h2 h3 h4 h5 X hn hPc ⊢
  obtain ⟨m9, methY, cY, hn9, hmY, hcY, -, hlY, -⟩ := Cond.codeWith_spec h2
  cases Option.some.inj (hn9.symm.trans hn)
  obtain ⟨kY, hkY, -⟩ := className_of_methodNamed hn
  have hinitY : kY.init = .initialized := Cond.initialized_spec (findClass_of_methodNamed hn) hkY h3
  have h : At U g.method c below := by rw [hg]; exact X.here
  have hlocals9 : W9 + (maxL + 11) + (headSpec ws rm).room.locals ≤ R.locals := hlocals
  have happ : (headSpec ws rm).appliesLoose y e.platform (U.calling g mk a) = true :=
    Spec.appliesLoose_calling (g := g) h hdg hn hkY hinitY
      (X.room_calling (g := g) (R' := (headSpec ws rm).room) hsize hmY hcY hframes (by rw [hlY]; omega) h4 h5) h1
  obtain ⟨mid, hmid⟩ := h.above
  have hfr : (U.setTop g).frames = (.java g :: mid) ++ below := by rw [State.frames_setTop' g h.top, hmid]; rfl
  obtain ⟨o, s₂, hsteps, -, hend, hq⟩ := Steps.callFree hM p X.admits X.cas X.clock (acts := []) hfr happ hPc trivial
  have hq' : vx_Q Qc XC mc ms free a (U.calling g mk a) o s₂ := hq
  rw [State.frames_setTop' g h.top] at hend
  obtain ⟨g₀, hg0⟩ := Option.isSome_iff_exists.mp h.top
  obtain ⟨r, hr⟩ := State.topJava?_eq_some.mp hg0
  have hr' : (({ U with heap := s₂.heap, slotsUsed := s₂.slotsUsed } : State).setVm s₂.vm).frames = .java g₀ :: r := hr
  rcases hq' with ⟨hqc, L, hfe, hL⟩ | ⟨q, rfl, E, ce, L, hx, hce, hcv, hcl, hW₂, hsm, hL⟩
  · obtain ⟨⟨v, rfl⟩, hW₂, e2, q2, q3, q4, q5, q6⟩ := id hfe
    have e3 : s₂ = ({ (U.calling g mk a).setFrames s₂.frames with heap := s₂.heap, slotsUsed := s₂.slotsUsed } : State).setVm s₂.vm := by
      have : s₂ = ({ s₂ with vm := (U.calling g mk a).vm } : State).setVm s₂.vm := rfl
      rw [e2] at this
      exact this
    obtain ⟨c₂, i₂, len₂, hc₂, hd₂, hf₂⟩ := hend
    have hW' : U.WarmedH s₂.vm := hW₂
    have hcc : c₂ = c := by
      have h1 : s₂.code? g.method = U.code? g.method := by
        rw [State.code?_eq, State.code?_eq, hW'.alike.method?]
      exact Option.some.inj (hc₂.symm.trans (h1.trans h.code))
    subst hcc
    have hlen : len₂ = len := by rw [hdg] at hd₂; cases hd₂; rfl
    subst hlen
    have hs₂ : s₂ = (({ U with heap := s₂.heap, slotsUsed := s₂.slotsUsed } : State).setVm s₂.vm).setTop { g with pc := g.pc + len₂, stack := v.toList ++ g.stack } := by
      refine e3.trans ?_
      rw [hf₂, State.calling_eq h.top, State.setFrames_setFrames, State.setTop_of_frames _ hr', hr]
      rfl
    have hsame : U.sameButNew ({ U with heap := s₂.heap, slotsUsed := s₂.slotsUsed } : State) L mc ms := by
      refine ⟨?_, q2, q3, q4, q5, q6⟩
      obtain ⟨t, ht, -⟩ := State.frames_cons hr
      show ({ U with heap := s₂.heap, slotsUsed := s₂.slotsUsed } : State) = { U.setFrames U.frames with heap := s₂.heap, slotsUsed := s₂.slotsUsed }
      rw [State.setFrames_self ht]
    subst hg
    refine Or.inl ⟨v, ⟨(({ U with heap := s₂.heap, slotsUsed := s₂.slotsUsed } : State).setVm s₂.vm), Ls ++ L, c0 + mc, s0 + ms⟩,
      ⟨X.admits, X.cas, X.clock, X.frames, X.room, X.hears, X.method, X.code, (X.here.setHeapUsed s₂.heap s₂.slotsUsed).setVm hW'.alike, X.tail, State.WarmedH.trans X.warmed hW', X.limits, X.bytes, X.same.trans (hsame.setVm s.vm)⟩,
      ⟨g, mk, s₂, L, rfl, rfl, hqc, rfl, hL, rfl, rfl⟩, ?_⟩
    show Steps p.tables e below _ ((({ U with heap := s₂.heap, slotsUsed := s₂.slotsUsed } : State).setVm s₂.vm).setTop { g with pc := g.pc + len₂, stack := v.toList ++ g.stack })
    rw [← hs₂]
    exact hsteps
  · obtain ⟨e2, q2, q3, q4, q5, q6⟩ := id hsm
    have e3 : s₂ = ({ (U.calling g mk a).setFrames s₂.frames with heap := s₂.heap, slotsUsed := s₂.slotsUsed } : State).setVm s₂.vm := by
      have : s₂ = ({ s₂ with vm := (U.calling g mk a).vm } : State).setVm s₂.vm := rfl
      rw [e2] at this
      exact this
    have hf₂ : s₂.frames = .throwing q :: .java g :: U.frames.tail := hend
    have hW' : U.WarmedH s₂.vm := hW₂
    have hs₂ : s₂ = ((({ U with heap := s₂.heap, slotsUsed := s₂.slotsUsed } : State).setVm s₂.vm).setTop g).pushFrame (.throwing q) := by
      refine e3.trans ?_
      rw [hf₂, State.calling_eq h.top, State.setFrames_setFrames, State.pushFrame, State.frames_setTop _ hr', State.setTop_of_frames _ hr', State.setFrames_setFrames, hr]
      rfl
    have hsame : U.sameButNew ({ U with heap := s₂.heap, slotsUsed := s₂.slotsUsed } : State) L mc ms := by
      refine ⟨?_, q2, q3, q4, q5, q6⟩
      obtain ⟨t, ht, -⟩ := State.frames_cons hr
      show ({ U with heap := s₂.heap, slotsUsed := s₂.slotsUsed } : State) = { U.setFrames U.frames with heap := s₂.heap, slotsUsed := s₂.slotsUsed }
      rw [State.setFrames_self ht]
    subst hg
    refine Or.inr ⟨q, ⟨(({ U with heap := s₂.heap, slotsUsed := s₂.slotsUsed } : State).setVm s₂.vm), Ls ++ L, c0 + mc, s0 + ms⟩,
      ⟨X.admits, X.cas, X.clock, X.frames, X.room, X.hears, X.method, X.code, (X.here.setHeapUsed s₂.heap s₂.slotsUsed).setVm hW'.alike, X.tail, State.WarmedH.trans X.warmed hW', X.limits, X.bytes, X.same.trans (hsame.setVm s.vm)⟩,
      ⟨g, mk, s₂, L, E, ce, rfl, rfl, hx, hce, hcv, hcl, rfl, hL, rfl, rfl⟩, ?_⟩
    show Steps p.tables e below _ (((({ U with heap := s₂.heap, slotsUsed := s₂.slotsUsed } : State).setVm s₂.vm).setTop g).pushFrame (.throwing q))
    rw [← hs₂]
    exact hsteps
end
variable {p : Program} {l : Launch} {e : Env} {R : Room} {s : State} {m : MethodId} {args : Array Value} {below : List Frame} {meth : Method} {c : Code} {T : State} {H : Heap} {locs : List Loc} {cells slots : Nat}
theorem vx_callVX (X : Stand p l e R s m args below meth c T locs cells slots) (hexec : p.tables.exec = Jvm.exec) {own C : String} {index : Nat} {y : MethodName} {bytes : ByteArray} {maxL : Nat} {ret : Option FieldType} {hh : List (Nat × Nat × Nat × Nat)}
    (hown : s.vm.findClass own = some m.cls) (hlink : (Cond.methodLink own index y).before args s = true) (hinst : (Cond.instanceMethod y).before args s = true) (hsel : (Cond.selects C y y).before args s = true)
    (hcode : (Cond.codeWith y bytes maxL ret hh).before args s = true) (hy : y.cls ≠ "java/lang/invoke/MethodHandle" ∧ y.cls ≠ "java/lang/invoke/VarHandle")
    {W9 : Nat} {Pre : Pt → Array Value → Prop} {Post : Pt → Array Value → Option Value → Pt → Prop} {PostX : Pt → Array Value → Addr → Pt → Prop} (hK : vx_Back l R p e below s args y 3 W9 Pre Post PostX)
    {b : Addr} {cellB : Cell} (hcell : T.heap[b]? = some cellB) (hobj : cellB.vm.isStatics = false) (hcls : s.vm.findClass C = some cellB.cls)
    {g : JFrame} (hg : g.method = m) (hsize : g.locals.size = c.maxLocals) {argsL rest : List Value} (hlen : ∀ sig, parseMethodDescriptor y.desc = some sig → argsL.length = sig.parameters.length)
    (hstack : g.stack = argsL.reverse ++ .ref b :: rest) (hW : 2 * g.monitorRoom + (rest.map fun v => v.category).sum ≤ W9) (hdg : decode c.code g.pc = .ok (.invokevirtual index, 3))
    (hpre : ∀ vm₁, s.WarmedH vm₁ → Pre ⟨T.setVm vm₁, locs, cells, slots⟩ (Value.ref b :: argsL).toArray) :
    (∃ (v : Option Value) (vm₁ : Vm) (B : Pt), s.WarmedH vm₁ ∧ Stand p l e R s m args below meth c B.U B.locs B.cells B.slots ∧ Post ⟨T.setVm vm₁, locs, cells, slots⟩ (Value.ref b :: argsL).toArray v B ∧
      ∀ target, Steps p.tables e below (B.U.setTop { g with pc := g.pc + 3, stack := v.toList ++ rest }) target → Steps p.tables e below (T.setTop g) target) ∨
    (∃ (q : Addr) (vm₁ : Vm) (B : Pt), s.WarmedH vm₁ ∧ Stand p l e R s m args below meth c B.U B.locs B.cells B.slots ∧ PostX ⟨T.setVm vm₁, locs, cells, slots⟩ (Value.ref b :: argsL).toArray q B ∧
      Steps p.tables e below (T.setTop g) ((B.U.setTop { g with stack := rest }).pushFrame (.throwing q))) := by
  obtain ⟨mk, methM, hnamed, hmethM, hstM, habM⟩ := Cond.instanceMethod_spec hinst
  obtain ⟨m8, methM', cM, hn8, hmethM', -, -, -, -, -, -, hsigM⟩ := Cond.codeWith_spec hcode
  cases Option.some.inj (hn8.symm.trans hnamed)
  cases hmethM.symm.trans hmethM'
  obtain ⟨c2, r2, m2, q1, q2, q3, q4, kP, hkP, hkPi⟩ := Cond.selects_spec hsel
  cases hcls.symm.trans q1
  cases (State.methodFound?_of_named hnamed hy).symm.trans q2
  cases hnamed.symm.trans q3
  have hselP : selectMethod e.platform s.vm cellB.cls mk = .method mk := by rw [Launch.admits_selectMethod X.admits]; exact q4
  obtain ⟨vm₁, X₁, hstep₁⟩ := X.invokevirtual hexec hown hlink hnamed hmethM hstM hkP hkPi hy (a := b) (cell := cellB) hcell
    (fun z h => by rw [h] at hobj; cases hobj) hselP hmethM habM hkP hkPi (g := g) hg (argsL := argsL) (rest := rest) (hlen _ hsigM) hstack hdg
  rcases hK m meth c ⟨T.setVm vm₁, locs, cells, slots⟩ { g with stack := rest } (.invokevirtual index) mk (Value.ref b :: argsL).toArray X₁ hg hsize hdg hW (X₁.named hnamed) (hpre vm₁ X₁.warmed) with ⟨v, B, X', hpost, hsteps⟩ | ⟨q, B, X', hpost, hsteps⟩
  · exact Or.inl ⟨v, vm₁, B, X₁.warmed, X', hpost, fun target h => hstep₁ _ fun acts => by rw [doInvoke_state]; exact hsteps.trans h⟩
  · exact Or.inr ⟨q, vm₁, B, X₁.warmed, X', hpost, hstep₁ _ fun acts => by rw [doInvoke_state]; exact hsteps⟩
theorem vx_callSX (X : Stand p l e R s m args below meth c T locs cells slots) (hexec : p.tables.exec = Jvm.exec) {own : String} {index : Nat} {y : MethodName} {bytes : ByteArray} {maxL : Nat} {ret : Option FieldType} {hh : List (Nat × Nat × Nat × Nat)}
    (hown : s.vm.findClass own = some m.cls) (hlink : (Cond.methodLink own index y).before args s = true) (hstat : (Cond.static y).before args s = true) (hinit : (Cond.initialized y.cls).before args s = true)
    (hcode : (Cond.codeWith y bytes maxL ret hh).before args s = true) (hy : y.cls ≠ "java/lang/invoke/MethodHandle" ∧ y.cls ≠ "java/lang/invoke/VarHandle")
    {W9 : Nat} {Pre : Pt → Array Value → Prop} {Post : Pt → Array Value → Option Value → Pt → Prop} {PostX : Pt → Array Value → Addr → Pt → Prop} (hK : vx_Back l R p e below s args y 3 W9 Pre Post PostX)
    {g : JFrame} (hg : g.method = m) (hsize : g.locals.size = c.maxLocals) {argsL rest : List Value} (hlen : ∀ sig, parseMethodDescriptor y.desc = some sig → argsL.length = sig.parameters.length)
    (hstack : g.stack = argsL.reverse ++ rest) (hW : 2 * g.monitorRoom + (rest.map fun v => v.category).sum ≤ W9) (hdg : decode c.code g.pc = .ok (.invokestatic index, 3))
    (hpre : ∀ vm₁, s.WarmedH vm₁ → Pre ⟨T.setVm vm₁, locs, cells, slots⟩ argsL.toArray) :
    (∃ (v : Option Value) (vm₁ : Vm) (B : Pt), s.WarmedH vm₁ ∧ Stand p l e R s m args below meth c B.U B.locs B.cells B.slots ∧ Post ⟨T.setVm vm₁, locs, cells, slots⟩ argsL.toArray v B ∧
      ∀ target, Steps p.tables e below (B.U.setTop { g with pc := g.pc + 3, stack := v.toList ++ rest }) target → Steps p.tables e below (T.setTop g) target) ∨
    (∃ (q : Addr) (vm₁ : Vm) (B : Pt), s.WarmedH vm₁ ∧ Stand p l e R s m args below meth c B.U B.locs B.cells B.slots ∧ PostX ⟨T.setVm vm₁, locs, cells, slots⟩ argsL.toArray q B ∧
      Steps p.tables e below (T.setTop g) ((B.U.setTop { g with stack := rest }).pushFrame (.throwing q))) := by
  obtain ⟨mk, methM, cM, hnamed, hmethM, -, -, -, -, -, -, hsigM⟩ := Cond.codeWith_spec hcode
  have hstatic : methM.isStatic = true := Cond.static_spec hnamed hmethM hstat
  obtain ⟨kP, hkP, -⟩ := className_of_methodNamed hnamed
  have hinitP : kP.init = .initialized := Cond.initialized_spec (findClass_of_methodNamed hnamed) hkP hinit
  obtain ⟨vm₁, X₁, hstep₁⟩ := X.invokestatic hexec hown hlink hnamed hmethM hstatic hkP hinitP hy (g := g) hg (argsL := argsL) (rest := rest) (hlen _ hsigM) hstack hdg
  rcases hK m meth c ⟨T.setVm vm₁, locs, cells, slots⟩ { g with stack := rest } (.invokestatic index) mk argsL.toArray X₁ hg hsize hdg hW (X₁.named hnamed) (hpre vm₁ X₁.warmed) with ⟨v, B, X', hpost, hsteps⟩ | ⟨q, B, X', hpost, hsteps⟩
  · exact Or.inl ⟨v, vm₁, B, X₁.warmed, X', hpost, fun target h => hstep₁ _ fun acts => by rw [doInvoke_state]; exact hsteps.trans h⟩
  · exact Or.inr ⟨q, vm₁, B, X₁.warmed, X', hpost, hstep₁ _ fun acts => by rw [doInvoke_state]; exact hsteps⟩
theorem vx_callVW (X : Stand p l e R s m args below meth c T locs cells slots) (hexec : p.tables.exec = Jvm.exec) {own C : String} {index : Nat} {y : MethodName} {bytes : ByteArray} {maxL : Nat} {ret : Option FieldType} {hh : List (Nat × Nat × Nat × Nat)}
    (hown : s.vm.findClass own = some m.cls) (hlink : (Cond.methodLink own index y).before args s = true) (hinst : (Cond.instanceMethod y).before args s = true) (hsel : (Cond.selects C y y).before args s = true)
    (hcode : (Cond.codeWith y bytes maxL ret hh).before args s = true) (hy : y.cls ≠ "java/lang/invoke/MethodHandle" ∧ y.cls ≠ "java/lang/invoke/VarHandle")
    {W9 : Nat} {Pre : Pt → Array Value → Prop} {Post : Pt → Array Value → Option Value → Pt → Prop} (hK : Back l R p e below s args y 3 W9 Pre Post)
    {b : Addr} {cellB : Cell} (hcell : T.heap[b]? = some cellB) (hobj : cellB.vm.isStatics = false) (hcls : s.vm.findClass C = some cellB.cls)
    {g : JFrame} (hg : g.method = m) (hsize : g.locals.size = c.maxLocals) {argsL rest : List Value} (hlen : ∀ sig, parseMethodDescriptor y.desc = some sig → argsL.length = sig.parameters.length)
    (hstack : g.stack = argsL.reverse ++ .ref b :: rest) (hW : 2 * g.monitorRoom + (rest.map fun v => v.category).sum ≤ W9) (hdg : decode c.code g.pc = .ok (.invokevirtual index, 3))
    (hpre : ∀ vm₁, s.WarmedH vm₁ → Pre ⟨T.setVm vm₁, locs, cells, slots⟩ (Value.ref b :: argsL).toArray) :
    ∃ (v : Option Value) (vm₁ : Vm) (B : Pt), s.WarmedH vm₁ ∧ Stand p l e R s m args below meth c B.U B.locs B.cells B.slots ∧ Post ⟨T.setVm vm₁, locs, cells, slots⟩ (Value.ref b :: argsL).toArray v B ∧
      ∀ target, Steps p.tables e below (B.U.setTop { g with pc := g.pc + 3, stack := v.toList ++ rest }) target → Steps p.tables e below (T.setTop g) target := by
  obtain ⟨mk, methM, hnamed, hmethM, hstM, habM⟩ := Cond.instanceMethod_spec hinst
  obtain ⟨m8, methM', cM, hn8, hmethM', -, -, -, -, -, -, hsigM⟩ := Cond.codeWith_spec hcode
  cases Option.some.inj (hn8.symm.trans hnamed)
  cases hmethM.symm.trans hmethM'
  obtain ⟨c2, r2, m2, q1, q2, q3, q4, kP, hkP, hkPi⟩ := Cond.selects_spec hsel
  cases hcls.symm.trans q1
  cases (State.methodFound?_of_named hnamed hy).symm.trans q2
  cases hnamed.symm.trans q3
  have hselP : selectMethod e.platform s.vm cellB.cls mk = .method mk := by rw [Launch.admits_selectMethod X.admits]; exact q4
  obtain ⟨vm₁, X₁, hstep₁⟩ := X.invokevirtual hexec hown hlink hnamed hmethM hstM hkP hkPi hy (a := b) (cell := cellB) hcell
    (fun z h => by rw [h] at hobj; cases hobj) hselP hmethM habM hkP hkPi (g := g) hg (argsL := argsL) (rest := rest) (hlen _ hsigM) hstack hdg
  obtain ⟨v, B, X', hpost, hsteps⟩ := hK m meth c ⟨T.setVm vm₁, locs, cells, slots⟩ { g with stack := rest } (.invokevirtual index) mk (Value.ref b :: argsL).toArray X₁ hg hsize hdg hW (X₁.named hnamed) (hpre vm₁ X₁.warmed)
  exact ⟨v, vm₁, B, X₁.warmed, X', hpost, fun target h => hstep₁ _ fun acts => by rw [doInvoke_state]; exact hsteps.trans h⟩
abbrev vx_CVW (R : Room) (s : State) (args : Array Value) (own C : String) (index : Nat) (y : MethodName) (bytes : ByteArray) (maxL : Nat) (ret : Option FieldType) (hh : List (Nat × Nat × Nat × Nat)) (ws : List Cond) (rm : Room) (mc ms n : Nat) : Prop :=
  (rm.cells = mc ∧ rm.slots = ms ∧ rm.frames + 1 ≤ R.frames ∧ 8 + (maxL + 11) + rm.locals ≤ R.locals ∧ (∀ w ∈ ws, ∀ (a' : Array Value) (U : State), s.WarmedH U.vm → w.before a' U = true) ∧ Cond.codeWith y bytes maxL ret hh ∈ ws) ∧
  (Cond.codeWith y bytes maxL ret hh).before args s = true ∧ (Cond.initialized y.cls).before args s = true ∧ (y.cls ≠ "java/lang/invoke/MethodHandle" ∧ y.cls ≠ "java/lang/invoke/VarHandle") ∧
  (∀ sig, parseMethodDescriptor y.desc = some sig → n = sig.parameters.length) ∧ (Cond.methodLink own index y).before args s = true ∧ (Cond.instanceMethod y).before args s = true ∧ (Cond.selects C y y).before args s = true
theorem vx_cwVW {own C : String} {index maxL mc ms : Nat} {y : MethodName} {bytes : ByteArray} {ret : Option FieldType} {hh : List (Nat × Nat × Nat × Nat)} {Ts ws ws' : List Cond} {rm : Room} (n : Nat) (ht : ∀ w ∈ Ts, w.before args s = true) (hT : GoodIn Ts (wsV own index C y ws)) (hw : ws = Cond.codeWith y bytes maxL ret hh :: ws') (hrc : rm.cells = mc) (hrs : rm.slots = ms)
    (hd : y.cls = C ∧ y.cls ≠ "java/lang/invoke/MethodHandle" ∧ y.cls ≠ "java/lang/invoke/VarHandle" ∧ (parseMethodDescriptor y.desc).map (fun d => d.parameters.length) = some n) (hR : rm.frames + 1 ≤ R.frames ∧ 8 + (maxL + 11) + rm.locals ≤ R.locals) :
    vx_CVW R s args own C index y bytes maxL ret hh ws rm mc ms n := by
  obtain ⟨hC, hd⟩ := hd
  subst hC
  have ok : ∀ w ∈ wsV own index y.cls y ws, w.before args s = true := fun w h => ht w (hT w h).1
  have hG : GoodIn Ts ws := fun w h => hT w (by unfold wsV; exact List.mem_append_right _ h)
  have hc : Cond.codeWith y bytes maxL ret hh ∈ ws := by rw [hw]; exact List.mem_cons_self
  refine ⟨⟨hrc, hrs, hR.1, hR.2, pay_in ht hG, hc⟩, ht _ (hG _ hc).1, ok _ (by simp [wsV]), ⟨hd.1, hd.2.1⟩, fun sig h => ?_, ok _ (by simp [wsV]), ok _ (by simp [wsV]), ok _ (by simp [wsV])⟩
  have h2 := hd.2.2
  rw [h] at h2
  exact (Option.some.inj h2).symm
theorem vx_runVW {y : MethodName} {bytes cc : ByteArray} {maxL nL mc ms n index : Nat} {ret : Option FieldType} {hh : List (Nat × Nat × Nat × Nat)} {ws : List Cond} {rm : Room} {Pc : Array Value → State → Prop} {Qc : Array Value → State → Outcome → State → Prop} {free : Addr → Prop} {Ts : List Cond} {own C : String} {b : Addr} {As rest : List Value} {g : JFrame}
    (S : CallFix p m c cc nL s args Ts own) (hM : Met l y ws rm Pc Qc mc ms free) (cw : vx_CVW R s args own C index y bytes maxL ret hh ws rm mc ms n) (hp : PreV s H C b Pc As)
    (hg : g.method = m) (hn : As.length = n) (hsize : g.locals.size = nL) (hstack : g.stack = As.reverse ++ .ref b :: rest) (hW : 2 * g.monitorRoom + (rest.map fun v => v.category).sum ≤ 8) (hdg : decode cc g.pc = .ok (.invokevirtual index, 3)) (hf : cells + mc ≤ R.cells ∧ slots + ms ≤ R.slots) :
    va_Run p l e R s m args below meth c H locs cells slots mc ms g rest (Qc (Value.ref b :: As).toArray) free := by
  obtain ⟨⟨hrc, hrs, hfr, hlo, hws, hcw⟩, hcode, hini, hy, hlen, hl, hin, hse⟩ := cw
  have hK : Back l R p e below s args y 3 8 (PreOf R mc ms Pc) (PostOf Qc mc ms free) := va_backW (hh := hh) (bytes := bytes) (maxL := maxL) (ret := ret) hM hp.1 hrc hrs hfr hlo hws hcw (fun a' U hW => word_at hW (Or.inl (by first | rfl | simp [Cond.onTables, Cond.keeps, Cond.steady])) hini)
  obtain ⟨hx, hb, hml, ho, -⟩ := S
  obtain ⟨-, ⟨cellB, hcB, hoB, hclB⟩, hPc⟩ := hp
  intro T hT X
  obtain ⟨v, vm₁, ⟨U', l2, c2, s2⟩, hW₁, X', ⟨g', mk, t, L, e1, e2, hq, h1, hL, h2, h3⟩, st⟩ := vx_callVW X hx (C := C) (hh := hh) (bytes := bytes) (maxL := maxL) (ret := ret) ho hl hin hse hcode hy hK (by rw [hT]; exact hcB) hoB hclB hg (hsize.trans hml.symm) (argsL := As) (rest := rest) (fun sig h => hn.trans (hlen sig h)) hstack hW (by rw [hb]; exact hdg)
    (fun vm₁ hW₁ => ⟨hf.1, hf.2, hPc (T.setVm vm₁) hT hW₁⟩)
  dsimp only [Pt.U, Pt.locs, Pt.cells, Pt.slots] at X' e1 e2 h1 h2 h3 st
  subst h1; subst h2; subst h3
  exact ⟨v, (T.setVm vm₁).calling g' mk (Value.ref b :: As).toArray, t, U', L, hT, X', hL, e1, e2, hq, st⟩
section
variable {y : MethodName} {bytes cc : ByteArray} {maxL nL mc ms n index : Nat} {ret : Option FieldType} {ws : List Cond} {rm : Room} {Pc : Array Value → State → Prop} {Qc : Array Value → State → Outcome → State → Prop} {XC : String → State → State → Prop} {free : Addr → Prop} {Ts : List Cond} {own C : String} {b : Addr} {As rest : List Value} {g : JFrame}
theorem vx_runVX {hh : List (Nat × Nat × Nat × Nat)} (S : CallFix p m c cc nL s args Ts own) (hM : vx_Met l y ws rm Pc Qc XC mc ms free) (cw : vx_CVW R s args own C index y bytes maxL ret hh ws rm mc ms n) (hp : PreV s H C b Pc As)
    (hg : g.method = m) (hn : As.length = n) (hsize : g.locals.size = nL) (hstack : g.stack = As.reverse ++ .ref b :: rest) (hW : 2 * g.monitorRoom + (rest.map fun v => v.category).sum ≤ 8) (hdg : decode cc g.pc = .ok (.invokevirtual index, 3)) (hf : cells + mc ≤ R.cells ∧ slots + ms ≤ R.slots) :
    vx_Run p l e R s m args below meth c H locs cells slots mc ms g rest (Qc (Value.ref b :: As).toArray) XC free := by
  obtain ⟨⟨hrc, hrs, hfr, hlo, hws, hcw⟩, hcode, hini, hy, hlen, hl, hin, hse⟩ := cw
  have hK : vx_Back l R p e below s args y 3 8 (PreOf R mc ms Pc) (PostOf Qc mc ms free) (vx_Post XC mc ms free) := vx_backW (hh := hh) (bytes := bytes) (maxL := maxL) (ret := ret) hM hp.1 hrc hrs hfr hlo hws hcw (fun a' U hW => word_at hW (Or.inl (by first | rfl | simp [Cond.onTables, Cond.keeps, Cond.steady])) hini)
  obtain ⟨hx, hb, hml, ho, -⟩ := S
  obtain ⟨-, ⟨cellB, hcB, hoB, hclB⟩, hPc⟩ := hp
  intro T hT X
  rcases vx_callVX X hx (C := C) (hh := hh) (bytes := bytes) (maxL := maxL) (ret := ret) ho hl hin hse hcode hy hK (by rw [hT]; exact hcB) hoB hclB hg (hsize.trans hml.symm) (argsL := As) (rest := rest) (fun sig h => hn.trans (hlen sig h)) hstack hW (by rw [hb]; exact hdg)
    (fun vm₁ hW₁ => ⟨hf.1, hf.2, hPc (T.setVm vm₁) hT hW₁⟩) with ⟨v, vm₁, ⟨U', l2, c2, s2⟩, hW₁, X', ⟨g', mk, t, L, e1, e2, hq, h1, hL, h2, h3⟩, st⟩ | ⟨q, vm₁, ⟨U', l2, c2, s2⟩, hW₁, X', ⟨g', mk, t, L, E, ce, e1, e2, hq, hce, hcv, hcl, h1, hL, h2, h3⟩, st⟩
  · dsimp only [Pt.U, Pt.locs, Pt.cells, Pt.slots] at X' e1 e2 h1 h2 h3 st
    subst h1; subst h2; subst h3
    exact Or.inl ⟨v, (T.setVm vm₁).calling g' mk (Value.ref b :: As).toArray, t, U', L, hT, X', hL, e1, e2, hq, st⟩
  · dsimp only [Pt.U, Pt.locs, Pt.cells, Pt.slots] at X' e1 e2 h1 h2 h3 st hcl
    subst h1; subst h2; subst h3
    exact Or.inr ⟨q, (T.setVm vm₁).calling g' mk (Value.ref b :: As).toArray, t, U', L, E, ce, hT, X', hL, e1, e2, hq, hce, hcv, vx_cls hW₁ hcl, st⟩
theorem vx_runSX {hh : List (Nat × Nat × Nat × Nat)} (S : CallFix p m c cc nL s args Ts own) (hM : vx_Met l y ws rm Pc Qc XC mc ms free) (cw : vx_CSW R s args own index y bytes maxL ret hh ws rm mc ms n) (hp : PreS s H Pc As)
    (hg : g.method = m) (hn : As.length = n) (hsize : g.locals.size = nL) (hstack : g.stack = As.reverse ++ rest) (hW : 2 * g.monitorRoom + (rest.map fun v => v.category).sum ≤ 8) (hdg : decode cc g.pc = .ok (.invokestatic index, 3)) (hf : cells + mc ≤ R.cells ∧ slots + ms ≤ R.slots) :
    vx_Run p l e R s m args below meth c H locs cells slots mc ms g rest (Qc As.toArray) XC free := by
  obtain ⟨⟨hrc, hrs, hfr, hlo, hws, hcw⟩, hcode, hini, hy, hlen, hl, hstt⟩ := cw
  have hK : vx_Back l R p e below s args y 3 8 (PreOf R mc ms Pc) (PostOf Qc mc ms free) (vx_Post XC mc ms free) := vx_backW (hh := hh) (bytes := bytes) (maxL := maxL) (ret := ret) hM hp.1 hrc hrs hfr hlo hws hcw (fun a' U hW => word_at hW (Or.inl (by first | rfl | simp [Cond.onTables, Cond.keeps, Cond.steady])) hini)
  obtain ⟨hx, hb, hml, ho, -⟩ := S
  intro T hT X
  rcases vx_callSX X hx (hh := hh) (bytes := bytes) (maxL := maxL) (ret := ret) ho hl hstt hini hcode hy hK hg (hsize.trans hml.symm) (argsL := As) (rest := rest) (fun sig h => hn.trans (hlen sig h)) hstack hW (by rw [hb]; exact hdg)
    (fun vm₁ hW₁ => ⟨hf.1, hf.2, hp.2 (T.setVm vm₁) hT hW₁⟩) with ⟨v, vm₁, ⟨U', l2, c2, s2⟩, hW₁, X', ⟨g', mk, t, L, e1, e2, hq, h1, hL, h2, h3⟩, st⟩ | ⟨q, vm₁, ⟨U', l2, c2, s2⟩, hW₁, X', ⟨g', mk, t, L, E, ce, e1, e2, hq, hce, hcv, hcl, h1, hL, h2, h3⟩, st⟩
  · dsimp only [Pt.U, Pt.locs, Pt.cells, Pt.slots] at X' e1 e2 h1 h2 h3 st
    subst h1; subst h2; subst h3
    exact Or.inl ⟨v, (T.setVm vm₁).calling g' mk As.toArray, t, U', L, hT, X', hL, e1, e2, hq, st⟩
  · dsimp only [Pt.U, Pt.locs, Pt.cells, Pt.slots] at X' e1 e2 h1 h2 h3 st hcl
    subst h1; subst h2; subst h3
    exact Or.inr ⟨q, (T.setVm vm₁).calling g' mk As.toArray, t, U', L, E, ce, hT, X', hL, e1, e2, hq, hce, hcv, vx_cls hW₁ hcl, st⟩
end
end VXH
theorem vx_ofWH {l : Launch} {y : MethodName} {ws ws' : List Cond} {rm : Room} {Pc : Array Value → State → Prop} {Qc : Array Value → State → Outcome → State → Prop} {XC : String → State → State → Prop} {mc ms : Nat} {free : Addr → Prop} {cc : ByteArray} {maxL : Nat} {ret : Option FieldType} {hh : List (Nat × Nat × Nat × Nat)}
    (hy : plainName y.cls = true) (hw : ws = Cond.codeWith y cc maxL ret hh :: ws')
    (body : ∀ p e s m args below meth c s₁, BodyLoose p l y (headSpec ws rm) cc maxL ret e s m args below meth c s₁ → c.maxLocals = maxL → Pc args s →
      W p l e (headSpec ws rm).room s m args below meth c s.heap [] 0 0 (vx_MQ below Qc XC args s mc ms free) (entryFrame m args maxL)) : vx_Met l y ws rm Pc Qc XC mc ms free := by
  refine MetFree.of_bodyS (code := cc) (maxLocals := maxL) (ret := ret) hy ?_ ?_
  · intro args s m h hn
    obtain ⟨m9, meth, c, hn9, h1, h2, h3, h4, -, h5, h6, -⟩ := Cond.codeWith_spec (atoms_spec (ws := ws) h _ (by rw [hw]; exact List.mem_cons_self))
    cases hn.symm.trans hn9
    exact ⟨meth, c, h1, h2, h3, h4, h5, h6⟩
  · intro p e s m args below meth c s₁ B hml hP _
    have hh0 : s₁.heap = s.heap := by rw [B.state]; rfl
    obtain ⟨t, a1, o, b1, b2, b3⟩ := body p e s m args below meth c s₁ B hml hP s₁ hh0 (Stand.of_body B)
    exact ⟨t, o, a1, b1, b2, b3⟩
/-! ===== END ===== -/
end
section
def zB : List Cond := lw_tbl.filter goodWord
theorem zkm2 {w : Cond} (h : w ∈ tables_1) (hg : goodWord w = true) : w ∈ zB := List.mem_filter.mpr ⟨List.mem_append_right _ h, hg⟩
theorem zkm {w : Cond} (i : Nat) (h : tables_1[i]? = some w) (hg : goodWord w = true) : w ∈ zB := zkm2 (List.mem_of_getElem? h) hg
theorem zks {w : Cond} (i : Nat) (h : (k2_sels lw_privs)[i]? = some w) (hg : goodWord w = true) : w ∈ zB := List.mem_filter.mpr ⟨List.mem_append_left _ (List.mem_of_getElem? h), hg⟩
theorem zB_good {w : Cond} (h : w ∈ zB) : (w.onTables && w.keeps) = true ∨ ∃ ty, w = .arrayClass ty := good_of_word (List.mem_filter.mp h).2
theorem zB_tbl {w : Cond} (h : w ∈ zB) : w ∈ lw_tbl := (List.mem_filter.mp h).1
abbrev RZ : String := "ZoneHeap"
def TZ : u_T := fun k => match k with
  | 0 => ("ZoneHeap", "octets", "[B", true)
  | 1 => ("ZoneHeap", "takers", "[LZoneHeap$Block;", true)
  | 2 => ("ZoneHeap", "keptBlocks", "Ljava/util/ArrayList;", true)
  | 3 => ("ZoneHeap", "keptOctets", "I", false)
  | 4 => ("ZoneHeap", "liveBlocks", "I", false)
  | 5 => ("ZoneHeap", "liveOctets", "I", false)
  | 6 => ("ZoneHeap", "madeBlocks", "I", false)
  | 7 => ("ZoneHeap", "reachedBlocks", "[LZoneHeap$Block;", true)
  | 8 => ("ZoneHeap", "reachedCount", "I", false)
  | 9 => ("ZoneHeap", "lostStarts", "[I", true)
  | _ => ("ZoneHeap", "lostCount", "I", false)
def tyZ : Nat → FieldType := fun k => match k with
  | 0 => .array .byte
  | 1 => .array (.object "ZoneHeap$Block")
  | 2 => .object "java/util/ArrayList"
  | 3 => .int
  | 4 => .int
  | 5 => .int
  | 6 => .int
  | 7 => .array (.object "ZoneHeap$Block")
  | 8 => .int
  | 9 => .array .int
  | _ => .int
theorem nmZ : ∀ a, a < 11 → ∀ b, b < 11 → a ≠ b → (TZ a).2.1 ≠ (TZ b).2.1 := by decide +kernel
theorem okZ : ∀ k, k < 11 → parseFieldDescriptor (TZ k).2.2.1 = some (tyZ k) := by decide +kernel
theorem inZ : ∀ w ∈ u_ws RZ TZ 11, w ∈ zB := by
  have h : ∀ w ∈ u_ws RZ TZ 11, w ∈ tables_1 ∧ goodWord w = true := by decide +kernel
  exact fun w hw => zkm2 (h w hw).1 (h w hw).2
abbrev RB : String := "ZoneHeap$Block"
def TB : u_T := fun k => match k with
  | 0 => ("ZoneHeap$Block", "start", "I", true)
  | 1 => ("ZoneHeap$Block", "size", "I", true)
  | 2 => ("ZoneHeap$Block", "kept", "Z", false)
  | _ => ("ZoneHeap$Block", "reached", "Z", false)
def tyB : Nat → FieldType := fun k => match k with
  | 0 => .int
  | 1 => .int
  | 2 => .boolean
  | _ => .boolean
theorem nmB : ∀ a, a < 4 → ∀ b, b < 4 → a ≠ b → (TB a).2.1 ≠ (TB b).2.1 := by decide +kernel
theorem okB : ∀ k, k < 4 → parseFieldDescriptor (TB k).2.2.1 = some (tyB k) := by decide +kernel
theorem inB : ∀ w ∈ u_ws RB TB 4, w ∈ zB := by
  have h : ∀ w ∈ u_ws RB TB 4, w ∈ tables_1 ∧ goodWord w = true := by decide +kernel
  exact fun w hw => zkm2 (h w hw).1 (h w hw).2
abbrev RM : String := "ZoneHeapModel"
def TM : u_T := fun k => match k with
  | 0 => ("ZoneHeapModel", "err", "I", false)
  | 1 => ("ZoneHeapModel", "octet", "[I", true)
  | 2 => ("ZoneHeapModel", "place", "[I", true)
  | 3 => ("ZoneHeapModel", "size", "[I", true)
  | 4 => ("ZoneHeapModel", "state", "[I", true)
  | 5 => ("ZoneHeapModel", "since", "[I", true)
  | 6 => ("ZoneHeapModel", "reached", "[Z", true)
  | 7 => ("ZoneHeapModel", "found", "[I", true)
  | 8 => ("ZoneHeapModel", "many", "I", false)
  | 9 => ("ZoneHeapModel", "made", "I", false)
  | 10 => ("ZoneHeapModel", "backs", "I", false)
  | _ => ("ZoneHeapModel", "lostMany", "I", false)
def tyM : Nat → FieldType := fun k => match k with
  | 0 => .int
  | 1 => .array .int
  | 2 => .array .int
  | 3 => .array .int
  | 4 => .array .int
  | 5 => .array .int
  | 6 => .array .boolean
  | 7 => .array .int
  | 8 => .int
  | 9 => .int
  | 10 => .int
  | _ => .int
theorem nmM : ∀ a, a < 12 → ∀ b, b < 12 → a ≠ b → (TM a).2.1 ≠ (TM b).2.1 := by decide +kernel
theorem okM : ∀ k, k < 12 → parseFieldDescriptor (TM k).2.2.1 = some (tyM k) := by decide +kernel
theorem inM : ∀ w ∈ u_ws RM TM 12, w ∈ zB := by
  have h : ∀ w ∈ u_ws RM TM 12, w ∈ tables_1 ∧ goodWord w = true := by decide +kernel
  exact fun w hw => zkm2 (h w hw).1 (h w hw).2
abbrev RA : String := "java/util/ArrayList"
def TA : u_T := fun k => match k with
  | 0 => ("java/util/AbstractList", "modCount", "I", false)
  | 1 => ("java/util/ArrayList", "elementData", "[Ljava/lang/Object;", false)
  | _ => ("java/util/ArrayList", "size", "I", false)
def tyA : Nat → FieldType := fun k => match k with
  | 0 => .int
  | 1 => .array (.object "java/lang/Object")
  | _ => .int
theorem nmA : ∀ a, a < 3 → ∀ b, b < 3 → a ≠ b → (TA a).2.1 ≠ (TA b).2.1 := by decide +kernel
theorem okA : ∀ k, k < 3 → parseFieldDescriptor (TA k).2.2.1 = some (tyA k) := by decide +kernel
theorem inA : ∀ w ∈ u_ws RA TA 3, w ∈ zB := by
  have h : ∀ w ∈ u_ws RA TA 3, w ∈ tables_1 ∧ goodWord w = true := by decide +kernel
  exact fun w hw => zkm2 (h w hw).1 (h w hw).2
abbrev zcl : List vw_C := [(RZ, TZ, 11), (RB, TB, 4), (RM, TM, 12), (RA, TA, 3)]
abbrev c_Z_init : ByteArray := prog_1_method_1_code
abbrev y_Z_init : MethodName := ⟨"ZoneHeap", "<init>", "()V"⟩
theorem kc_Z_init : Cond.code y_Z_init c_Z_init 1 none ∈ zB := zkm 23 (by decide +kernel) rfl
def w_Z_init : List Cond := Cond.code y_Z_init c_Z_init 1 none :: zB
abbrev c_O_init : ByteArray := object_method_1_code
abbrev y_O_init : MethodName := ⟨"java/lang/Object", "<init>", "()V"⟩
theorem kc_O_init : Cond.code y_O_init c_O_init 1 none ∈ zB := zkm 26 (by decide +kernel) rfl
def w_O_init : List Cond := Cond.code y_O_init c_O_init 1 none :: zB
abbrev c_A_init : ByteArray := prog_19_method_2_code
abbrev y_A_init : MethodName := ⟨"java/util/ArrayList", "<init>", "()V"⟩
theorem kc_A_init : Cond.code y_A_init c_A_init 1 none ∈ zB := zkm 33 (by decide +kernel) rfl
def w_A_init : List Cond := Cond.code y_A_init c_A_init 1 none :: zB
abbrev c_Al_init : ByteArray := prog_18_method_1_code
abbrev y_Al_init : MethodName := ⟨"java/util/AbstractList", "<init>", "()V"⟩
theorem kc_Al_init : Cond.code y_Al_init c_Al_init 1 none ∈ zB := zkm 36 (by decide +kernel) rfl
def w_Al_init : List Cond := Cond.code y_Al_init c_Al_init 1 none :: zB
abbrev c_Ac_init : ByteArray := prog_17_method_1_code
abbrev y_Ac_init : MethodName := ⟨"java/util/AbstractCollection", "<init>", "()V"⟩
theorem kc_Ac_init : Cond.code y_Ac_init c_Ac_init 1 none ∈ zB := zkm 39 (by decide +kernel) rfl
def w_Ac_init : List Cond := Cond.code y_Ac_init c_Ac_init 1 none :: zB
abbrev c_Z_lost : ByteArray := prog_1_method_9_code
abbrev y_Z_lost : MethodName := ⟨"ZoneHeap", "lost", "(II)I"⟩
theorem kc_Z_lost : Cond.code y_Z_lost c_Z_lost 4 (some .int) ∈ zB := zkm 94 (by decide +kernel) rfl
def w_Z_lost : List Cond := Cond.code y_Z_lost c_Z_lost 4 (some .int) :: zB
abbrev c_Z_forgetReached : ByteArray := prog_1_method_28_code
abbrev y_Z_forgetReached : MethodName := ⟨"ZoneHeap", "forgetReached", "()V"⟩
theorem kc_Z_forgetReached : Cond.code y_Z_forgetReached c_Z_forgetReached 2 none ∈ zB := zkm 98 (by decide +kernel) rfl
def w_Z_forgetReached : List Cond := Cond.code y_Z_forgetReached c_Z_forgetReached 2 none :: zB
abbrev c_Z_reach : ByteArray := prog_1_method_29_code
abbrev y_Z_reach : MethodName := ⟨"ZoneHeap", "reach", "(I)V"⟩
theorem kc_Z_reach : Cond.code y_Z_reach c_Z_reach 3 none ∈ zB := zkm 102 (by decide +kernel) rfl
def w_Z_reach : List Cond := Cond.code y_Z_reach c_Z_reach 3 none :: zB
abbrev c_Z_ledToBy : ByteArray := prog_1_method_21_code
abbrev y_Z_ledToBy : MethodName := ⟨"ZoneHeap", "ledToBy", "(I)LZoneHeap$Block;"⟩
theorem kc_Z_ledToBy : Cond.code y_Z_ledToBy c_Z_ledToBy 3 (some (.object "ZoneHeap$Block")) ∈ zB := zkm 106 (by decide +kernel) rfl
def w_Z_ledToBy : List Cond := Cond.code y_Z_ledToBy c_Z_ledToBy 3 (some (.object "ZoneHeap$Block")) :: zB
abbrev c_Z_standingAt : ByteArray := prog_1_method_18_code
abbrev y_Z_standingAt : MethodName := ⟨"ZoneHeap", "standingAt", "(I)LZoneHeap$Block;"⟩
theorem kc_Z_standingAt : Cond.code y_Z_standingAt c_Z_standingAt 3 (some (.object "ZoneHeap$Block")) ∈ zB := zkm 110 (by decide +kernel) rfl
def w_Z_standingAt : List Cond := Cond.code y_Z_standingAt c_Z_standingAt 3 (some (.object "ZoneHeap$Block")) :: zB
abbrev c_Z_isOctet : ByteArray := prog_1_method_15_code
abbrev y_Z_isOctet : MethodName := ⟨"ZoneHeap", "isOctet", "(I)Z"⟩
theorem kc_Z_isOctet : Cond.code y_Z_isOctet c_Z_isOctet 1 (some .boolean) ∈ zB := zkm 113 (by decide +kernel) rfl
def w_Z_isOctet : List Cond := Cond.code y_Z_isOctet c_Z_isOctet 1 (some .boolean) :: zB
abbrev c_Z_liveHaving : ByteArray := prog_1_method_20_code
abbrev y_Z_liveHaving : MethodName := ⟨"ZoneHeap", "liveHaving", "(I)LZoneHeap$Block;"⟩
theorem kc_Z_liveHaving : Cond.code y_Z_liveHaving c_Z_liveHaving 3 (some (.object "ZoneHeap$Block")) ∈ zB := zkm 117 (by decide +kernel) rfl
def w_Z_liveHaving : List Cond := Cond.code y_Z_liveHaving c_Z_liveHaving 3 (some (.object "ZoneHeap$Block")) :: zB
abbrev c_B_has : ByteArray := prog_2_method_2_code
abbrev y_B_has : MethodName := ⟨"ZoneHeap$Block", "has", "(I)Z"⟩
theorem kc_B_has : Cond.code y_B_has c_B_has 2 (some .boolean) ∈ zB := zkm 122 (by decide +kernel) rfl
def w_B_has : List Cond := Cond.code y_B_has c_B_has 2 (some .boolean) :: zB
abbrev c_Z_reachFromWordsOf : ByteArray := prog_1_method_30_code
abbrev y_Z_reachFromWordsOf : MethodName := ⟨"ZoneHeap", "reachFromWordsOf", "(LZoneHeap$Block;)V"⟩
theorem kc_Z_reachFromWordsOf : Cond.code y_Z_reachFromWordsOf c_Z_reachFromWordsOf 3 none ∈ zB := zkm 126 (by decide +kernel) rfl
def w_Z_reachFromWordsOf : List Cond := Cond.code y_Z_reachFromWordsOf c_Z_reachFromWordsOf 3 none :: zB
abbrev c_Z_wordAt : ByteArray := prog_1_method_17_code
abbrev y_Z_wordAt : MethodName := ⟨"ZoneHeap", "wordAt", "(I)I"⟩
theorem kc_Z_wordAt : Cond.code y_Z_wordAt c_Z_wordAt 4 (some .int) ∈ zB := zkm 130 (by decide +kernel) rfl
def w_Z_wordAt : List Cond := Cond.code y_Z_wordAt c_Z_wordAt 4 (some .int) :: zB
abbrev c_Z_noteLost : ByteArray := prog_1_method_31_code
abbrev y_Z_noteLost : MethodName := ⟨"ZoneHeap", "noteLost", "()V"⟩
theorem kc_Z_noteLost : Cond.code y_Z_noteLost c_Z_noteLost 3 none ∈ zB := zkm 134 (by decide +kernel) rfl
def w_Z_noteLost : List Cond := Cond.code y_Z_noteLost c_Z_noteLost 3 none :: zB
abbrev c_L_get : ByteArray := method_3_code
abbrev y_L_get : MethodName := ⟨"ZoneHeapLaw", "get", "(LZoneHeap;I[J)I"⟩
theorem kc_L_get : Cond.codeWith y_L_get c_L_get 4 (some .int) [(0, 9, 12, 13)] ∈ zB := zkm 137 (by decide +kernel) rfl
def w_L_get : List Cond := Cond.codeWith y_L_get c_L_get 4 (some .int) [(0, 9, 12, 13)] :: zB
abbrev c_Z_get : ByteArray := prog_1_method_2_code
abbrev y_Z_get : MethodName := ⟨"ZoneHeap", "get", "(I)I"⟩
theorem kc_Z_get : Cond.code y_Z_get c_Z_get 3 (some .int) ∈ zB := zkm 142 (by decide +kernel) rfl
def w_Z_get : List Cond := Cond.code y_Z_get c_Z_get 3 (some .int) :: zB
abbrev c_Z_refuseWrongSize : ByteArray := prog_1_method_12_code
abbrev y_Z_refuseWrongSize : MethodName := ⟨"ZoneHeap", "refuseWrongSize", "(I)V"⟩
theorem kc_Z_refuseWrongSize : Cond.code y_Z_refuseWrongSize c_Z_refuseWrongSize 1 none ∈ zB := zkm 145 (by decide +kernel) rfl
def w_Z_refuseWrongSize : List Cond := Cond.code y_Z_refuseWrongSize c_Z_refuseWrongSize 1 none :: zB
abbrev c_Z_make : ByteArray := prog_1_method_22_code
abbrev y_Z_make : MethodName := ⟨"ZoneHeap", "make", "(I)LZoneHeap$Block;"⟩
theorem kc_Z_make : Cond.code y_Z_make c_Z_make 4 (some (.object "ZoneHeap$Block")) ∈ zB := zkm 216 (by decide +kernel) rfl
def w_Z_make : List Cond := Cond.code y_Z_make c_Z_make 4 (some (.object "ZoneHeap$Block")) :: zB
abbrev c_Z_cellsFor : ByteArray := prog_1_method_23_code
abbrev y_Z_cellsFor : MethodName := ⟨"ZoneHeap", "cellsFor", "(I)I"⟩
theorem kc_Z_cellsFor : Cond.code y_Z_cellsFor c_Z_cellsFor 1 (some .int) ∈ zB := zkm 219 (by decide +kernel) rfl
def w_Z_cellsFor : List Cond := Cond.code y_Z_cellsFor c_Z_cellsFor 1 (some .int) :: zB
abbrev c_Mt_max : ByteArray := prog_12_method_65_code
abbrev y_Mt_max : MethodName := ⟨"java/lang/Math", "max", "(II)I"⟩
theorem kc_Mt_max : Cond.code y_Mt_max c_Mt_max 2 (some .int) ∈ zB := zkm 222 (by decide +kernel) rfl
def w_Mt_max : List Cond := Cond.code y_Mt_max c_Mt_max 2 (some .int) :: zB
abbrev c_Z_firstRoomFor : ByteArray := prog_1_method_24_code
abbrev y_Z_firstRoomFor : MethodName := ⟨"ZoneHeap", "firstRoomFor", "(I)I"⟩
theorem kc_Z_firstRoomFor : Cond.code y_Z_firstRoomFor c_Z_firstRoomFor 4 (some .int) ∈ zB := zkm 226 (by decide +kernel) rfl
def w_Z_firstRoomFor : List Cond := Cond.code y_Z_firstRoomFor c_Z_firstRoomFor 4 (some .int) :: zB
abbrev c_B_init : ByteArray := prog_2_method_1_code
abbrev y_B_init : MethodName := ⟨"ZoneHeap$Block", "<init>", "(II)V"⟩
theorem kc_B_init : Cond.code y_B_init c_B_init 3 none ∈ zB := zkm 229 (by decide +kernel) rfl
def w_B_init : List Cond := Cond.code y_B_init c_B_init 3 none :: zB
abbrev c_Z_setTaker : ByteArray := prog_1_method_25_code
abbrev y_Z_setTaker : MethodName := ⟨"ZoneHeap", "setTaker", "(LZoneHeap$Block;LZoneHeap$Block;)V"⟩
theorem kc_Z_setTaker : Cond.code y_Z_setTaker c_Z_setTaker 6 none ∈ zB := zkm 251 (by decide +kernel) rfl
def w_Z_setTaker : List Cond := Cond.code y_Z_setTaker c_Z_setTaker 6 none :: zB
abbrev c_L_back : ByteArray := method_4_code
abbrev y_L_back : MethodName := ⟨"ZoneHeapLaw", "back", "(LZoneHeap;I[J)I"⟩
theorem kc_L_back : Cond.codeWith y_L_back c_L_back 4 (some .int) [(0, 9, 12, 13), (0, 9, 15, 18)] ∈ zB := zkm 254 (by decide +kernel) rfl
def w_L_back : List Cond := Cond.codeWith y_L_back c_L_back 4 (some .int) [(0, 9, 12, 13), (0, 9, 15, 18)] :: zB
abbrev c_Z_back : ByteArray := prog_1_method_3_code
abbrev y_Z_back : MethodName := ⟨"ZoneHeap", "back", "(I)I"⟩
theorem kc_Z_back : Cond.code y_Z_back c_Z_back 3 (some .int) ∈ zB := zkm 259 (by decide +kernel) rfl
def w_Z_back : List Cond := Cond.code y_Z_back c_Z_back 3 (some .int) :: zB
abbrev c_Z_liveStandingAt : ByteArray := prog_1_method_19_code
abbrev y_Z_liveStandingAt : MethodName := ⟨"ZoneHeap", "liveStandingAt", "(I)LZoneHeap$Block;"⟩
theorem kc_Z_liveStandingAt : Cond.code y_Z_liveStandingAt c_Z_liveStandingAt 3 (some (.object "ZoneHeap$Block")) ∈ zB := zkm 263 (by decide +kernel) rfl
def w_Z_liveStandingAt : List Cond := Cond.code y_Z_liveStandingAt c_Z_liveStandingAt 3 (some (.object "ZoneHeap$Block")) :: zB
abbrev c_Z_giveBack : ByteArray := prog_1_method_26_code
abbrev y_Z_giveBack : MethodName := ⟨"ZoneHeap", "giveBack", "(LZoneHeap$Block;)V"⟩
theorem kc_Z_giveBack : Cond.code y_Z_giveBack c_Z_giveBack 3 none ∈ zB := zkm 284 (by decide +kernel) rfl
def w_Z_giveBack : List Cond := Cond.code y_Z_giveBack c_Z_giveBack 3 none :: zB
abbrev c_A_add : ByteArray := prog_19_method_25_code
abbrev y_A_add : MethodName := ⟨"java/util/ArrayList", "add", "(Ljava/lang/Object;)Z"⟩
theorem kc_A_add : Cond.code y_A_add c_A_add 2 (some .boolean) ∈ zB := zkm 288 (by decide +kernel) rfl
def w_A_add : List Cond := Cond.code y_A_add c_A_add 2 (some .boolean) :: zB
abbrev c_A_add2 : ByteArray := prog_19_method_24_code
abbrev y_A_add2 : MethodName := ⟨"java/util/ArrayList", "add", "(Ljava/lang/Object;[Ljava/lang/Object;I)V"⟩
theorem kc_A_add2 : Cond.code y_A_add2 c_A_add2 4 none ∈ zB := zkm 292 (by decide +kernel) rfl
def w_A_add2 : List Cond := Cond.code y_A_add2 c_A_add2 4 none :: zB
abbrev c_A_grow : ByteArray := prog_19_method_7_code
abbrev y_A_grow : MethodName := ⟨"java/util/ArrayList", "grow", "()[Ljava/lang/Object;"⟩
theorem kc_A_grow : Cond.code y_A_grow c_A_grow 1 (some (.array (.object "java/lang/Object"))) ∈ zB := zkm 296 (by decide +kernel) rfl
def w_A_grow : List Cond := Cond.code y_A_grow c_A_grow 1 (some (.array (.object "java/lang/Object"))) :: zB
abbrev c_A_grow2 : ByteArray := prog_19_method_6_code
abbrev y_A_grow2 : MethodName := ⟨"java/util/ArrayList", "grow", "(I)[Ljava/lang/Object;"⟩
theorem kc_A_grow2 : Cond.code y_A_grow2 c_A_grow2 4 (some (.array (.object "java/lang/Object"))) ∈ zB := zkm 300 (by decide +kernel) rfl
def w_A_grow2 : List Cond := Cond.code y_A_grow2 c_A_grow2 4 (some (.array (.object "java/lang/Object"))) :: zB
abbrev c_Su_newLength : ByteArray := prog_26_method_27_code
abbrev y_Su_newLength : MethodName := ⟨"jdk/internal/util/ArraysSupport", "newLength", "(III)I"⟩
theorem kc_Su_newLength : Cond.code y_Su_newLength c_Su_newLength 4 (some .int) ∈ zB := zkm 303 (by decide +kernel) rfl
def w_Su_newLength : List Cond := Cond.code y_Su_newLength c_Su_newLength 4 (some .int) :: zB
abbrev c_Su_hugeLength : ByteArray := prog_26_method_28_code
abbrev y_Su_hugeLength : MethodName := ⟨"jdk/internal/util/ArraysSupport", "hugeLength", "(II)I"⟩
theorem kc_Su_hugeLength : Cond.code y_Su_hugeLength c_Su_hugeLength 3 (some .int) ∈ zB := zkm 308 (by decide +kernel) rfl
def w_Su_hugeLength : List Cond := Cond.code y_Su_hugeLength c_Su_hugeLength 3 (some .int) :: zB
abbrev c_As_copyOf : ByteArray := prog_20_method_119_code
abbrev y_As_copyOf : MethodName := ⟨"java/util/Arrays", "copyOf", "([Ljava/lang/Object;I)[Ljava/lang/Object;"⟩
theorem kc_As_copyOf : Cond.code y_As_copyOf c_As_copyOf 2 (some (.array (.object "java/lang/Object"))) ∈ zB := zkm 311 (by decide +kernel) rfl
def w_As_copyOf : List Cond := Cond.code y_As_copyOf c_As_copyOf 2 (some (.array (.object "java/lang/Object"))) :: zB
abbrev c_As_copyOf2 : ByteArray := prog_20_method_120_code
abbrev y_As_copyOf2 : MethodName := ⟨"java/util/Arrays", "copyOf", "([Ljava/lang/Object;ILjava/lang/Class;)[Ljava/lang/Object;"⟩
theorem kc_As_copyOf2 : Cond.code y_As_copyOf2 c_As_copyOf2 4 (some (.array (.object "java/lang/Object"))) ∈ zB := zkm 325 (by decide +kernel) rfl
def w_As_copyOf2 : List Cond := Cond.code y_As_copyOf2 c_As_copyOf2 4 (some (.array (.object "java/lang/Object"))) :: zB
abbrev c_Mt_min : ByteArray := prog_12_method_69_code
abbrev y_Mt_min : MethodName := ⟨"java/lang/Math", "min", "(II)I"⟩
theorem kc_Mt_min : Cond.code y_Mt_min c_Mt_min 2 (some .int) ∈ zB := zkm 331 (by decide +kernel) rfl
def w_Mt_min : List Cond := Cond.code y_Mt_min c_Mt_min 2 (some .int) :: zB
abbrev c_A_size : ByteArray := prog_19_method_8_code
abbrev y_A_size : MethodName := ⟨"java/util/ArrayList", "size", "()I"⟩
theorem kc_A_size : Cond.code y_A_size c_A_size 1 (some .int) ∈ zB := zkm 340 (by decide +kernel) rfl
def w_A_size : List Cond := Cond.code y_A_size c_A_size 1 (some .int) :: zB
abbrev c_Z_dropOldestKept : ByteArray := prog_1_method_27_code
abbrev y_Z_dropOldestKept : MethodName := ⟨"ZoneHeap", "dropOldestKept", "()V"⟩
theorem kc_Z_dropOldestKept : Cond.code y_Z_dropOldestKept c_Z_dropOldestKept 2 none ∈ zB := zkm 344 (by decide +kernel) rfl
def w_Z_dropOldestKept : List Cond := Cond.code y_Z_dropOldestKept c_Z_dropOldestKept 2 none :: zB
abbrev c_A_isEmpty : ByteArray := prog_19_method_9_code
abbrev y_A_isEmpty : MethodName := ⟨"java/util/ArrayList", "isEmpty", "()Z"⟩
theorem kc_A_isEmpty : Cond.code y_A_isEmpty c_A_isEmpty 1 (some .boolean) ∈ zB := zkm 348 (by decide +kernel) rfl
def w_A_isEmpty : List Cond := Cond.code y_A_isEmpty c_A_isEmpty 1 (some .boolean) :: zB
abbrev c_A_remove : ByteArray := prog_19_method_29_code
abbrev y_A_remove : MethodName := ⟨"java/util/ArrayList", "remove", "(I)Ljava/lang/Object;"⟩
theorem kc_A_remove : Cond.code y_A_remove c_A_remove 4 (some (.object "java/lang/Object")) ∈ zB := zkm 352 (by decide +kernel) rfl
def w_A_remove : List Cond := Cond.code y_A_remove c_A_remove 4 (some (.object "java/lang/Object")) :: zB
abbrev c_Ob_checkIndex : ByteArray := prog_23_method_17_code
abbrev y_Ob_checkIndex : MethodName := ⟨"java/util/Objects", "checkIndex", "(II)I"⟩
theorem kc_Ob_checkIndex : Cond.code y_Ob_checkIndex c_Ob_checkIndex 2 (some .int) ∈ zB := zkm 355 (by decide +kernel) rfl
def w_Ob_checkIndex : List Cond := Cond.code y_Ob_checkIndex c_Ob_checkIndex 2 (some .int) :: zB
abbrev c_Pc_checkIndex : ByteArray := prog_27_method_11_code
abbrev y_Pc_checkIndex : MethodName := ⟨"jdk/internal/util/Preconditions", "checkIndex", "(IILjava/util/function/BiFunction;)I"⟩
theorem kc_Pc_checkIndex : Cond.code y_Pc_checkIndex c_Pc_checkIndex 3 (some .int) ∈ zB := zkm 358 (by decide +kernel) rfl
def w_Pc_checkIndex : List Cond := Cond.code y_Pc_checkIndex c_Pc_checkIndex 3 (some .int) :: zB
abbrev c_A_fastRemove : ByteArray := prog_19_method_39_code
abbrev y_A_fastRemove : MethodName := ⟨"java/util/ArrayList", "fastRemove", "([Ljava/lang/Object;I)V"⟩
theorem kc_A_fastRemove : Cond.code y_A_fastRemove c_A_fastRemove 4 none ∈ zB := zkm 362 (by decide +kernel) rfl
def w_A_fastRemove : List Cond := Cond.code y_A_fastRemove c_A_fastRemove 4 none :: zB
abbrev c_L_again : ByteArray := method_5_code
abbrev y_L_again : MethodName := ⟨"ZoneHeapLaw", "again", "(LZoneHeap;II[J)I"⟩
theorem kc_L_again : Cond.codeWith y_L_again c_L_again 5 (some .int) [(0, 10, 13, 13), (0, 10, 17, 18)] ∈ zB := zkm 366 (by decide +kernel) rfl
def w_L_again : List Cond := Cond.codeWith y_L_again c_L_again 5 (some .int) [(0, 10, 13, 13), (0, 10, 17, 18)] :: zB
abbrev c_Z_again : ByteArray := prog_1_method_4_code
abbrev y_Z_again : MethodName := ⟨"ZoneHeap", "again", "(II)I"⟩
theorem kc_Z_again : Cond.code y_Z_again c_Z_again 5 (some .int) ∈ zB := zkm 370 (by decide +kernel) rfl
def w_Z_again : List Cond := Cond.code y_Z_again c_Z_again 5 (some .int) :: zB
abbrev c_L_kind : ByteArray := method_6_code
abbrev y_L_kind : MethodName := ⟨"ZoneHeapLaw", "kind", "(LZoneHeap;I[J)I"⟩
theorem kc_L_kind : Cond.codeWith y_L_kind c_L_kind 4 (some .int) [(0, 9, 12, 27)] ∈ zB := zkm 375 (by decide +kernel) rfl
def w_L_kind : List Cond := Cond.codeWith y_L_kind c_L_kind 4 (some .int) [(0, 9, 12, 27)] :: zB
abbrev c_Z_kind : ByteArray := prog_1_method_5_code
abbrev y_Z_kind : MethodName := ⟨"ZoneHeap", "kind", "(I)I"⟩
theorem kc_Z_kind : Cond.code y_Z_kind c_Z_kind 4 (some .int) ∈ zB := zkm 380 (by decide +kernel) rfl
def w_Z_kind : List Cond := Cond.code y_Z_kind c_Z_kind 4 (some .int) :: zB
abbrev c_Z_refuseWrongOctet : ByteArray := prog_1_method_13_code
abbrev y_Z_refuseWrongOctet : MethodName := ⟨"ZoneHeap", "refuseWrongOctet", "(I)V"⟩
theorem kc_Z_refuseWrongOctet : Cond.code y_Z_refuseWrongOctet c_Z_refuseWrongOctet 1 none ∈ zB := zkm 383 (by decide +kernel) rfl
def w_Z_refuseWrongOctet : List Cond := Cond.code y_Z_refuseWrongOctet c_Z_refuseWrongOctet 1 none :: zB
abbrev c_Z_isTaken : ByteArray := prog_1_method_16_code
abbrev y_Z_isTaken : MethodName := ⟨"ZoneHeap", "isTaken", "(I)Z"⟩
theorem kc_Z_isTaken : Cond.code y_Z_isTaken c_Z_isTaken 2 (some .boolean) ∈ zB := zkm 403 (by decide +kernel) rfl
def w_Z_isTaken : List Cond := Cond.code y_Z_isTaken c_Z_isTaken 2 (some .boolean) :: zB
abbrev c_L_block : ByteArray := method_7_code
abbrev y_L_block : MethodName := ⟨"ZoneHeapLaw", "block", "(LZoneHeap;I[J)I"⟩
theorem kc_L_block : Cond.codeWith y_L_block c_L_block 4 (some .int) [(0, 9, 12, 27)] ∈ zB := zkm 406 (by decide +kernel) rfl
def w_L_block : List Cond := Cond.codeWith y_L_block c_L_block 4 (some .int) [(0, 9, 12, 27)] :: zB
abbrev c_Z_block : ByteArray := prog_1_method_6_code
abbrev y_Z_block : MethodName := ⟨"ZoneHeap", "block", "(I)I"⟩
theorem kc_Z_block : Cond.code y_Z_block c_Z_block 3 (some .int) ∈ zB := zkm 410 (by decide +kernel) rfl
def w_Z_block : List Cond := Cond.code y_Z_block c_Z_block 3 (some .int) :: zB
abbrev c_L_write : ByteArray := method_8_code
abbrev y_L_write : MethodName := ⟨"ZoneHeapLaw", "write", "(LZoneHeap;II)I"⟩
theorem kc_L_write : Cond.codeWith y_L_write c_L_write 4 (some .int) [(0, 6, 9, 27), (0, 6, 12, 18)] ∈ zB := zkm 413 (by decide +kernel) rfl
def w_L_write : List Cond := Cond.codeWith y_L_write c_L_write 4 (some .int) [(0, 6, 9, 27), (0, 6, 12, 18)] :: zB
abbrev c_Z_write : ByteArray := prog_1_method_7_code
abbrev y_Z_write : MethodName := ⟨"ZoneHeap", "write", "(II)V"⟩
theorem kc_Z_write : Cond.code y_Z_write c_Z_write 4 none ∈ zB := zkm 417 (by decide +kernel) rfl
def w_Z_write : List Cond := Cond.code y_Z_write c_Z_write 4 none :: zB
abbrev c_Z_refuseWrongWord : ByteArray := prog_1_method_14_code
abbrev y_Z_refuseWrongWord : MethodName := ⟨"ZoneHeap", "refuseWrongWord", "(I)V"⟩
theorem kc_Z_refuseWrongWord : Cond.code y_Z_refuseWrongWord c_Z_refuseWrongWord 3 none ∈ zB := zkm 421 (by decide +kernel) rfl
def w_Z_refuseWrongWord : List Cond := Cond.code y_Z_refuseWrongWord c_Z_refuseWrongWord 3 none :: zB
abbrev c_L_read : ByteArray := method_9_code
abbrev y_L_read : MethodName := ⟨"ZoneHeapLaw", "read", "(LZoneHeap;I[J)I"⟩
theorem kc_L_read : Cond.codeWith y_L_read c_L_read 4 (some .int) [(0, 9, 12, 27), (0, 9, 15, 18)] ∈ zB := zkm 426 (by decide +kernel) rfl
def w_L_read : List Cond := Cond.codeWith y_L_read c_L_read 4 (some .int) [(0, 9, 12, 27), (0, 9, 15, 18)] :: zB
abbrev c_Z_read : ByteArray := prog_1_method_8_code
abbrev y_Z_read : MethodName := ⟨"ZoneHeap", "read", "(I)I"⟩
theorem kc_Z_read : Cond.code y_Z_read c_Z_read 2 (some .int) ∈ zB := zkm 430 (by decide +kernel) rfl
def w_Z_read : List Cond := Cond.code y_Z_read c_Z_read 2 (some .int) :: zB
abbrev c_L_lostAt : ByteArray := method_10_code
abbrev y_L_lostAt : MethodName := ⟨"ZoneHeapLaw", "lostAt", "(LZoneHeap;I[J)I"⟩
theorem kc_L_lostAt : Cond.codeWith y_L_lostAt c_L_lostAt 4 (some .int) [(0, 9, 12, 27)] ∈ zB := zkm 433 (by decide +kernel) rfl
def w_L_lostAt : List Cond := Cond.codeWith y_L_lostAt c_L_lostAt 4 (some .int) [(0, 9, 12, 27)] :: zB
abbrev c_Z_lostAt : ByteArray := prog_1_method_10_code
abbrev y_Z_lostAt : MethodName := ⟨"ZoneHeap", "lostAt", "(I)I"⟩
theorem kc_Z_lostAt : Cond.code y_Z_lostAt c_Z_lostAt 2 (some .int) ∈ zB := zkm 437 (by decide +kernel) rfl
def w_Z_lostAt : List Cond := Cond.code y_Z_lostAt c_Z_lostAt 2 (some .int) :: zB
abbrev c_L_count : ByteArray := method_11_code
abbrev y_L_count : MethodName := ⟨"ZoneHeapLaw", "count", "(LZoneHeap;I[J)I"⟩
theorem kc_L_count : Cond.codeWith y_L_count c_L_count 4 (some .int) [(0, 9, 12, 13)] ∈ zB := zkm 441 (by decide +kernel) rfl
def w_L_count : List Cond := Cond.codeWith y_L_count c_L_count 4 (some .int) [(0, 9, 12, 13)] :: zB
abbrev c_Z_count : ByteArray := prog_1_method_11_code
abbrev y_Z_count : MethodName := ⟨"ZoneHeap", "count", "(I)I"⟩
theorem kc_Z_count : Cond.code y_Z_count c_Z_count 2 (some .int) ∈ zB := zkm 445 (by decide +kernel) rfl
def w_Z_count : List Cond := Cond.code y_Z_count c_Z_count 2 (some .int) :: zB
abbrev c_M_init : ByteArray := prog_4_method_1_code
abbrev y_M_init : MethodName := ⟨"ZoneHeapModel", "<init>", "()V"⟩
theorem kc_M_init : Cond.code y_M_init c_M_init 1 none ∈ zB := zkm 451 (by decide +kernel) rfl
def w_M_init : List Cond := Cond.code y_M_init c_M_init 1 none :: zB
abbrev c_M_thrown : ByteArray := prog_4_method_2_code
abbrev y_M_thrown : MethodName := ⟨"ZoneHeapModel", "thrown", "()I"⟩
theorem kc_M_thrown : Cond.code y_M_thrown c_M_thrown 1 (some .int) ∈ zB := zkm 494 (by decide +kernel) rfl
def w_M_thrown : List Cond := Cond.code y_M_thrown c_M_thrown 1 (some .int) :: zB
abbrev c_M_get : ByteArray := prog_4_method_10_code
abbrev y_M_get : MethodName := ⟨"ZoneHeapModel", "get", "(I)I"⟩
theorem kc_M_get : Cond.code y_M_get c_M_get 2 (some .int) ∈ zB := zkm 498 (by decide +kernel) rfl
def w_M_get : List Cond := Cond.code y_M_get c_M_get 2 (some .int) :: zB
abbrev c_M_fails : ByteArray := prog_4_method_3_code
abbrev y_M_fails : MethodName := ⟨"ZoneHeapModel", "fails", "(ZI)Z"⟩
theorem kc_M_fails : Cond.code y_M_fails c_M_fails 3 (some .boolean) ∈ zB := zkm 502 (by decide +kernel) rfl
def w_M_fails : List Cond := Cond.code y_M_fails c_M_fails 3 (some .boolean) :: zB
abbrev c_M_make : ByteArray := prog_4_method_6_code
abbrev y_M_make : MethodName := ⟨"ZoneHeapModel", "make", "(I)I"⟩
theorem kc_M_make : Cond.code y_M_make c_M_make 3 (some .int) ∈ zB := zkm 506 (by decide +kernel) rfl
def w_M_make : List Cond := Cond.code y_M_make c_M_make 3 (some .int) :: zB
abbrev c_M_room : ByteArray := prog_4_method_5_code
abbrev y_M_room : MethodName := ⟨"ZoneHeapModel", "room", "(I)I"⟩
theorem kc_M_room : Cond.code y_M_room c_M_room 5 (some .int) ∈ zB := zkm 510 (by decide +kernel) rfl
def w_M_room : List Cond := Cond.code y_M_room c_M_room 5 (some .int) :: zB
abbrev c_M_taken : ByteArray := prog_4_method_4_code
abbrev y_M_taken : MethodName := ⟨"ZoneHeapModel", "taken", "(I)I"⟩
theorem kc_M_taken : Cond.code y_M_taken c_M_taken 1 (some .int) ∈ zB := zkm 513 (by decide +kernel) rfl
def w_M_taken : List Cond := Cond.code y_M_taken c_M_taken 1 (some .int) :: zB
abbrev c_M_back : ByteArray := prog_4_method_11_code
abbrev y_M_back : MethodName := ⟨"ZoneHeapModel", "back", "(I)I"⟩
theorem kc_M_back : Cond.code y_M_back c_M_back 4 (some .int) ∈ zB := zkm 517 (by decide +kernel) rfl
def w_M_back : List Cond := Cond.code y_M_back c_M_back 4 (some .int) :: zB
abbrev c_M_at : ByteArray := prog_4_method_7_code
abbrev y_M_at : MethodName := ⟨"ZoneHeapModel", "at", "(II)I"⟩
theorem kc_M_at : Cond.code y_M_at c_M_at 4 (some .int) ∈ zB := zkm 521 (by decide +kernel) rfl
def w_M_at : List Cond := Cond.code y_M_at c_M_at 4 (some .int) :: zB
abbrev c_M_give : ByteArray := prog_4_method_9_code
abbrev y_M_give : MethodName := ⟨"ZoneHeapModel", "give", "(I)V"⟩
theorem kc_M_give : Cond.code y_M_give c_M_give 4 none ∈ zB := zkm 525 (by decide +kernel) rfl
def w_M_give : List Cond := Cond.code y_M_give c_M_give 4 none :: zB
abbrev c_M_kept : ByteArray := prog_4_method_8_code
abbrev y_M_kept : MethodName := ⟨"ZoneHeapModel", "kept", "()I"⟩
theorem kc_M_kept : Cond.code y_M_kept c_M_kept 3 (some .int) ∈ zB := zkm 529 (by decide +kernel) rfl
def w_M_kept : List Cond := Cond.code y_M_kept c_M_kept 3 (some .int) :: zB
abbrev c_M_again : ByteArray := prog_4_method_12_code
abbrev y_M_again : MethodName := ⟨"ZoneHeapModel", "again", "(II)I"⟩
theorem kc_M_again : Cond.code y_M_again c_M_again 6 (some .int) ∈ zB := zkm 533 (by decide +kernel) rfl
def w_M_again : List Cond := Cond.code y_M_again c_M_again 6 (some .int) :: zB
abbrev c_M_kind : ByteArray := prog_4_method_14_code
abbrev y_M_kind : MethodName := ⟨"ZoneHeapModel", "kind", "(I)I"⟩
theorem kc_M_kind : Cond.code y_M_kind c_M_kind 3 (some .int) ∈ zB := zkm 537 (by decide +kernel) rfl
def w_M_kind : List Cond := Cond.code y_M_kind c_M_kind 3 (some .int) :: zB
abbrev c_M_of : ByteArray := prog_4_method_13_code
abbrev y_M_of : MethodName := ⟨"ZoneHeapModel", "of", "(II)I"⟩
theorem kc_M_of : Cond.code y_M_of c_M_of 4 (some .int) ∈ zB := zkm 541 (by decide +kernel) rfl
def w_M_of : List Cond := Cond.code y_M_of c_M_of 4 (some .int) :: zB
abbrev c_M_block : ByteArray := prog_4_method_15_code
abbrev y_M_block : MethodName := ⟨"ZoneHeapModel", "block", "(I)I"⟩
theorem kc_M_block : Cond.code y_M_block c_M_block 3 (some .int) ∈ zB := zkm 545 (by decide +kernel) rfl
def w_M_block : List Cond := Cond.code y_M_block c_M_block 3 (some .int) :: zB
abbrev c_M_write : ByteArray := prog_4_method_18_code
abbrev y_M_write : MethodName := ⟨"ZoneHeapModel", "write", "(II)V"⟩
theorem kc_M_write : Cond.code y_M_write c_M_write 4 none ∈ zB := zkm 549 (by decide +kernel) rfl
def w_M_write : List Cond := Cond.code y_M_write c_M_write 4 none :: zB
abbrev c_M_bad : ByteArray := prog_4_method_16_code
abbrev y_M_bad : MethodName := ⟨"ZoneHeapModel", "bad", "(I)Z"⟩
theorem kc_M_bad : Cond.code y_M_bad c_M_bad 3 (some .boolean) ∈ zB := zkm 553 (by decide +kernel) rfl
def w_M_bad : List Cond := Cond.code y_M_bad c_M_bad 3 (some .boolean) :: zB
abbrev c_M_read : ByteArray := prog_4_method_19_code
abbrev y_M_read : MethodName := ⟨"ZoneHeapModel", "read", "(I)I"⟩
theorem kc_M_read : Cond.code y_M_read c_M_read 2 (some .int) ∈ zB := zkm 557 (by decide +kernel) rfl
def w_M_read : List Cond := Cond.code y_M_read c_M_read 2 (some .int) :: zB
abbrev c_M_word : ByteArray := prog_4_method_17_code
abbrev y_M_word : MethodName := ⟨"ZoneHeapModel", "word", "(I)I"⟩
theorem kc_M_word : Cond.code y_M_word c_M_word 2 (some .int) ∈ zB := zkm 561 (by decide +kernel) rfl
def w_M_word : List Cond := Cond.code y_M_word c_M_word 2 (some .int) :: zB
abbrev c_M_lost : ByteArray := prog_4_method_22_code
abbrev y_M_lost : MethodName := ⟨"ZoneHeapModel", "lost", "(II)I"⟩
theorem kc_M_lost : Cond.code y_M_lost c_M_lost 6 (some .int) ∈ zB := zkm 565 (by decide +kernel) rfl
def w_M_lost : List Cond := Cond.code y_M_lost c_M_lost 6 (some .int) :: zB
abbrev c_M_touch : ByteArray := prog_4_method_21_code
abbrev y_M_touch : MethodName := ⟨"ZoneHeapModel", "touch", "(I)Z"⟩
theorem kc_M_touch : Cond.code y_M_touch c_M_touch 3 (some .boolean) ∈ zB := zkm 569 (by decide +kernel) rfl
def w_M_touch : List Cond := Cond.code y_M_touch c_M_touch 3 (some .boolean) :: zB
abbrev c_M_leads : ByteArray := prog_4_method_20_code
abbrev y_M_leads : MethodName := ⟨"ZoneHeapModel", "leads", "(I)I"⟩
theorem kc_M_leads : Cond.code y_M_leads c_M_leads 3 (some .int) ∈ zB := zkm 573 (by decide +kernel) rfl
def w_M_leads : List Cond := Cond.code y_M_leads c_M_leads 3 (some .int) :: zB
abbrev c_M_lostAt : ByteArray := prog_4_method_23_code
abbrev y_M_lostAt : MethodName := ⟨"ZoneHeapModel", "lostAt", "(I)I"⟩
theorem kc_M_lostAt : Cond.code y_M_lostAt c_M_lostAt 2 (some .int) ∈ zB := zkm 577 (by decide +kernel) rfl
def w_M_lostAt : List Cond := Cond.code y_M_lostAt c_M_lostAt 2 (some .int) :: zB
abbrev c_M_count : ByteArray := prog_4_method_24_code
abbrev y_M_count : MethodName := ⟨"ZoneHeapModel", "count", "(I)I"⟩
theorem kc_M_count : Cond.code y_M_count c_M_count 5 (some .int) ∈ zB := zkm 581 (by decide +kernel) rfl
def w_M_count : List Cond := Cond.code y_M_count c_M_count 5 (some .int) :: zB
abbrev c_L_law : ByteArray := code
abbrev y_L_law : MethodName := ⟨"ZoneHeapLaw", "law", "([I)Z"⟩
theorem zk0 : (Jvm.Cond.initialized "ZoneHeapLaw") ∈ zB := zkm 0 (by decide +kernel) rfl
theorem zk1 : (Jvm.Cond.initialized "ZoneHeap") ∈ zB := zkm 1 (by decide +kernel) rfl
theorem zk2 : (Jvm.Cond.initialized "java/util/AbstractCollection") ∈ zB := zkm 2 (by decide +kernel) rfl
theorem zk3 : (Jvm.Cond.initialized "java/util/AbstractList") ∈ zB := zkm 3 (by decide +kernel) rfl
theorem zk4 : (Jvm.Cond.initialized "java/util/ArrayList") ∈ zB := zkm 4 (by decide +kernel) rfl
theorem zk5 : (Jvm.Cond.initialized "ZoneHeapModel") ∈ zB := zkm 5 (by decide +kernel) rfl
theorem zk6 : (Jvm.Cond.initialized "java/lang/Throwable") ∈ zB := zkm 6 (by decide +kernel) rfl
theorem zk7 : (Jvm.Cond.initialized "java/lang/Exception") ∈ zB := zkm 7 (by decide +kernel) rfl
theorem zk8 : (Jvm.Cond.initialized "java/lang/RuntimeException") ∈ zB := zkm 8 (by decide +kernel) rfl
theorem zk9 : (Jvm.Cond.initialized "java/lang/IllegalArgumentException") ∈ zB := zkm 9 (by decide +kernel) rfl
theorem zk10 : (Jvm.Cond.initialized "java/lang/Math") ∈ zB := zkm 10 (by decide +kernel) rfl
theorem zk11 : (Jvm.Cond.initialized "ZoneHeap$Block") ∈ zB := zkm 11 (by decide +kernel) rfl
theorem zk12 : (Jvm.Cond.initialized "java/lang/IllegalStateException") ∈ zB := zkm 12 (by decide +kernel) rfl
theorem zk13 : (Jvm.Cond.initialized "jdk/internal/util/ArraysSupport") ∈ zB := zkm 13 (by decide +kernel) rfl
theorem zk14 : (Jvm.Cond.initialized "java/util/Arrays") ∈ zB := zkm 14 (by decide +kernel) rfl
theorem zk15 : (Jvm.Cond.initialized "java/lang/System") ∈ zB := zkm 15 (by decide +kernel) rfl
theorem zk16 : (Jvm.Cond.initialized "java/util/Objects") ∈ zB := zkm 16 (by decide +kernel) rfl
theorem zk17 : (Jvm.Cond.initialized "jdk/internal/util/Preconditions") ∈ zB := zkm 17 (by decide +kernel) rfl
theorem zk18 : (Jvm.Cond.initialized "java/lang/IndexOutOfBoundsException") ∈ zB := zkm 18 (by decide +kernel) rfl
theorem zk19 : (Jvm.Cond.classLink "ZoneHeapLaw" (8 : Nat) "ZoneHeap") ∈ zB := zkm 19 (by decide +kernel) rfl
theorem zk20 : (Jvm.Cond.instantiable "ZoneHeap" (11 : Nat)) ∈ zB := zkm 20 (by decide +kernel) rfl
theorem zk21 : (Jvm.Cond.methodLink "ZoneHeapLaw" (45 : Nat) ({ cls := "ZoneHeap", name := "<init>", desc := "()V" } : Jvm.MethodName)) ∈ zB := zkm 21 (by decide +kernel) rfl
theorem zk22 : (Jvm.Cond.instanceMethod ({ cls := "ZoneHeap", name := "<init>", desc := "()V" } : Jvm.MethodName)) ∈ zB := zkm 22 (by decide +kernel) rfl
theorem zk24 : (Jvm.Cond.methodLink "ZoneHeap" (3 : Nat) ({ cls := "java/lang/Object", name := "<init>", desc := "()V" } : Jvm.MethodName)) ∈ zB := zkm 24 (by decide +kernel) rfl
theorem zk25 : (Jvm.Cond.instanceMethod ({ cls := "java/lang/Object", name := "<init>", desc := "()V" } : Jvm.MethodName)) ∈ zB := zkm 25 (by decide +kernel) rfl
theorem zk27 : (Jvm.Cond.classLink "ZoneHeap" (13 : Nat) "ZoneHeap$Block") ∈ zB := zkm 27 (by decide +kernel) rfl
theorem zk29 : (Jvm.Cond.classLink "ZoneHeap" (19 : Nat) "java/util/ArrayList") ∈ zB := zkm 29 (by decide +kernel) rfl
theorem zk30 : (Jvm.Cond.instantiable "java/util/ArrayList" (3 : Nat)) ∈ zB := zkm 30 (by decide +kernel) rfl
theorem zk31 : (Jvm.Cond.methodLink "ZoneHeap" (21 : Nat) ({ cls := "java/util/ArrayList", name := "<init>", desc := "()V" } : Jvm.MethodName)) ∈ zB := zkm 31 (by decide +kernel) rfl
theorem zk32 : (Jvm.Cond.instanceMethod ({ cls := "java/util/ArrayList", name := "<init>", desc := "()V" } : Jvm.MethodName)) ∈ zB := zkm 32 (by decide +kernel) rfl
theorem zk34 : (Jvm.Cond.methodLink "java/util/ArrayList" (1 : Nat) ({ cls := "java/util/AbstractList", name := "<init>", desc := "()V" } : Jvm.MethodName)) ∈ zB := zkm 34 (by decide +kernel) rfl
theorem zk35 : (Jvm.Cond.instanceMethod ({ cls := "java/util/AbstractList", name := "<init>", desc := "()V" } : Jvm.MethodName)) ∈ zB := zkm 35 (by decide +kernel) rfl
theorem zk37 : (Jvm.Cond.methodLink "java/util/AbstractList" (1 : Nat) ({ cls := "java/util/AbstractCollection", name := "<init>", desc := "()V" } : Jvm.MethodName)) ∈ zB := zkm 37 (by decide +kernel) rfl
theorem zk38 : (Jvm.Cond.instanceMethod ({ cls := "java/util/AbstractCollection", name := "<init>", desc := "()V" } : Jvm.MethodName)) ∈ zB := zkm 38 (by decide +kernel) rfl
theorem zk40 : (Jvm.Cond.methodLink "java/util/AbstractCollection" (1 : Nat) ({ cls := "java/lang/Object", name := "<init>", desc := "()V" } : Jvm.MethodName)) ∈ zB := zkm 40 (by decide +kernel) rfl
theorem zk41 : (Jvm.Cond.fieldLink "java/util/ArrayList" (39 : Nat) "java/util/ArrayList" "DEFAULTCAPACITY_EMPTY_ELEMENTDATA" "[Ljava/lang/Object;") ∈ zB := zkm 41 (by decide +kernel) rfl
theorem zk43 : (Jvm.Cond.fieldLink "java/util/ArrayList" (9 : Nat) "java/util/ArrayList" "elementData" "[Ljava/lang/Object;") ∈ zB := zkm 43 (by decide +kernel) rfl
theorem zk44 : (Jvm.Cond.fieldLink "java/util/ArrayList" (48 : Nat) "java/util/ArrayList" "size" "I") ∈ zB := zkm 44 (by decide +kernel) rfl
theorem zk45 : (Jvm.Cond.fieldLink "java/util/AbstractList" (7 : Nat) "java/util/AbstractList" "modCount" "I") ∈ zB := zkm 45 (by decide +kernel) rfl
theorem zk46 : (Jvm.Cond.fieldLink "java/util/ArrayList" (63 : Nat) "java/util/ArrayList" "modCount" "I") ∈ zB := zkm 46 (by decide +kernel) rfl
theorem zk47 : (Jvm.Cond.sameField "java/util/ArrayList" "java/util/AbstractList" "modCount" "I") ∈ zB := zkm 47 (by decide +kernel) rfl
theorem zk55 : (Jvm.Cond.arrayClass Jvm.ClassFile.FieldType.byte) ∈ zB := zkm 55 (by decide +kernel) rfl
theorem zk56 : (Jvm.Cond.fieldLink "ZoneHeap" (9 : Nat) "ZoneHeap" "octets" "[B") ∈ zB := zkm 56 (by decide +kernel) rfl
theorem zk57 : (Jvm.Cond.fieldLink "ZoneHeap" (15 : Nat) "ZoneHeap" "takers" "[LZoneHeap$Block;") ∈ zB := zkm 57 (by decide +kernel) rfl
theorem zk58 : (Jvm.Cond.fieldLink "ZoneHeap" (22 : Nat) "ZoneHeap" "keptBlocks" "Ljava/util/ArrayList;") ∈ zB := zkm 58 (by decide +kernel) rfl
theorem zk59 : (Jvm.Cond.fieldLink "ZoneHeap" (26 : Nat) "ZoneHeap" "keptOctets" "I") ∈ zB := zkm 59 (by decide +kernel) rfl
theorem zk60 : (Jvm.Cond.fieldLink "ZoneHeap" (30 : Nat) "ZoneHeap" "liveBlocks" "I") ∈ zB := zkm 60 (by decide +kernel) rfl
theorem zk61 : (Jvm.Cond.fieldLink "ZoneHeap" (33 : Nat) "ZoneHeap" "liveOctets" "I") ∈ zB := zkm 61 (by decide +kernel) rfl
theorem zk62 : (Jvm.Cond.fieldLink "ZoneHeap" (36 : Nat) "ZoneHeap" "madeBlocks" "I") ∈ zB := zkm 62 (by decide +kernel) rfl
theorem zk63 : (Jvm.Cond.fieldLink "ZoneHeap" (39 : Nat) "ZoneHeap" "reachedBlocks" "[LZoneHeap$Block;") ∈ zB := zkm 63 (by decide +kernel) rfl
theorem zk64 : (Jvm.Cond.fieldLink "ZoneHeap" (42 : Nat) "ZoneHeap" "reachedCount" "I") ∈ zB := zkm 64 (by decide +kernel) rfl
theorem zk65 : (Jvm.Cond.fieldLink "ZoneHeap" (45 : Nat) "ZoneHeap" "lostStarts" "[I") ∈ zB := zkm 65 (by decide +kernel) rfl
theorem zk66 : (Jvm.Cond.fieldLink "ZoneHeap" (49 : Nat) "ZoneHeap" "lostCount" "I") ∈ zB := zkm 66 (by decide +kernel) rfl
theorem zk90 : (Jvm.Cond.arrayClass Jvm.ClassFile.FieldType.int) ∈ zB := zkm 90 (by decide +kernel) rfl
theorem zk91 : (Jvm.Cond.methodLink "ZoneHeapLaw" (79 : Nat) ({ cls := "ZoneHeap", name := "lost", desc := "(II)I" } : Jvm.MethodName)) ∈ zB := zkm 91 (by decide +kernel) rfl
theorem zk92 : (Jvm.Cond.instanceMethod ({ cls := "ZoneHeap", name := "lost", desc := "(II)I" } : Jvm.MethodName)) ∈ zB := zkm 92 (by decide +kernel) rfl
theorem zk93 : (Jvm.Cond.selects "ZoneHeap" ({ cls := "ZoneHeap", name := "lost", desc := "(II)I" } : Jvm.MethodName) ({ cls := "ZoneHeap", name := "lost", desc := "(II)I" } : Jvm.MethodName)) ∈ zB := zkm 93 (by decide +kernel) rfl
theorem zk95 : (Jvm.Cond.methodLink "ZoneHeap" (109 : Nat) ({ cls := "ZoneHeap", name := "forgetReached", desc := "()V" } : Jvm.MethodName)) ∈ zB := zkm 95 (by decide +kernel) rfl
theorem zk97 : (Jvm.Cond.instanceMethod ({ cls := "ZoneHeap", name := "forgetReached", desc := "()V" } : Jvm.MethodName)) ∈ zB := zkm 97 (by decide +kernel) rfl
theorem zk99 : (Jvm.Cond.methodLink "ZoneHeap" (112 : Nat) ({ cls := "ZoneHeap", name := "reach", desc := "(I)V" } : Jvm.MethodName)) ∈ zB := zkm 99 (by decide +kernel) rfl
theorem zk101 : (Jvm.Cond.instanceMethod ({ cls := "ZoneHeap", name := "reach", desc := "(I)V" } : Jvm.MethodName)) ∈ zB := zkm 101 (by decide +kernel) rfl
theorem zk103 : (Jvm.Cond.methodLink "ZoneHeap" (191 : Nat) ({ cls := "ZoneHeap", name := "ledToBy", desc := "(I)LZoneHeap$Block;" } : Jvm.MethodName)) ∈ zB := zkm 103 (by decide +kernel) rfl
theorem zk105 : (Jvm.Cond.instanceMethod ({ cls := "ZoneHeap", name := "ledToBy", desc := "(I)LZoneHeap$Block;" } : Jvm.MethodName)) ∈ zB := zkm 105 (by decide +kernel) rfl
theorem zk107 : (Jvm.Cond.methodLink "ZoneHeap" (150 : Nat) ({ cls := "ZoneHeap", name := "standingAt", desc := "(I)LZoneHeap$Block;" } : Jvm.MethodName)) ∈ zB := zkm 107 (by decide +kernel) rfl
theorem zk109 : (Jvm.Cond.instanceMethod ({ cls := "ZoneHeap", name := "standingAt", desc := "(I)LZoneHeap$Block;" } : Jvm.MethodName)) ∈ zB := zkm 109 (by decide +kernel) rfl
theorem zk111 : (Jvm.Cond.methodLink "ZoneHeap" (138 : Nat) ({ cls := "ZoneHeap", name := "isOctet", desc := "(I)Z" } : Jvm.MethodName)) ∈ zB := zkm 111 (by decide +kernel) rfl
theorem zk112 : (Jvm.Cond.static ({ cls := "ZoneHeap", name := "isOctet", desc := "(I)Z" } : Jvm.MethodName)) ∈ zB := zkm 112 (by decide +kernel) rfl
theorem zk114 : (Jvm.Cond.methodLink "ZoneHeap" (99 : Nat) ({ cls := "ZoneHeap", name := "liveHaving", desc := "(I)LZoneHeap$Block;" } : Jvm.MethodName)) ∈ zB := zkm 114 (by decide +kernel) rfl
theorem zk116 : (Jvm.Cond.instanceMethod ({ cls := "ZoneHeap", name := "liveHaving", desc := "(I)LZoneHeap$Block;" } : Jvm.MethodName)) ∈ zB := zkm 116 (by decide +kernel) rfl
theorem zk120 : (Jvm.Cond.instanceMethod ({ cls := "ZoneHeap$Block", name := "has", desc := "(I)Z" } : Jvm.MethodName)) ∈ zB := zkm 120 (by decide +kernel) rfl
theorem zk121 : (Jvm.Cond.instantiable "ZoneHeap$Block" (4 : Nat)) ∈ zB := zkm 121 (by decide +kernel) rfl
theorem zk123 : (Jvm.Cond.methodLink "ZoneHeap" (115 : Nat) ({ cls := "ZoneHeap", name := "reachFromWordsOf", desc := "(LZoneHeap$Block;)V" } : Jvm.MethodName)) ∈ zB := zkm 123 (by decide +kernel) rfl
theorem zk125 : (Jvm.Cond.instanceMethod ({ cls := "ZoneHeap", name := "reachFromWordsOf", desc := "(LZoneHeap$Block;)V" } : Jvm.MethodName)) ∈ zB := zkm 125 (by decide +kernel) rfl
theorem zk127 : (Jvm.Cond.methodLink "ZoneHeap" (105 : Nat) ({ cls := "ZoneHeap", name := "wordAt", desc := "(I)I" } : Jvm.MethodName)) ∈ zB := zkm 127 (by decide +kernel) rfl
theorem zk129 : (Jvm.Cond.instanceMethod ({ cls := "ZoneHeap", name := "wordAt", desc := "(I)I" } : Jvm.MethodName)) ∈ zB := zkm 129 (by decide +kernel) rfl
theorem zk131 : (Jvm.Cond.methodLink "ZoneHeap" (118 : Nat) ({ cls := "ZoneHeap", name := "noteLost", desc := "()V" } : Jvm.MethodName)) ∈ zB := zkm 131 (by decide +kernel) rfl
theorem zk133 : (Jvm.Cond.instanceMethod ({ cls := "ZoneHeap", name := "noteLost", desc := "()V" } : Jvm.MethodName)) ∈ zB := zkm 133 (by decide +kernel) rfl
theorem zk135 : (Jvm.Cond.methodLink "ZoneHeapLaw" (49 : Nat) ({ cls := "ZoneHeapLaw", name := "get", desc := "(LZoneHeap;I[J)I" } : Jvm.MethodName)) ∈ zB := zkm 135 (by decide +kernel) rfl
theorem zk136 : (Jvm.Cond.static ({ cls := "ZoneHeapLaw", name := "get", desc := "(LZoneHeap;I[J)I" } : Jvm.MethodName)) ∈ zB := zkm 136 (by decide +kernel) rfl
theorem zk138 : (Jvm.Cond.classLink "ZoneHeapLaw" (13 : Nat) "java/lang/IllegalArgumentException") ∈ zB := zkm 138 (by decide +kernel) rfl
theorem zk139 : (Jvm.Cond.methodLink "ZoneHeapLaw" (7 : Nat) ({ cls := "ZoneHeap", name := "get", desc := "(I)I" } : Jvm.MethodName)) ∈ zB := zkm 139 (by decide +kernel) rfl
theorem zk140 : (Jvm.Cond.instanceMethod ({ cls := "ZoneHeap", name := "get", desc := "(I)I" } : Jvm.MethodName)) ∈ zB := zkm 140 (by decide +kernel) rfl
theorem zk141 : (Jvm.Cond.selects "ZoneHeap" ({ cls := "ZoneHeap", name := "get", desc := "(I)I" } : Jvm.MethodName) ({ cls := "ZoneHeap", name := "get", desc := "(I)I" } : Jvm.MethodName)) ∈ zB := zkm 141 (by decide +kernel) rfl
theorem zk143 : (Jvm.Cond.methodLink "ZoneHeap" (52 : Nat) ({ cls := "ZoneHeap", name := "refuseWrongSize", desc := "(I)V" } : Jvm.MethodName)) ∈ zB := zkm 143 (by decide +kernel) rfl
theorem zk144 : (Jvm.Cond.static ({ cls := "ZoneHeap", name := "refuseWrongSize", desc := "(I)V" } : Jvm.MethodName)) ∈ zB := zkm 144 (by decide +kernel) rfl
theorem zk146 : (Jvm.Cond.classLink "ZoneHeap" (131 : Nat) "java/lang/IllegalArgumentException") ∈ zB := zkm 146 (by decide +kernel) rfl
theorem zk147 : (Jvm.Cond.instantiable "java/lang/IllegalArgumentException" (6 : Nat)) ∈ zB := zkm 147 (by decide +kernel) rfl
theorem zk155 : (Jvm.Cond.selects "java/lang/IllegalArgumentException" ({ cls := "java/lang/Throwable", name := "fillInStackTrace", desc := "(I)Ljava/lang/Throwable;" } : Jvm.MethodName) ({ cls := "java/lang/Throwable", name := "fillInStackTrace", desc := "(I)Ljava/lang/Throwable;" } : Jvm.MethodName)) ∈ zB := zkm 155 (by decide +kernel) rfl
theorem zk156 : (Jvm.Cond.selects "java/lang/IllegalArgumentException" ({ cls := "java/lang/Throwable", name := "fillInStackTrace", desc := "()Ljava/lang/Throwable;" } : Jvm.MethodName) ({ cls := "java/lang/Throwable", name := "fillInStackTrace", desc := "()Ljava/lang/Throwable;" } : Jvm.MethodName)) ∈ zB := zkm 156 (by decide +kernel) rfl
theorem zk167 : (Jvm.Cond.fieldLink "java/lang/Throwable" (198 : Nat) "java/lang/Throwable" "backtrace" "Ljava/lang/Object;") ∈ zB := zkm 167 (by decide +kernel) rfl
theorem zk169 : (Jvm.Cond.instanceMethod ({ cls := "java/lang/Throwable", name := "<init>", desc := "()V" } : Jvm.MethodName)) ∈ zB := zkm 169 (by decide +kernel) rfl
theorem zk171 : (Jvm.Cond.methodLink "java/lang/Throwable" (1 : Nat) ({ cls := "java/lang/Object", name := "<init>", desc := "()V" } : Jvm.MethodName)) ∈ zB := zkm 171 (by decide +kernel) rfl
theorem zk172 : (Jvm.Cond.fieldLink "java/lang/Throwable" (13 : Nat) "java/lang/Throwable" "UNASSIGNED_STACK" "[Ljava/lang/StackTraceElement;") ∈ zB := zkm 172 (by decide +kernel) rfl
theorem zk174 : (Jvm.Cond.fieldLink "java/lang/Throwable" (20 : Nat) "java/lang/Throwable" "SUPPRESSED_SENTINEL" "Ljava/util/List;") ∈ zB := zkm 174 (by decide +kernel) rfl
theorem zk176 : (Jvm.Cond.methodLink "java/lang/Throwable" (27 : Nat) ({ cls := "java/lang/Throwable", name := "fillInStackTrace", desc := "()Ljava/lang/Throwable;" } : Jvm.MethodName)) ∈ zB := zkm 176 (by decide +kernel) rfl
theorem zk177 : (Jvm.Cond.instanceMethod ({ cls := "java/lang/Throwable", name := "fillInStackTrace", desc := "()Ljava/lang/Throwable;" } : Jvm.MethodName)) ∈ zB := zkm 177 (by decide +kernel) rfl
theorem zk178 : (Jvm.Cond.sameMethod "java/lang/Throwable" "java/lang/Throwable" "fillInStackTrace" "()Ljava/lang/Throwable;") ∈ zB := zkm 178 (by decide +kernel) rfl
theorem zk179 : (Jvm.Cond.selects "java/lang/IllegalStateException" ({ cls := "java/lang/Throwable", name := "fillInStackTrace", desc := "()Ljava/lang/Throwable;" } : Jvm.MethodName) ({ cls := "java/lang/Throwable", name := "fillInStackTrace", desc := "()Ljava/lang/Throwable;" } : Jvm.MethodName)) ∈ zB := zkm 179 (by decide +kernel) rfl
theorem zk180 : (Jvm.Cond.selects "java/lang/IndexOutOfBoundsException" ({ cls := "java/lang/Throwable", name := "fillInStackTrace", desc := "()Ljava/lang/Throwable;" } : Jvm.MethodName) ({ cls := "java/lang/Throwable", name := "fillInStackTrace", desc := "()Ljava/lang/Throwable;" } : Jvm.MethodName)) ∈ zB := zkm 180 (by decide +kernel) rfl
theorem zk182 : (Jvm.Cond.methodLink "java/lang/Throwable" (202 : Nat) ({ cls := "java/lang/Throwable", name := "fillInStackTrace", desc := "(I)Ljava/lang/Throwable;" } : Jvm.MethodName)) ∈ zB := zkm 182 (by decide +kernel) rfl
theorem zk184 : (Jvm.Cond.instanceMethod ({ cls := "java/lang/Throwable", name := "fillInStackTrace", desc := "(I)Ljava/lang/Throwable;" } : Jvm.MethodName)) ∈ zB := zkm 184 (by decide +kernel) rfl
theorem zk185 : (Jvm.Cond.instantiable "java/lang/Throwable" (6 : Nat)) ∈ zB := zkm 185 (by decide +kernel) rfl
theorem zk186 : (Jvm.Cond.native ({ cls := "java/lang/Throwable", name := "fillInStackTrace", desc := "(I)Ljava/lang/Throwable;" } : Jvm.MethodName)) ∈ zB := zkm 186 (by decide +kernel) rfl
theorem zk188 : (Jvm.Cond.methodLink "ZoneHeap" (135 : Nat) ({ cls := "java/lang/IllegalArgumentException", name := "<init>", desc := "(Ljava/lang/String;)V" } : Jvm.MethodName)) ∈ zB := zkm 188 (by decide +kernel) rfl
theorem zk189 : (Jvm.Cond.instanceMethod ({ cls := "java/lang/IllegalArgumentException", name := "<init>", desc := "(Ljava/lang/String;)V" } : Jvm.MethodName)) ∈ zB := zkm 189 (by decide +kernel) rfl
theorem zk191 : (Jvm.Cond.methodLink "java/lang/IllegalArgumentException" (7 : Nat) ({ cls := "java/lang/RuntimeException", name := "<init>", desc := "(Ljava/lang/String;)V" } : Jvm.MethodName)) ∈ zB := zkm 191 (by decide +kernel) rfl
theorem zk192 : (Jvm.Cond.instanceMethod ({ cls := "java/lang/RuntimeException", name := "<init>", desc := "(Ljava/lang/String;)V" } : Jvm.MethodName)) ∈ zB := zkm 192 (by decide +kernel) rfl
theorem zk194 : (Jvm.Cond.methodLink "java/lang/RuntimeException" (7 : Nat) ({ cls := "java/lang/Exception", name := "<init>", desc := "(Ljava/lang/String;)V" } : Jvm.MethodName)) ∈ zB := zkm 194 (by decide +kernel) rfl
theorem zk195 : (Jvm.Cond.instanceMethod ({ cls := "java/lang/Exception", name := "<init>", desc := "(Ljava/lang/String;)V" } : Jvm.MethodName)) ∈ zB := zkm 195 (by decide +kernel) rfl
theorem zk197 : (Jvm.Cond.methodLink "java/lang/Exception" (7 : Nat) ({ cls := "java/lang/Throwable", name := "<init>", desc := "(Ljava/lang/String;)V" } : Jvm.MethodName)) ∈ zB := zkm 197 (by decide +kernel) rfl
theorem zk198 : (Jvm.Cond.instanceMethod ({ cls := "java/lang/Throwable", name := "<init>", desc := "(Ljava/lang/String;)V" } : Jvm.MethodName)) ∈ zB := zkm 198 (by decide +kernel) rfl
theorem zk200 : (Jvm.Cond.fieldLink "java/lang/Throwable" (198 : Nat) "java/lang/Throwable" "backtrace" "Ljava/lang/Object;") ∈ zB := zkm 200 (by decide +kernel) rfl
theorem zk201 : (Jvm.Cond.fieldLink "java/lang/Throwable" (31 : Nat) "java/lang/Throwable" "detailMessage" "Ljava/lang/String;") ∈ zB := zkm 201 (by decide +kernel) rfl
theorem zk202 : (Jvm.Cond.fieldLink "java/lang/Throwable" (7 : Nat) "java/lang/Throwable" "cause" "Ljava/lang/Throwable;") ∈ zB := zkm 202 (by decide +kernel) rfl
theorem zk203 : (Jvm.Cond.fieldLink "java/lang/Throwable" (17 : Nat) "java/lang/Throwable" "stackTrace" "[Ljava/lang/StackTraceElement;") ∈ zB := zkm 203 (by decide +kernel) rfl
theorem zk204 : (Jvm.Cond.fieldLink "java/lang/Throwable" (24 : Nat) "java/lang/Throwable" "suppressedExceptions" "Ljava/util/List;") ∈ zB := zkm 204 (by decide +kernel) rfl
theorem zk213 : (Jvm.Cond.methodLink "ZoneHeap" (56 : Nat) ({ cls := "ZoneHeap", name := "make", desc := "(I)LZoneHeap$Block;" } : Jvm.MethodName)) ∈ zB := zkm 213 (by decide +kernel) rfl
theorem zk215 : (Jvm.Cond.instanceMethod ({ cls := "ZoneHeap", name := "make", desc := "(I)LZoneHeap$Block;" } : Jvm.MethodName)) ∈ zB := zkm 215 (by decide +kernel) rfl
theorem zk217 : (Jvm.Cond.methodLink "ZoneHeap" (157 : Nat) ({ cls := "ZoneHeap", name := "cellsFor", desc := "(I)I" } : Jvm.MethodName)) ∈ zB := zkm 217 (by decide +kernel) rfl
theorem zk218 : (Jvm.Cond.static ({ cls := "ZoneHeap", name := "cellsFor", desc := "(I)I" } : Jvm.MethodName)) ∈ zB := zkm 218 (by decide +kernel) rfl
theorem zk220 : (Jvm.Cond.methodLink "ZoneHeap" (170 : Nat) ({ cls := "java/lang/Math", name := "max", desc := "(II)I" } : Jvm.MethodName)) ∈ zB := zkm 220 (by decide +kernel) rfl
theorem zk221 : (Jvm.Cond.static ({ cls := "java/lang/Math", name := "max", desc := "(II)I" } : Jvm.MethodName)) ∈ zB := zkm 221 (by decide +kernel) rfl
theorem zk223 : (Jvm.Cond.methodLink "ZoneHeap" (160 : Nat) ({ cls := "ZoneHeap", name := "firstRoomFor", desc := "(I)I" } : Jvm.MethodName)) ∈ zB := zkm 223 (by decide +kernel) rfl
theorem zk225 : (Jvm.Cond.instanceMethod ({ cls := "ZoneHeap", name := "firstRoomFor", desc := "(I)I" } : Jvm.MethodName)) ∈ zB := zkm 225 (by decide +kernel) rfl
theorem zk228 : (Jvm.Cond.instanceMethod ({ cls := "ZoneHeap$Block", name := "<init>", desc := "(II)V" } : Jvm.MethodName)) ∈ zB := zkm 228 (by decide +kernel) rfl
theorem zk230 : (Jvm.Cond.methodLink "ZoneHeap$Block" (1 : Nat) ({ cls := "java/lang/Object", name := "<init>", desc := "()V" } : Jvm.MethodName)) ∈ zB := zkm 230 (by decide +kernel) rfl
theorem zk231 : (Jvm.Cond.fieldLink "ZoneHeap$Block" (16 : Nat) "ZoneHeap$Block" "start" "I") ∈ zB := zkm 231 (by decide +kernel) rfl
theorem zk233 : (Jvm.Cond.fieldLink "ZoneHeap$Block" (20 : Nat) "ZoneHeap$Block" "size" "I") ∈ zB := zkm 233 (by decide +kernel) rfl
theorem zk235 : (Jvm.Cond.fieldLink "ZoneHeap$Block" (7 : Nat) "ZoneHeap$Block" "kept" "Z") ∈ zB := zkm 235 (by decide +kernel) rfl
theorem zk237 : (Jvm.Cond.fieldLink "ZoneHeap$Block" (13 : Nat) "ZoneHeap$Block" "reached" "Z") ∈ zB := zkm 237 (by decide +kernel) rfl
theorem zk248 : (Jvm.Cond.methodLink "ZoneHeap" (166 : Nat) ({ cls := "ZoneHeap", name := "setTaker", desc := "(LZoneHeap$Block;LZoneHeap$Block;)V" } : Jvm.MethodName)) ∈ zB := zkm 248 (by decide +kernel) rfl
theorem zk250 : (Jvm.Cond.instanceMethod ({ cls := "ZoneHeap", name := "setTaker", desc := "(LZoneHeap$Block;LZoneHeap$Block;)V" } : Jvm.MethodName)) ∈ zB := zkm 250 (by decide +kernel) rfl
theorem zk252 : (Jvm.Cond.methodLink "ZoneHeapLaw" (59 : Nat) ({ cls := "ZoneHeapLaw", name := "back", desc := "(LZoneHeap;I[J)I" } : Jvm.MethodName)) ∈ zB := zkm 252 (by decide +kernel) rfl
theorem zk253 : (Jvm.Cond.static ({ cls := "ZoneHeapLaw", name := "back", desc := "(LZoneHeap;I[J)I" } : Jvm.MethodName)) ∈ zB := zkm 253 (by decide +kernel) rfl
theorem zk255 : (Jvm.Cond.classLink "ZoneHeapLaw" (18 : Nat) "java/lang/IllegalStateException") ∈ zB := zkm 255 (by decide +kernel) rfl
theorem zk256 : (Jvm.Cond.methodLink "ZoneHeapLaw" (15 : Nat) ({ cls := "ZoneHeap", name := "back", desc := "(I)I" } : Jvm.MethodName)) ∈ zB := zkm 256 (by decide +kernel) rfl
theorem zk257 : (Jvm.Cond.instanceMethod ({ cls := "ZoneHeap", name := "back", desc := "(I)I" } : Jvm.MethodName)) ∈ zB := zkm 257 (by decide +kernel) rfl
theorem zk258 : (Jvm.Cond.selects "ZoneHeap" ({ cls := "ZoneHeap", name := "back", desc := "(I)I" } : Jvm.MethodName) ({ cls := "ZoneHeap", name := "back", desc := "(I)I" } : Jvm.MethodName)) ∈ zB := zkm 258 (by decide +kernel) rfl
theorem zk260 : (Jvm.Cond.methodLink "ZoneHeap" (63 : Nat) ({ cls := "ZoneHeap", name := "liveStandingAt", desc := "(I)LZoneHeap$Block;" } : Jvm.MethodName)) ∈ zB := zkm 260 (by decide +kernel) rfl
theorem zk262 : (Jvm.Cond.instanceMethod ({ cls := "ZoneHeap", name := "liveStandingAt", desc := "(I)LZoneHeap$Block;" } : Jvm.MethodName)) ∈ zB := zkm 262 (by decide +kernel) rfl
theorem zk265 : (Jvm.Cond.classLink "ZoneHeap" (145 : Nat) "java/lang/IllegalStateException") ∈ zB := zkm 265 (by decide +kernel) rfl
theorem zk266 : (Jvm.Cond.instantiable "java/lang/IllegalStateException" (6 : Nat)) ∈ zB := zkm 266 (by decide +kernel) rfl
theorem zk268 : (Jvm.Cond.selects "java/lang/IllegalStateException" ({ cls := "java/lang/Throwable", name := "fillInStackTrace", desc := "(I)Ljava/lang/Throwable;" } : Jvm.MethodName) ({ cls := "java/lang/Throwable", name := "fillInStackTrace", desc := "(I)Ljava/lang/Throwable;" } : Jvm.MethodName)) ∈ zB := zkm 268 (by decide +kernel) rfl
theorem zk275 : (Jvm.Cond.methodLink "ZoneHeap" (149 : Nat) ({ cls := "java/lang/IllegalStateException", name := "<init>", desc := "(Ljava/lang/String;)V" } : Jvm.MethodName)) ∈ zB := zkm 275 (by decide +kernel) rfl
theorem zk276 : (Jvm.Cond.instanceMethod ({ cls := "java/lang/IllegalStateException", name := "<init>", desc := "(Ljava/lang/String;)V" } : Jvm.MethodName)) ∈ zB := zkm 276 (by decide +kernel) rfl
theorem zk278 : (Jvm.Cond.methodLink "java/lang/IllegalStateException" (7 : Nat) ({ cls := "java/lang/RuntimeException", name := "<init>", desc := "(Ljava/lang/String;)V" } : Jvm.MethodName)) ∈ zB := zkm 278 (by decide +kernel) rfl
theorem zk281 : (Jvm.Cond.methodLink "ZoneHeap" (66 : Nat) ({ cls := "ZoneHeap", name := "giveBack", desc := "(LZoneHeap$Block;)V" } : Jvm.MethodName)) ∈ zB := zkm 281 (by decide +kernel) rfl
theorem zk283 : (Jvm.Cond.instanceMethod ({ cls := "ZoneHeap", name := "giveBack", desc := "(LZoneHeap$Block;)V" } : Jvm.MethodName)) ∈ zB := zkm 283 (by decide +kernel) rfl
theorem zk285 : (Jvm.Cond.methodLink "ZoneHeap" (173 : Nat) ({ cls := "java/util/ArrayList", name := "add", desc := "(Ljava/lang/Object;)Z" } : Jvm.MethodName)) ∈ zB := zkm 285 (by decide +kernel) rfl
theorem zk286 : (Jvm.Cond.instanceMethod ({ cls := "java/util/ArrayList", name := "add", desc := "(Ljava/lang/Object;)Z" } : Jvm.MethodName)) ∈ zB := zkm 286 (by decide +kernel) rfl
theorem zk287 : (Jvm.Cond.selects "java/util/ArrayList" ({ cls := "java/util/ArrayList", name := "add", desc := "(Ljava/lang/Object;)Z" } : Jvm.MethodName) ({ cls := "java/util/ArrayList", name := "add", desc := "(Ljava/lang/Object;)Z" } : Jvm.MethodName)) ∈ zB := zkm 287 (by decide +kernel) rfl
theorem zk289 : (Jvm.Cond.methodLink "java/util/ArrayList" (131 : Nat) ({ cls := "java/util/ArrayList", name := "add", desc := "(Ljava/lang/Object;[Ljava/lang/Object;I)V" } : Jvm.MethodName)) ∈ zB := zkm 289 (by decide +kernel) rfl
theorem zk291 : (Jvm.Cond.instanceMethod ({ cls := "java/util/ArrayList", name := "add", desc := "(Ljava/lang/Object;[Ljava/lang/Object;I)V" } : Jvm.MethodName)) ∈ zB := zkm 291 (by decide +kernel) rfl
theorem zk293 : (Jvm.Cond.methodLink "java/util/ArrayList" (129 : Nat) ({ cls := "java/util/ArrayList", name := "grow", desc := "()[Ljava/lang/Object;" } : Jvm.MethodName)) ∈ zB := zkm 293 (by decide +kernel) rfl
theorem zk295 : (Jvm.Cond.instanceMethod ({ cls := "java/util/ArrayList", name := "grow", desc := "()[Ljava/lang/Object;" } : Jvm.MethodName)) ∈ zB := zkm 295 (by decide +kernel) rfl
theorem zk297 : (Jvm.Cond.methodLink "java/util/ArrayList" (69 : Nat) ({ cls := "java/util/ArrayList", name := "grow", desc := "(I)[Ljava/lang/Object;" } : Jvm.MethodName)) ∈ zB := zkm 297 (by decide +kernel) rfl
theorem zk299 : (Jvm.Cond.instanceMethod ({ cls := "java/util/ArrayList", name := "grow", desc := "(I)[Ljava/lang/Object;" } : Jvm.MethodName)) ∈ zB := zkm 299 (by decide +kernel) rfl
theorem zk301 : (Jvm.Cond.methodLink "java/util/ArrayList" (73 : Nat) ({ cls := "jdk/internal/util/ArraysSupport", name := "newLength", desc := "(III)I" } : Jvm.MethodName)) ∈ zB := zkm 301 (by decide +kernel) rfl
theorem zk302 : (Jvm.Cond.static ({ cls := "jdk/internal/util/ArraysSupport", name := "newLength", desc := "(III)I" } : Jvm.MethodName)) ∈ zB := zkm 302 (by decide +kernel) rfl
theorem zk304 : (Jvm.Cond.methodLink "jdk/internal/util/ArraysSupport" (194 : Nat) ({ cls := "java/lang/Math", name := "max", desc := "(II)I" } : Jvm.MethodName)) ∈ zB := zkm 304 (by decide +kernel) rfl
theorem zk305 : (Jvm.Cond.constant "jdk/internal/util/ArraysSupport" (200 : Nat) (2147483639 : Int32)) ∈ zB := zkm 305 (by decide +kernel) rfl
theorem zk306 : (Jvm.Cond.methodLink "jdk/internal/util/ArraysSupport" (201 : Nat) ({ cls := "jdk/internal/util/ArraysSupport", name := "hugeLength", desc := "(II)I" } : Jvm.MethodName)) ∈ zB := zkm 306 (by decide +kernel) rfl
theorem zk307 : (Jvm.Cond.static ({ cls := "jdk/internal/util/ArraysSupport", name := "hugeLength", desc := "(II)I" } : Jvm.MethodName)) ∈ zB := zkm 307 (by decide +kernel) rfl
theorem zk309 : (Jvm.Cond.methodLink "java/util/ArrayList" (66 : Nat) ({ cls := "java/util/Arrays", name := "copyOf", desc := "([Ljava/lang/Object;I)[Ljava/lang/Object;" } : Jvm.MethodName)) ∈ zB := zkm 309 (by decide +kernel) rfl
theorem zk310 : (Jvm.Cond.static ({ cls := "java/util/Arrays", name := "copyOf", desc := "([Ljava/lang/Object;I)[Ljava/lang/Object;" } : Jvm.MethodName)) ∈ zB := zkm 310 (by decide +kernel) rfl
theorem zk312 : (Jvm.Cond.methodLink "java/util/Arrays" (86 : Nat) ({ cls := "java/lang/Object", name := "getClass", desc := "()Ljava/lang/Class;" } : Jvm.MethodName)) ∈ zB := zkm 312 (by decide +kernel) rfl
theorem zk313 : (Jvm.Cond.instanceMethod ({ cls := "java/lang/Object", name := "getClass", desc := "()Ljava/lang/Class;" } : Jvm.MethodName)) ∈ zB := zkm 313 (by decide +kernel) rfl
theorem zk314 : (Jvm.Cond.sameMethod "java/lang/Object" "java/lang/Object" "getClass" "()Ljava/lang/Class;") ∈ zB := zkm 314 (by decide +kernel) rfl
theorem zk315 : (Jvm.Cond.selects "ZoneHeap" ({ cls := "java/lang/Object", name := "getClass", desc := "()Ljava/lang/Class;" } : Jvm.MethodName) ({ cls := "java/lang/Object", name := "getClass", desc := "()Ljava/lang/Class;" } : Jvm.MethodName)) ∈ zB := zkm 315 (by decide +kernel) rfl
theorem zk316 : (Jvm.Cond.selects "ZoneHeap$Block" ({ cls := "java/lang/Object", name := "getClass", desc := "()Ljava/lang/Class;" } : Jvm.MethodName) ({ cls := "java/lang/Object", name := "getClass", desc := "()Ljava/lang/Class;" } : Jvm.MethodName)) ∈ zB := zkm 316 (by decide +kernel) rfl
theorem zk317 : (Jvm.Cond.selects "ZoneHeapModel" ({ cls := "java/lang/Object", name := "getClass", desc := "()Ljava/lang/Class;" } : Jvm.MethodName) ({ cls := "java/lang/Object", name := "getClass", desc := "()Ljava/lang/Class;" } : Jvm.MethodName)) ∈ zB := zkm 317 (by decide +kernel) rfl
theorem zk318 : (Jvm.Cond.selects "java/lang/IllegalArgumentException" ({ cls := "java/lang/Object", name := "getClass", desc := "()Ljava/lang/Class;" } : Jvm.MethodName) ({ cls := "java/lang/Object", name := "getClass", desc := "()Ljava/lang/Class;" } : Jvm.MethodName)) ∈ zB := zkm 318 (by decide +kernel) rfl
theorem zk319 : (Jvm.Cond.selects "java/lang/IllegalStateException" ({ cls := "java/lang/Object", name := "getClass", desc := "()Ljava/lang/Class;" } : Jvm.MethodName) ({ cls := "java/lang/Object", name := "getClass", desc := "()Ljava/lang/Class;" } : Jvm.MethodName)) ∈ zB := zkm 319 (by decide +kernel) rfl
theorem zk320 : (Jvm.Cond.selects "java/lang/IndexOutOfBoundsException" ({ cls := "java/lang/Object", name := "getClass", desc := "()Ljava/lang/Class;" } : Jvm.MethodName) ({ cls := "java/lang/Object", name := "getClass", desc := "()Ljava/lang/Class;" } : Jvm.MethodName)) ∈ zB := zkm 320 (by decide +kernel) rfl
theorem zk321 : (Jvm.Cond.selects "java/util/ArrayList" ({ cls := "java/lang/Object", name := "getClass", desc := "()Ljava/lang/Class;" } : Jvm.MethodName) ({ cls := "java/lang/Object", name := "getClass", desc := "()Ljava/lang/Class;" } : Jvm.MethodName)) ∈ zB := zkm 321 (by decide +kernel) rfl
theorem zk322 : (Jvm.Cond.native ({ cls := "java/lang/Object", name := "getClass", desc := "()Ljava/lang/Class;" } : Jvm.MethodName)) ∈ zB := zkm 322 (by decide +kernel) rfl
theorem zk323 : (Jvm.Cond.methodLink "java/util/Arrays" (300 : Nat) ({ cls := "java/util/Arrays", name := "copyOf", desc := "([Ljava/lang/Object;ILjava/lang/Class;)[Ljava/lang/Object;" } : Jvm.MethodName)) ∈ zB := zkm 323 (by decide +kernel) rfl
theorem zk324 : (Jvm.Cond.static ({ cls := "java/util/Arrays", name := "copyOf", desc := "([Ljava/lang/Object;ILjava/lang/Class;)[Ljava/lang/Object;" } : Jvm.MethodName)) ∈ zB := zkm 324 (by decide +kernel) rfl
theorem zk326 : (Jvm.Cond.classLink "java/util/Arrays" (110 : Nat) "[Ljava/lang/Object;") ∈ zB := zkm 326 (by decide +kernel) rfl
theorem zk328 : (Jvm.Cond.classLink "java/util/Arrays" (2 : Nat) "java/lang/Object") ∈ zB := zkm 328 (by decide +kernel) rfl
theorem zk329 : (Jvm.Cond.methodLink "java/util/Arrays" (304 : Nat) ({ cls := "java/lang/Math", name := "min", desc := "(II)I" } : Jvm.MethodName)) ∈ zB := zkm 329 (by decide +kernel) rfl
theorem zk330 : (Jvm.Cond.static ({ cls := "java/lang/Math", name := "min", desc := "(II)I" } : Jvm.MethodName)) ∈ zB := zkm 330 (by decide +kernel) rfl
theorem zk332 : (Jvm.Cond.methodLink "java/util/Arrays" (150 : Nat) ({ cls := "java/lang/System", name := "arraycopy", desc := "(Ljava/lang/Object;ILjava/lang/Object;II)V" } : Jvm.MethodName)) ∈ zB := zkm 332 (by decide +kernel) rfl
theorem zk333 : (Jvm.Cond.static ({ cls := "java/lang/System", name := "arraycopy", desc := "(Ljava/lang/Object;ILjava/lang/Object;II)V" } : Jvm.MethodName)) ∈ zB := zkm 333 (by decide +kernel) rfl
theorem zk334 : (Jvm.Cond.native ({ cls := "java/lang/System", name := "arraycopy", desc := "(Ljava/lang/Object;ILjava/lang/Object;II)V" } : Jvm.MethodName)) ∈ zB := zkm 334 (by decide +kernel) rfl
theorem zk335 : (Jvm.Cond.methodLink "java/util/ArrayList" (79 : Nat) ({ cls := "java/lang/Math", name := "max", desc := "(II)I" } : Jvm.MethodName)) ∈ zB := zkm 335 (by decide +kernel) rfl
theorem zk336 : (Jvm.Cond.classLink "java/util/ArrayList" (7 : Nat) "java/lang/Object") ∈ zB := zkm 336 (by decide +kernel) rfl
theorem zk337 : (Jvm.Cond.methodLink "ZoneHeap" (128 : Nat) ({ cls := "java/util/ArrayList", name := "size", desc := "()I" } : Jvm.MethodName)) ∈ zB := zkm 337 (by decide +kernel) rfl
theorem zk338 : (Jvm.Cond.instanceMethod ({ cls := "java/util/ArrayList", name := "size", desc := "()I" } : Jvm.MethodName)) ∈ zB := zkm 338 (by decide +kernel) rfl
theorem zk339 : (Jvm.Cond.selects "java/util/ArrayList" ({ cls := "java/util/ArrayList", name := "size", desc := "()I" } : Jvm.MethodName) ({ cls := "java/util/ArrayList", name := "size", desc := "()I" } : Jvm.MethodName)) ∈ zB := zkm 339 (by decide +kernel) rfl
theorem zk341 : (Jvm.Cond.methodLink "ZoneHeap" (177 : Nat) ({ cls := "ZoneHeap", name := "dropOldestKept", desc := "()V" } : Jvm.MethodName)) ∈ zB := zkm 341 (by decide +kernel) rfl
theorem zk343 : (Jvm.Cond.instanceMethod ({ cls := "ZoneHeap", name := "dropOldestKept", desc := "()V" } : Jvm.MethodName)) ∈ zB := zkm 343 (by decide +kernel) rfl
theorem zk345 : (Jvm.Cond.methodLink "ZoneHeap" (180 : Nat) ({ cls := "java/util/ArrayList", name := "isEmpty", desc := "()Z" } : Jvm.MethodName)) ∈ zB := zkm 345 (by decide +kernel) rfl
theorem zk346 : (Jvm.Cond.instanceMethod ({ cls := "java/util/ArrayList", name := "isEmpty", desc := "()Z" } : Jvm.MethodName)) ∈ zB := zkm 346 (by decide +kernel) rfl
theorem zk347 : (Jvm.Cond.selects "java/util/ArrayList" ({ cls := "java/util/ArrayList", name := "isEmpty", desc := "()Z" } : Jvm.MethodName) ({ cls := "java/util/ArrayList", name := "isEmpty", desc := "()Z" } : Jvm.MethodName)) ∈ zB := zkm 347 (by decide +kernel) rfl
theorem zk349 : (Jvm.Cond.methodLink "ZoneHeap" (184 : Nat) ({ cls := "java/util/ArrayList", name := "remove", desc := "(I)Ljava/lang/Object;" } : Jvm.MethodName)) ∈ zB := zkm 349 (by decide +kernel) rfl
theorem zk350 : (Jvm.Cond.instanceMethod ({ cls := "java/util/ArrayList", name := "remove", desc := "(I)Ljava/lang/Object;" } : Jvm.MethodName)) ∈ zB := zkm 350 (by decide +kernel) rfl
theorem zk351 : (Jvm.Cond.selects "java/util/ArrayList" ({ cls := "java/util/ArrayList", name := "remove", desc := "(I)Ljava/lang/Object;" } : Jvm.MethodName) ({ cls := "java/util/ArrayList", name := "remove", desc := "(I)Ljava/lang/Object;" } : Jvm.MethodName)) ∈ zB := zkm 351 (by decide +kernel) rfl
theorem zk353 : (Jvm.Cond.methodLink "java/util/ArrayList" (118 : Nat) ({ cls := "java/util/Objects", name := "checkIndex", desc := "(II)I" } : Jvm.MethodName)) ∈ zB := zkm 353 (by decide +kernel) rfl
theorem zk354 : (Jvm.Cond.static ({ cls := "java/util/Objects", name := "checkIndex", desc := "(II)I" } : Jvm.MethodName)) ∈ zB := zkm 354 (by decide +kernel) rfl
theorem zk356 : (Jvm.Cond.methodLink "java/util/Objects" (105 : Nat) ({ cls := "jdk/internal/util/Preconditions", name := "checkIndex", desc := "(IILjava/util/function/BiFunction;)I" } : Jvm.MethodName)) ∈ zB := zkm 356 (by decide +kernel) rfl
theorem zk357 : (Jvm.Cond.static ({ cls := "jdk/internal/util/Preconditions", name := "checkIndex", desc := "(IILjava/util/function/BiFunction;)I" } : Jvm.MethodName)) ∈ zB := zkm 357 (by decide +kernel) rfl
theorem zk359 : (Jvm.Cond.methodLink "java/util/ArrayList" (144 : Nat) ({ cls := "java/util/ArrayList", name := "fastRemove", desc := "([Ljava/lang/Object;I)V" } : Jvm.MethodName)) ∈ zB := zkm 359 (by decide +kernel) rfl
theorem zk361 : (Jvm.Cond.instanceMethod ({ cls := "java/util/ArrayList", name := "fastRemove", desc := "([Ljava/lang/Object;I)V" } : Jvm.MethodName)) ∈ zB := zkm 361 (by decide +kernel) rfl
theorem zk363 : (Jvm.Cond.methodLink "java/util/ArrayList" (112 : Nat) ({ cls := "java/lang/System", name := "arraycopy", desc := "(Ljava/lang/Object;ILjava/lang/Object;II)V" } : Jvm.MethodName)) ∈ zB := zkm 363 (by decide +kernel) rfl
theorem zk364 : (Jvm.Cond.methodLink "ZoneHeapLaw" (62 : Nat) ({ cls := "ZoneHeapLaw", name := "again", desc := "(LZoneHeap;II[J)I" } : Jvm.MethodName)) ∈ zB := zkm 364 (by decide +kernel) rfl
theorem zk365 : (Jvm.Cond.static ({ cls := "ZoneHeapLaw", name := "again", desc := "(LZoneHeap;II[J)I" } : Jvm.MethodName)) ∈ zB := zkm 365 (by decide +kernel) rfl
theorem zk367 : (Jvm.Cond.methodLink "ZoneHeapLaw" (20 : Nat) ({ cls := "ZoneHeap", name := "again", desc := "(II)I" } : Jvm.MethodName)) ∈ zB := zkm 367 (by decide +kernel) rfl
theorem zk368 : (Jvm.Cond.instanceMethod ({ cls := "ZoneHeap", name := "again", desc := "(II)I" } : Jvm.MethodName)) ∈ zB := zkm 368 (by decide +kernel) rfl
theorem zk369 : (Jvm.Cond.selects "ZoneHeap" ({ cls := "ZoneHeap", name := "again", desc := "(II)I" } : Jvm.MethodName) ({ cls := "ZoneHeap", name := "again", desc := "(II)I" } : Jvm.MethodName)) ∈ zB := zkm 369 (by decide +kernel) rfl
theorem zk371 : (Jvm.Cond.methodLink "ZoneHeap" (73 : Nat) ({ cls := "java/lang/Math", name := "min", desc := "(II)I" } : Jvm.MethodName)) ∈ zB := zkm 371 (by decide +kernel) rfl
theorem zk372 : (Jvm.Cond.methodLink "ZoneHeap" (79 : Nat) ({ cls := "java/lang/System", name := "arraycopy", desc := "(Ljava/lang/Object;ILjava/lang/Object;II)V" } : Jvm.MethodName)) ∈ zB := zkm 372 (by decide +kernel) rfl
theorem zk373 : (Jvm.Cond.methodLink "ZoneHeapLaw" (66 : Nat) ({ cls := "ZoneHeapLaw", name := "kind", desc := "(LZoneHeap;I[J)I" } : Jvm.MethodName)) ∈ zB := zkm 373 (by decide +kernel) rfl
theorem zk374 : (Jvm.Cond.static ({ cls := "ZoneHeapLaw", name := "kind", desc := "(LZoneHeap;I[J)I" } : Jvm.MethodName)) ∈ zB := zkm 374 (by decide +kernel) rfl
theorem zk376 : (Jvm.Cond.classLink "ZoneHeapLaw" (27 : Nat) "java/lang/IndexOutOfBoundsException") ∈ zB := zkm 376 (by decide +kernel) rfl
theorem zk377 : (Jvm.Cond.methodLink "ZoneHeapLaw" (24 : Nat) ({ cls := "ZoneHeap", name := "kind", desc := "(I)I" } : Jvm.MethodName)) ∈ zB := zkm 377 (by decide +kernel) rfl
theorem zk378 : (Jvm.Cond.instanceMethod ({ cls := "ZoneHeap", name := "kind", desc := "(I)I" } : Jvm.MethodName)) ∈ zB := zkm 378 (by decide +kernel) rfl
theorem zk379 : (Jvm.Cond.selects "ZoneHeap" ({ cls := "ZoneHeap", name := "kind", desc := "(I)I" } : Jvm.MethodName) ({ cls := "ZoneHeap", name := "kind", desc := "(I)I" } : Jvm.MethodName)) ∈ zB := zkm 379 (by decide +kernel) rfl
theorem zk381 : (Jvm.Cond.methodLink "ZoneHeap" (85 : Nat) ({ cls := "ZoneHeap", name := "refuseWrongOctet", desc := "(I)V" } : Jvm.MethodName)) ∈ zB := zkm 381 (by decide +kernel) rfl
theorem zk382 : (Jvm.Cond.static ({ cls := "ZoneHeap", name := "refuseWrongOctet", desc := "(I)V" } : Jvm.MethodName)) ∈ zB := zkm 382 (by decide +kernel) rfl
theorem zk384 : (Jvm.Cond.classLink "ZoneHeap" (121 : Nat) "java/lang/IndexOutOfBoundsException") ∈ zB := zkm 384 (by decide +kernel) rfl
theorem zk385 : (Jvm.Cond.instantiable "java/lang/IndexOutOfBoundsException" (6 : Nat)) ∈ zB := zkm 385 (by decide +kernel) rfl
theorem zk387 : (Jvm.Cond.selects "java/lang/IndexOutOfBoundsException" ({ cls := "java/lang/Throwable", name := "fillInStackTrace", desc := "(I)Ljava/lang/Throwable;" } : Jvm.MethodName) ({ cls := "java/lang/Throwable", name := "fillInStackTrace", desc := "(I)Ljava/lang/Throwable;" } : Jvm.MethodName)) ∈ zB := zkm 387 (by decide +kernel) rfl
theorem zk394 : (Jvm.Cond.methodLink "ZoneHeap" (125 : Nat) ({ cls := "java/lang/IndexOutOfBoundsException", name := "<init>", desc := "(Ljava/lang/String;)V" } : Jvm.MethodName)) ∈ zB := zkm 394 (by decide +kernel) rfl
theorem zk395 : (Jvm.Cond.instanceMethod ({ cls := "java/lang/IndexOutOfBoundsException", name := "<init>", desc := "(Ljava/lang/String;)V" } : Jvm.MethodName)) ∈ zB := zkm 395 (by decide +kernel) rfl
theorem zk397 : (Jvm.Cond.methodLink "java/lang/IndexOutOfBoundsException" (7 : Nat) ({ cls := "java/lang/RuntimeException", name := "<init>", desc := "(Ljava/lang/String;)V" } : Jvm.MethodName)) ∈ zB := zkm 397 (by decide +kernel) rfl
theorem zk400 : (Jvm.Cond.methodLink "ZoneHeap" (88 : Nat) ({ cls := "ZoneHeap", name := "isTaken", desc := "(I)Z" } : Jvm.MethodName)) ∈ zB := zkm 400 (by decide +kernel) rfl
theorem zk402 : (Jvm.Cond.instanceMethod ({ cls := "ZoneHeap", name := "isTaken", desc := "(I)Z" } : Jvm.MethodName)) ∈ zB := zkm 402 (by decide +kernel) rfl
theorem zk404 : (Jvm.Cond.methodLink "ZoneHeapLaw" (69 : Nat) ({ cls := "ZoneHeapLaw", name := "block", desc := "(LZoneHeap;I[J)I" } : Jvm.MethodName)) ∈ zB := zkm 404 (by decide +kernel) rfl
theorem zk405 : (Jvm.Cond.static ({ cls := "ZoneHeapLaw", name := "block", desc := "(LZoneHeap;I[J)I" } : Jvm.MethodName)) ∈ zB := zkm 405 (by decide +kernel) rfl
theorem zk407 : (Jvm.Cond.methodLink "ZoneHeapLaw" (29 : Nat) ({ cls := "ZoneHeap", name := "block", desc := "(I)I" } : Jvm.MethodName)) ∈ zB := zkm 407 (by decide +kernel) rfl
theorem zk408 : (Jvm.Cond.instanceMethod ({ cls := "ZoneHeap", name := "block", desc := "(I)I" } : Jvm.MethodName)) ∈ zB := zkm 408 (by decide +kernel) rfl
theorem zk409 : (Jvm.Cond.selects "ZoneHeap" ({ cls := "ZoneHeap", name := "block", desc := "(I)I" } : Jvm.MethodName) ({ cls := "ZoneHeap", name := "block", desc := "(I)I" } : Jvm.MethodName)) ∈ zB := zkm 409 (by decide +kernel) rfl
theorem zk411 : (Jvm.Cond.methodLink "ZoneHeapLaw" (72 : Nat) ({ cls := "ZoneHeapLaw", name := "write", desc := "(LZoneHeap;II)I" } : Jvm.MethodName)) ∈ zB := zkm 411 (by decide +kernel) rfl
theorem zk412 : (Jvm.Cond.static ({ cls := "ZoneHeapLaw", name := "write", desc := "(LZoneHeap;II)I" } : Jvm.MethodName)) ∈ zB := zkm 412 (by decide +kernel) rfl
theorem zk414 : (Jvm.Cond.methodLink "ZoneHeapLaw" (32 : Nat) ({ cls := "ZoneHeap", name := "write", desc := "(II)V" } : Jvm.MethodName)) ∈ zB := zkm 414 (by decide +kernel) rfl
theorem zk415 : (Jvm.Cond.instanceMethod ({ cls := "ZoneHeap", name := "write", desc := "(II)V" } : Jvm.MethodName)) ∈ zB := zkm 415 (by decide +kernel) rfl
theorem zk416 : (Jvm.Cond.selects "ZoneHeap" ({ cls := "ZoneHeap", name := "write", desc := "(II)V" } : Jvm.MethodName) ({ cls := "ZoneHeap", name := "write", desc := "(II)V" } : Jvm.MethodName)) ∈ zB := zkm 416 (by decide +kernel) rfl
theorem zk418 : (Jvm.Cond.methodLink "ZoneHeap" (102 : Nat) ({ cls := "ZoneHeap", name := "refuseWrongWord", desc := "(I)V" } : Jvm.MethodName)) ∈ zB := zkm 418 (by decide +kernel) rfl
theorem zk420 : (Jvm.Cond.instanceMethod ({ cls := "ZoneHeap", name := "refuseWrongWord", desc := "(I)V" } : Jvm.MethodName)) ∈ zB := zkm 420 (by decide +kernel) rfl
theorem zk424 : (Jvm.Cond.methodLink "ZoneHeapLaw" (76 : Nat) ({ cls := "ZoneHeapLaw", name := "read", desc := "(LZoneHeap;I[J)I" } : Jvm.MethodName)) ∈ zB := zkm 424 (by decide +kernel) rfl
theorem zk425 : (Jvm.Cond.static ({ cls := "ZoneHeapLaw", name := "read", desc := "(LZoneHeap;I[J)I" } : Jvm.MethodName)) ∈ zB := zkm 425 (by decide +kernel) rfl
theorem zk427 : (Jvm.Cond.methodLink "ZoneHeapLaw" (36 : Nat) ({ cls := "ZoneHeap", name := "read", desc := "(I)I" } : Jvm.MethodName)) ∈ zB := zkm 427 (by decide +kernel) rfl
theorem zk428 : (Jvm.Cond.instanceMethod ({ cls := "ZoneHeap", name := "read", desc := "(I)I" } : Jvm.MethodName)) ∈ zB := zkm 428 (by decide +kernel) rfl
theorem zk429 : (Jvm.Cond.selects "ZoneHeap" ({ cls := "ZoneHeap", name := "read", desc := "(I)I" } : Jvm.MethodName) ({ cls := "ZoneHeap", name := "read", desc := "(I)I" } : Jvm.MethodName)) ∈ zB := zkm 429 (by decide +kernel) rfl
theorem zk431 : (Jvm.Cond.methodLink "ZoneHeapLaw" (83 : Nat) ({ cls := "ZoneHeapLaw", name := "lostAt", desc := "(LZoneHeap;I[J)I" } : Jvm.MethodName)) ∈ zB := zkm 431 (by decide +kernel) rfl
theorem zk432 : (Jvm.Cond.static ({ cls := "ZoneHeapLaw", name := "lostAt", desc := "(LZoneHeap;I[J)I" } : Jvm.MethodName)) ∈ zB := zkm 432 (by decide +kernel) rfl
theorem zk434 : (Jvm.Cond.methodLink "ZoneHeapLaw" (39 : Nat) ({ cls := "ZoneHeap", name := "lostAt", desc := "(I)I" } : Jvm.MethodName)) ∈ zB := zkm 434 (by decide +kernel) rfl
theorem zk435 : (Jvm.Cond.instanceMethod ({ cls := "ZoneHeap", name := "lostAt", desc := "(I)I" } : Jvm.MethodName)) ∈ zB := zkm 435 (by decide +kernel) rfl
theorem zk436 : (Jvm.Cond.selects "ZoneHeap" ({ cls := "ZoneHeap", name := "lostAt", desc := "(I)I" } : Jvm.MethodName) ({ cls := "ZoneHeap", name := "lostAt", desc := "(I)I" } : Jvm.MethodName)) ∈ zB := zkm 436 (by decide +kernel) rfl
theorem zk439 : (Jvm.Cond.methodLink "ZoneHeapLaw" (86 : Nat) ({ cls := "ZoneHeapLaw", name := "count", desc := "(LZoneHeap;I[J)I" } : Jvm.MethodName)) ∈ zB := zkm 439 (by decide +kernel) rfl
theorem zk440 : (Jvm.Cond.static ({ cls := "ZoneHeapLaw", name := "count", desc := "(LZoneHeap;I[J)I" } : Jvm.MethodName)) ∈ zB := zkm 440 (by decide +kernel) rfl
theorem zk442 : (Jvm.Cond.methodLink "ZoneHeapLaw" (42 : Nat) ({ cls := "ZoneHeap", name := "count", desc := "(I)I" } : Jvm.MethodName)) ∈ zB := zkm 442 (by decide +kernel) rfl
theorem zk443 : (Jvm.Cond.instanceMethod ({ cls := "ZoneHeap", name := "count", desc := "(I)I" } : Jvm.MethodName)) ∈ zB := zkm 443 (by decide +kernel) rfl
theorem zk444 : (Jvm.Cond.selects "ZoneHeap" ({ cls := "ZoneHeap", name := "count", desc := "(I)I" } : Jvm.MethodName) ({ cls := "ZoneHeap", name := "count", desc := "(I)I" } : Jvm.MethodName)) ∈ zB := zkm 444 (by decide +kernel) rfl
theorem zk447 : (Jvm.Cond.classLink "ZoneHeapLaw" (46 : Nat) "ZoneHeapModel") ∈ zB := zkm 447 (by decide +kernel) rfl
theorem zk448 : (Jvm.Cond.instantiable "ZoneHeapModel" (12 : Nat)) ∈ zB := zkm 448 (by decide +kernel) rfl
theorem zk449 : (Jvm.Cond.methodLink "ZoneHeapLaw" (48 : Nat) ({ cls := "ZoneHeapModel", name := "<init>", desc := "()V" } : Jvm.MethodName)) ∈ zB := zkm 449 (by decide +kernel) rfl
theorem zk450 : (Jvm.Cond.instanceMethod ({ cls := "ZoneHeapModel", name := "<init>", desc := "()V" } : Jvm.MethodName)) ∈ zB := zkm 450 (by decide +kernel) rfl
theorem zk452 : (Jvm.Cond.methodLink "ZoneHeapModel" (1 : Nat) ({ cls := "java/lang/Object", name := "<init>", desc := "()V" } : Jvm.MethodName)) ∈ zB := zkm 452 (by decide +kernel) rfl
theorem zk453 : (Jvm.Cond.fieldLink "ZoneHeapModel" (32 : Nat) "ZoneHeapModel" "err" "I") ∈ zB := zkm 453 (by decide +kernel) rfl
theorem zk454 : (Jvm.Cond.fieldLink "ZoneHeapModel" (7 : Nat) "ZoneHeapModel" "octet" "[I") ∈ zB := zkm 454 (by decide +kernel) rfl
theorem zk455 : (Jvm.Cond.fieldLink "ZoneHeapModel" (13 : Nat) "ZoneHeapModel" "place" "[I") ∈ zB := zkm 455 (by decide +kernel) rfl
theorem zk456 : (Jvm.Cond.fieldLink "ZoneHeapModel" (16 : Nat) "ZoneHeapModel" "size" "[I") ∈ zB := zkm 456 (by decide +kernel) rfl
theorem zk457 : (Jvm.Cond.fieldLink "ZoneHeapModel" (19 : Nat) "ZoneHeapModel" "state" "[I") ∈ zB := zkm 457 (by decide +kernel) rfl
theorem zk458 : (Jvm.Cond.fieldLink "ZoneHeapModel" (22 : Nat) "ZoneHeapModel" "since" "[I") ∈ zB := zkm 458 (by decide +kernel) rfl
theorem zk459 : (Jvm.Cond.fieldLink "ZoneHeapModel" (25 : Nat) "ZoneHeapModel" "reached" "[Z") ∈ zB := zkm 459 (by decide +kernel) rfl
theorem zk460 : (Jvm.Cond.fieldLink "ZoneHeapModel" (29 : Nat) "ZoneHeapModel" "found" "[I") ∈ zB := zkm 460 (by decide +kernel) rfl
theorem zk461 : (Jvm.Cond.fieldLink "ZoneHeapModel" (40 : Nat) "ZoneHeapModel" "many" "I") ∈ zB := zkm 461 (by decide +kernel) rfl
theorem zk462 : (Jvm.Cond.fieldLink "ZoneHeapModel" (46 : Nat) "ZoneHeapModel" "made" "I") ∈ zB := zkm 462 (by decide +kernel) rfl
theorem zk463 : (Jvm.Cond.fieldLink "ZoneHeapModel" (49 : Nat) "ZoneHeapModel" "backs" "I") ∈ zB := zkm 463 (by decide +kernel) rfl
theorem zk464 : (Jvm.Cond.fieldLink "ZoneHeapModel" (87 : Nat) "ZoneHeapModel" "lostMany" "I") ∈ zB := zkm 464 (by decide +kernel) rfl
theorem zk490 : (Jvm.Cond.arrayClass Jvm.ClassFile.FieldType.boolean) ∈ zB := zkm 490 (by decide +kernel) rfl
theorem zk491 : (Jvm.Cond.methodLink "ZoneHeapLaw" (55 : Nat) ({ cls := "ZoneHeapModel", name := "thrown", desc := "()I" } : Jvm.MethodName)) ∈ zB := zkm 491 (by decide +kernel) rfl
theorem zk492 : (Jvm.Cond.instanceMethod ({ cls := "ZoneHeapModel", name := "thrown", desc := "()I" } : Jvm.MethodName)) ∈ zB := zkm 492 (by decide +kernel) rfl
theorem zk493 : (Jvm.Cond.selects "ZoneHeapModel" ({ cls := "ZoneHeapModel", name := "thrown", desc := "()I" } : Jvm.MethodName) ({ cls := "ZoneHeapModel", name := "thrown", desc := "()I" } : Jvm.MethodName)) ∈ zB := zkm 493 (by decide +kernel) rfl
theorem zk495 : (Jvm.Cond.methodLink "ZoneHeapLaw" (54 : Nat) ({ cls := "ZoneHeapModel", name := "get", desc := "(I)I" } : Jvm.MethodName)) ∈ zB := zkm 495 (by decide +kernel) rfl
theorem zk496 : (Jvm.Cond.instanceMethod ({ cls := "ZoneHeapModel", name := "get", desc := "(I)I" } : Jvm.MethodName)) ∈ zB := zkm 496 (by decide +kernel) rfl
theorem zk497 : (Jvm.Cond.selects "ZoneHeapModel" ({ cls := "ZoneHeapModel", name := "get", desc := "(I)I" } : Jvm.MethodName) ({ cls := "ZoneHeapModel", name := "get", desc := "(I)I" } : Jvm.MethodName)) ∈ zB := zkm 497 (by decide +kernel) rfl
theorem zk499 : (Jvm.Cond.methodLink "ZoneHeapModel" (56 : Nat) ({ cls := "ZoneHeapModel", name := "fails", desc := "(ZI)Z" } : Jvm.MethodName)) ∈ zB := zkm 499 (by decide +kernel) rfl
theorem zk501 : (Jvm.Cond.instanceMethod ({ cls := "ZoneHeapModel", name := "fails", desc := "(ZI)Z" } : Jvm.MethodName)) ∈ zB := zkm 501 (by decide +kernel) rfl
theorem zk503 : (Jvm.Cond.methodLink "ZoneHeapModel" (60 : Nat) ({ cls := "ZoneHeapModel", name := "make", desc := "(I)I" } : Jvm.MethodName)) ∈ zB := zkm 503 (by decide +kernel) rfl
theorem zk505 : (Jvm.Cond.instanceMethod ({ cls := "ZoneHeapModel", name := "make", desc := "(I)I" } : Jvm.MethodName)) ∈ zB := zkm 505 (by decide +kernel) rfl
theorem zk507 : (Jvm.Cond.methodLink "ZoneHeapModel" (43 : Nat) ({ cls := "ZoneHeapModel", name := "room", desc := "(I)I" } : Jvm.MethodName)) ∈ zB := zkm 507 (by decide +kernel) rfl
theorem zk509 : (Jvm.Cond.instanceMethod ({ cls := "ZoneHeapModel", name := "room", desc := "(I)I" } : Jvm.MethodName)) ∈ zB := zkm 509 (by decide +kernel) rfl
theorem zk511 : (Jvm.Cond.methodLink "ZoneHeapModel" (36 : Nat) ({ cls := "ZoneHeapModel", name := "taken", desc := "(I)I" } : Jvm.MethodName)) ∈ zB := zkm 511 (by decide +kernel) rfl
theorem zk512 : (Jvm.Cond.static ({ cls := "ZoneHeapModel", name := "taken", desc := "(I)I" } : Jvm.MethodName)) ∈ zB := zkm 512 (by decide +kernel) rfl
theorem zk514 : (Jvm.Cond.methodLink "ZoneHeapLaw" (61 : Nat) ({ cls := "ZoneHeapModel", name := "back", desc := "(I)I" } : Jvm.MethodName)) ∈ zB := zkm 514 (by decide +kernel) rfl
theorem zk515 : (Jvm.Cond.instanceMethod ({ cls := "ZoneHeapModel", name := "back", desc := "(I)I" } : Jvm.MethodName)) ∈ zB := zkm 515 (by decide +kernel) rfl
theorem zk516 : (Jvm.Cond.selects "ZoneHeapModel" ({ cls := "ZoneHeapModel", name := "back", desc := "(I)I" } : Jvm.MethodName) ({ cls := "ZoneHeapModel", name := "back", desc := "(I)I" } : Jvm.MethodName)) ∈ zB := zkm 516 (by decide +kernel) rfl
theorem zk518 : (Jvm.Cond.methodLink "ZoneHeapModel" (63 : Nat) ({ cls := "ZoneHeapModel", name := "at", desc := "(II)I" } : Jvm.MethodName)) ∈ zB := zkm 518 (by decide +kernel) rfl
theorem zk520 : (Jvm.Cond.instanceMethod ({ cls := "ZoneHeapModel", name := "at", desc := "(II)I" } : Jvm.MethodName)) ∈ zB := zkm 520 (by decide +kernel) rfl
theorem zk522 : (Jvm.Cond.methodLink "ZoneHeapModel" (67 : Nat) ({ cls := "ZoneHeapModel", name := "give", desc := "(I)V" } : Jvm.MethodName)) ∈ zB := zkm 522 (by decide +kernel) rfl
theorem zk524 : (Jvm.Cond.instanceMethod ({ cls := "ZoneHeapModel", name := "give", desc := "(I)V" } : Jvm.MethodName)) ∈ zB := zkm 524 (by decide +kernel) rfl
theorem zk526 : (Jvm.Cond.methodLink "ZoneHeapModel" (52 : Nat) ({ cls := "ZoneHeapModel", name := "kept", desc := "()I" } : Jvm.MethodName)) ∈ zB := zkm 526 (by decide +kernel) rfl
theorem zk528 : (Jvm.Cond.instanceMethod ({ cls := "ZoneHeapModel", name := "kept", desc := "()I" } : Jvm.MethodName)) ∈ zB := zkm 528 (by decide +kernel) rfl
theorem zk530 : (Jvm.Cond.methodLink "ZoneHeapLaw" (65 : Nat) ({ cls := "ZoneHeapModel", name := "again", desc := "(II)I" } : Jvm.MethodName)) ∈ zB := zkm 530 (by decide +kernel) rfl
theorem zk531 : (Jvm.Cond.instanceMethod ({ cls := "ZoneHeapModel", name := "again", desc := "(II)I" } : Jvm.MethodName)) ∈ zB := zkm 531 (by decide +kernel) rfl
theorem zk532 : (Jvm.Cond.selects "ZoneHeapModel" ({ cls := "ZoneHeapModel", name := "again", desc := "(II)I" } : Jvm.MethodName) ({ cls := "ZoneHeapModel", name := "again", desc := "(II)I" } : Jvm.MethodName)) ∈ zB := zkm 532 (by decide +kernel) rfl
theorem zk534 : (Jvm.Cond.methodLink "ZoneHeapLaw" (68 : Nat) ({ cls := "ZoneHeapModel", name := "kind", desc := "(I)I" } : Jvm.MethodName)) ∈ zB := zkm 534 (by decide +kernel) rfl
theorem zk535 : (Jvm.Cond.instanceMethod ({ cls := "ZoneHeapModel", name := "kind", desc := "(I)I" } : Jvm.MethodName)) ∈ zB := zkm 535 (by decide +kernel) rfl
theorem zk536 : (Jvm.Cond.selects "ZoneHeapModel" ({ cls := "ZoneHeapModel", name := "kind", desc := "(I)I" } : Jvm.MethodName) ({ cls := "ZoneHeapModel", name := "kind", desc := "(I)I" } : Jvm.MethodName)) ∈ zB := zkm 536 (by decide +kernel) rfl
theorem zk538 : (Jvm.Cond.methodLink "ZoneHeapModel" (71 : Nat) ({ cls := "ZoneHeapModel", name := "of", desc := "(II)I" } : Jvm.MethodName)) ∈ zB := zkm 538 (by decide +kernel) rfl
theorem zk540 : (Jvm.Cond.instanceMethod ({ cls := "ZoneHeapModel", name := "of", desc := "(II)I" } : Jvm.MethodName)) ∈ zB := zkm 540 (by decide +kernel) rfl
theorem zk542 : (Jvm.Cond.methodLink "ZoneHeapLaw" (71 : Nat) ({ cls := "ZoneHeapModel", name := "block", desc := "(I)I" } : Jvm.MethodName)) ∈ zB := zkm 542 (by decide +kernel) rfl
theorem zk543 : (Jvm.Cond.instanceMethod ({ cls := "ZoneHeapModel", name := "block", desc := "(I)I" } : Jvm.MethodName)) ∈ zB := zkm 543 (by decide +kernel) rfl
theorem zk544 : (Jvm.Cond.selects "ZoneHeapModel" ({ cls := "ZoneHeapModel", name := "block", desc := "(I)I" } : Jvm.MethodName) ({ cls := "ZoneHeapModel", name := "block", desc := "(I)I" } : Jvm.MethodName)) ∈ zB := zkm 544 (by decide +kernel) rfl
theorem zk546 : (Jvm.Cond.methodLink "ZoneHeapLaw" (75 : Nat) ({ cls := "ZoneHeapModel", name := "write", desc := "(II)V" } : Jvm.MethodName)) ∈ zB := zkm 546 (by decide +kernel) rfl
theorem zk547 : (Jvm.Cond.instanceMethod ({ cls := "ZoneHeapModel", name := "write", desc := "(II)V" } : Jvm.MethodName)) ∈ zB := zkm 547 (by decide +kernel) rfl
theorem zk548 : (Jvm.Cond.selects "ZoneHeapModel" ({ cls := "ZoneHeapModel", name := "write", desc := "(II)V" } : Jvm.MethodName) ({ cls := "ZoneHeapModel", name := "write", desc := "(II)V" } : Jvm.MethodName)) ∈ zB := zkm 548 (by decide +kernel) rfl
theorem zk550 : (Jvm.Cond.methodLink "ZoneHeapModel" (74 : Nat) ({ cls := "ZoneHeapModel", name := "bad", desc := "(I)Z" } : Jvm.MethodName)) ∈ zB := zkm 550 (by decide +kernel) rfl
theorem zk552 : (Jvm.Cond.instanceMethod ({ cls := "ZoneHeapModel", name := "bad", desc := "(I)Z" } : Jvm.MethodName)) ∈ zB := zkm 552 (by decide +kernel) rfl
theorem zk554 : (Jvm.Cond.methodLink "ZoneHeapLaw" (78 : Nat) ({ cls := "ZoneHeapModel", name := "read", desc := "(I)I" } : Jvm.MethodName)) ∈ zB := zkm 554 (by decide +kernel) rfl
theorem zk555 : (Jvm.Cond.instanceMethod ({ cls := "ZoneHeapModel", name := "read", desc := "(I)I" } : Jvm.MethodName)) ∈ zB := zkm 555 (by decide +kernel) rfl
theorem zk556 : (Jvm.Cond.selects "ZoneHeapModel" ({ cls := "ZoneHeapModel", name := "read", desc := "(I)I" } : Jvm.MethodName) ({ cls := "ZoneHeapModel", name := "read", desc := "(I)I" } : Jvm.MethodName)) ∈ zB := zkm 556 (by decide +kernel) rfl
theorem zk558 : (Jvm.Cond.methodLink "ZoneHeapModel" (78 : Nat) ({ cls := "ZoneHeapModel", name := "word", desc := "(I)I" } : Jvm.MethodName)) ∈ zB := zkm 558 (by decide +kernel) rfl
theorem zk560 : (Jvm.Cond.instanceMethod ({ cls := "ZoneHeapModel", name := "word", desc := "(I)I" } : Jvm.MethodName)) ∈ zB := zkm 560 (by decide +kernel) rfl
theorem zk562 : (Jvm.Cond.methodLink "ZoneHeapLaw" (82 : Nat) ({ cls := "ZoneHeapModel", name := "lost", desc := "(II)I" } : Jvm.MethodName)) ∈ zB := zkm 562 (by decide +kernel) rfl
theorem zk563 : (Jvm.Cond.instanceMethod ({ cls := "ZoneHeapModel", name := "lost", desc := "(II)I" } : Jvm.MethodName)) ∈ zB := zkm 563 (by decide +kernel) rfl
theorem zk564 : (Jvm.Cond.selects "ZoneHeapModel" ({ cls := "ZoneHeapModel", name := "lost", desc := "(II)I" } : Jvm.MethodName) ({ cls := "ZoneHeapModel", name := "lost", desc := "(II)I" } : Jvm.MethodName)) ∈ zB := zkm 564 (by decide +kernel) rfl
theorem zk566 : (Jvm.Cond.methodLink "ZoneHeapModel" (84 : Nat) ({ cls := "ZoneHeapModel", name := "touch", desc := "(I)Z" } : Jvm.MethodName)) ∈ zB := zkm 566 (by decide +kernel) rfl
theorem zk568 : (Jvm.Cond.instanceMethod ({ cls := "ZoneHeapModel", name := "touch", desc := "(I)Z" } : Jvm.MethodName)) ∈ zB := zkm 568 (by decide +kernel) rfl
theorem zk570 : (Jvm.Cond.methodLink "ZoneHeapModel" (81 : Nat) ({ cls := "ZoneHeapModel", name := "leads", desc := "(I)I" } : Jvm.MethodName)) ∈ zB := zkm 570 (by decide +kernel) rfl
theorem zk572 : (Jvm.Cond.instanceMethod ({ cls := "ZoneHeapModel", name := "leads", desc := "(I)I" } : Jvm.MethodName)) ∈ zB := zkm 572 (by decide +kernel) rfl
theorem zk574 : (Jvm.Cond.methodLink "ZoneHeapLaw" (85 : Nat) ({ cls := "ZoneHeapModel", name := "lostAt", desc := "(I)I" } : Jvm.MethodName)) ∈ zB := zkm 574 (by decide +kernel) rfl
theorem zk575 : (Jvm.Cond.instanceMethod ({ cls := "ZoneHeapModel", name := "lostAt", desc := "(I)I" } : Jvm.MethodName)) ∈ zB := zkm 575 (by decide +kernel) rfl
theorem zk576 : (Jvm.Cond.selects "ZoneHeapModel" ({ cls := "ZoneHeapModel", name := "lostAt", desc := "(I)I" } : Jvm.MethodName) ({ cls := "ZoneHeapModel", name := "lostAt", desc := "(I)I" } : Jvm.MethodName)) ∈ zB := zkm 576 (by decide +kernel) rfl
theorem zk578 : (Jvm.Cond.methodLink "ZoneHeapLaw" (88 : Nat) ({ cls := "ZoneHeapModel", name := "count", desc := "(I)I" } : Jvm.MethodName)) ∈ zB := zkm 578 (by decide +kernel) rfl
theorem zk579 : (Jvm.Cond.instanceMethod ({ cls := "ZoneHeapModel", name := "count", desc := "(I)I" } : Jvm.MethodName)) ∈ zB := zkm 579 (by decide +kernel) rfl
theorem zk580 : (Jvm.Cond.selects "ZoneHeapModel" ({ cls := "ZoneHeapModel", name := "count", desc := "(I)I" } : Jvm.MethodName) ({ cls := "ZoneHeapModel", name := "count", desc := "(I)I" } : Jvm.MethodName)) ∈ zB := zkm 580 (by decide +kernel) rfl
theorem zk582 : (Jvm.Cond.arrayClass Jvm.ClassFile.FieldType.long) ∈ zB := zkm 582 (by decide +kernel) rfl
theorem zk583 : (Jvm.Cond.sameMethod "java/lang/Throwable" "java/lang/Throwable" "fillInStackTrace" "(I)Ljava/lang/Throwable;") ∈ zB := zkm 583 (by decide +kernel) rfl
theorem zk585 : (Jvm.Cond.sameMethod "[Ljava/lang/Object;" "java/lang/Object" "getClass" "()Ljava/lang/Class;") ∈ zB := zkm 585 (by decide +kernel) rfl
theorem zk586 : (Jvm.Cond.selects "[Ljava/lang/Object;" ({ cls := "java/lang/Object", name := "getClass", desc := "()Ljava/lang/Class;" } : Jvm.MethodName) ({ cls := "java/lang/Object", name := "getClass", desc := "()Ljava/lang/Class;" } : Jvm.MethodName)) ∈ zB := zkm 586 (by decide +kernel) rfl
theorem ks_Z_forgetReached : Cond.selects "ZoneHeap" y_Z_forgetReached y_Z_forgetReached ∈ zB := zks 0 (by decide +kernel) rfl
theorem ks_Z_reach : Cond.selects "ZoneHeap" y_Z_reach y_Z_reach ∈ zB := zks 1 (by decide +kernel) rfl
theorem ks_Z_ledToBy : Cond.selects "ZoneHeap" y_Z_ledToBy y_Z_ledToBy ∈ zB := zks 2 (by decide +kernel) rfl
theorem ks_Z_standingAt : Cond.selects "ZoneHeap" y_Z_standingAt y_Z_standingAt ∈ zB := zks 3 (by decide +kernel) rfl
theorem ks_Z_liveHaving : Cond.selects "ZoneHeap" y_Z_liveHaving y_Z_liveHaving ∈ zB := zks 4 (by decide +kernel) rfl
theorem ks_B_has : Cond.selects "ZoneHeap$Block" y_B_has y_B_has ∈ zB := zks 5 (by decide +kernel) rfl
theorem ks_Z_reachFromWordsOf : Cond.selects "ZoneHeap" y_Z_reachFromWordsOf y_Z_reachFromWordsOf ∈ zB := zks 6 (by decide +kernel) rfl
theorem ks_Z_wordAt : Cond.selects "ZoneHeap" y_Z_wordAt y_Z_wordAt ∈ zB := zks 7 (by decide +kernel) rfl
theorem ks_Z_noteLost : Cond.selects "ZoneHeap" y_Z_noteLost y_Z_noteLost ∈ zB := zks 8 (by decide +kernel) rfl
theorem ks_Z_make : Cond.selects "ZoneHeap" y_Z_make y_Z_make ∈ zB := zks 10 (by decide +kernel) rfl
theorem ks_Z_firstRoomFor : Cond.selects "ZoneHeap" y_Z_firstRoomFor y_Z_firstRoomFor ∈ zB := zks 11 (by decide +kernel) rfl
theorem ks_Z_setTaker : Cond.selects "ZoneHeap" y_Z_setTaker y_Z_setTaker ∈ zB := zks 12 (by decide +kernel) rfl
theorem ks_Z_liveStandingAt : Cond.selects "ZoneHeap" y_Z_liveStandingAt y_Z_liveStandingAt ∈ zB := zks 13 (by decide +kernel) rfl
theorem ks_Z_giveBack : Cond.selects "ZoneHeap" y_Z_giveBack y_Z_giveBack ∈ zB := zks 14 (by decide +kernel) rfl
theorem ks_A_add2 : Cond.selects "java/util/ArrayList" y_A_add2 y_A_add2 ∈ zB := zks 15 (by decide +kernel) rfl
theorem ks_A_grow : Cond.selects "java/util/ArrayList" y_A_grow y_A_grow ∈ zB := zks 16 (by decide +kernel) rfl
theorem ks_A_grow2 : Cond.selects "java/util/ArrayList" y_A_grow2 y_A_grow2 ∈ zB := zks 17 (by decide +kernel) rfl
theorem ks_Z_dropOldestKept : Cond.selects "ZoneHeap" y_Z_dropOldestKept y_Z_dropOldestKept ∈ zB := zks 18 (by decide +kernel) rfl
theorem ks_A_fastRemove : Cond.selects "java/util/ArrayList" y_A_fastRemove y_A_fastRemove ∈ zB := zks 19 (by decide +kernel) rfl
theorem ks_Z_isTaken : Cond.selects "ZoneHeap" y_Z_isTaken y_Z_isTaken ∈ zB := zks 20 (by decide +kernel) rfl
theorem ks_Z_refuseWrongWord : Cond.selects "ZoneHeap" y_Z_refuseWrongWord y_Z_refuseWrongWord ∈ zB := zks 21 (by decide +kernel) rfl
theorem ks_M_fails : Cond.selects "ZoneHeapModel" y_M_fails y_M_fails ∈ zB := zks 22 (by decide +kernel) rfl
theorem ks_M_make : Cond.selects "ZoneHeapModel" y_M_make y_M_make ∈ zB := zks 23 (by decide +kernel) rfl
theorem ks_M_room : Cond.selects "ZoneHeapModel" y_M_room y_M_room ∈ zB := zks 24 (by decide +kernel) rfl
theorem ks_M_at : Cond.selects "ZoneHeapModel" y_M_at y_M_at ∈ zB := zks 25 (by decide +kernel) rfl
theorem ks_M_give : Cond.selects "ZoneHeapModel" y_M_give y_M_give ∈ zB := zks 26 (by decide +kernel) rfl
theorem ks_M_kept : Cond.selects "ZoneHeapModel" y_M_kept y_M_kept ∈ zB := zks 27 (by decide +kernel) rfl
theorem ks_M_of : Cond.selects "ZoneHeapModel" y_M_of y_M_of ∈ zB := zks 28 (by decide +kernel) rfl
theorem ks_M_bad : Cond.selects "ZoneHeapModel" y_M_bad y_M_bad ∈ zB := zks 29 (by decide +kernel) rfl
theorem ks_M_word : Cond.selects "ZoneHeapModel" y_M_word y_M_word ∈ zB := zks 30 (by decide +kernel) rfl
theorem ks_M_touch : Cond.selects "ZoneHeapModel" y_M_touch y_M_touch ∈ zB := zks 31 (by decide +kernel) rfl
theorem ks_M_leads : Cond.selects "ZoneHeapModel" y_M_leads y_M_leads ∈ zB := zks 32 (by decide +kernel) rfl
end
section
theorem d_Z_init_0 : decode c_Z_init 0 = .ok (.aload_n 0, 1) := by decide +kernel
theorem d_Z_init_1 : decode c_Z_init 1 = .ok (.invokespecial 3, 3) := by decide +kernel
theorem d_Z_init_4 : decode c_Z_init 4 = .ok (.aload_n 0, 1) := by decide +kernel
theorem d_Z_init_5 : decode c_Z_init 5 = .ok (.sipush 8192, 3) := by decide +kernel
theorem d_Z_init_8 : decode c_Z_init 8 = .ok (.newarray .byte, 2) := by decide +kernel
theorem d_Z_init_10 : decode c_Z_init 10 = .ok (.putfield 9, 3) := by decide +kernel
theorem d_Z_init_13 : decode c_Z_init 13 = .ok (.aload_n 0, 1) := by decide +kernel
theorem d_Z_init_14 : decode c_Z_init 14 = .ok (.sipush 512, 3) := by decide +kernel
theorem d_Z_init_17 : decode c_Z_init 17 = .ok (.anewarray 13, 3) := by decide +kernel
theorem d_Z_init_20 : decode c_Z_init 20 = .ok (.putfield 15, 3) := by decide +kernel
theorem d_Z_init_23 : decode c_Z_init 23 = .ok (.aload_n 0, 1) := by decide +kernel
theorem d_Z_init_24 : decode c_Z_init 24 = .ok (.new 19, 3) := by decide +kernel
theorem d_Z_init_27 : decode c_Z_init 27 = .ok (.dup, 1) := by decide +kernel
theorem d_Z_init_28 : decode c_Z_init 28 = .ok (.invokespecial 21, 3) := by decide +kernel
theorem d_Z_init_31 : decode c_Z_init 31 = .ok (.putfield 22, 3) := by decide +kernel
theorem d_Z_init_34 : decode c_Z_init 34 = .ok (.aload_n 0, 1) := by decide +kernel
theorem d_Z_init_35 : decode c_Z_init 35 = .ok (.iconst 0, 1) := by decide +kernel
theorem d_Z_init_36 : decode c_Z_init 36 = .ok (.putfield 26, 3) := by decide +kernel
theorem d_Z_init_39 : decode c_Z_init 39 = .ok (.aload_n 0, 1) := by decide +kernel
theorem d_Z_init_40 : decode c_Z_init 40 = .ok (.iconst 0, 1) := by decide +kernel
theorem d_Z_init_41 : decode c_Z_init 41 = .ok (.putfield 30, 3) := by decide +kernel
theorem d_Z_init_44 : decode c_Z_init 44 = .ok (.aload_n 0, 1) := by decide +kernel
theorem d_Z_init_45 : decode c_Z_init 45 = .ok (.iconst 0, 1) := by decide +kernel
theorem d_Z_init_46 : decode c_Z_init 46 = .ok (.putfield 33, 3) := by decide +kernel
theorem d_Z_init_49 : decode c_Z_init 49 = .ok (.aload_n 0, 1) := by decide +kernel
theorem d_Z_init_50 : decode c_Z_init 50 = .ok (.iconst 0, 1) := by decide +kernel
theorem d_Z_init_51 : decode c_Z_init 51 = .ok (.putfield 36, 3) := by decide +kernel
theorem d_Z_init_54 : decode c_Z_init 54 = .ok (.aload_n 0, 1) := by decide +kernel
theorem d_Z_init_55 : decode c_Z_init 55 = .ok (.sipush 255, 3) := by decide +kernel
theorem d_Z_init_58 : decode c_Z_init 58 = .ok (.anewarray 13, 3) := by decide +kernel
theorem d_Z_init_61 : decode c_Z_init 61 = .ok (.putfield 39, 3) := by decide +kernel
theorem d_Z_init_64 : decode c_Z_init 64 = .ok (.aload_n 0, 1) := by decide +kernel
theorem d_Z_init_65 : decode c_Z_init 65 = .ok (.iconst 0, 1) := by decide +kernel
theorem d_Z_init_66 : decode c_Z_init 66 = .ok (.putfield 42, 3) := by decide +kernel
theorem d_Z_init_69 : decode c_Z_init 69 = .ok (.aload_n 0, 1) := by decide +kernel
theorem d_Z_init_70 : decode c_Z_init 70 = .ok (.sipush 255, 3) := by decide +kernel
theorem d_Z_init_73 : decode c_Z_init 73 = .ok (.newarray .int, 2) := by decide +kernel
theorem d_Z_init_75 : decode c_Z_init 75 = .ok (.putfield 45, 3) := by decide +kernel
theorem d_Z_init_78 : decode c_Z_init 78 = .ok (.aload_n 0, 1) := by decide +kernel
theorem d_Z_init_79 : decode c_Z_init 79 = .ok (.iconst 0, 1) := by decide +kernel
theorem d_Z_init_80 : decode c_Z_init 80 = .ok (.putfield 49, 3) := by decide +kernel
theorem d_Z_init_83 : decode c_Z_init 83 = .ok (.return_, 1) := by decide +kernel
theorem d_Z_lost_0 : decode c_Z_lost 0 = .ok (.aload_n 0, 1) := by decide +kernel
theorem d_Z_lost_1 : decode c_Z_lost 1 = .ok (.invokevirtual 109, 3) := by decide +kernel
theorem d_Z_lost_4 : decode c_Z_lost 4 = .ok (.aload_n 0, 1) := by decide +kernel
theorem d_Z_lost_5 : decode c_Z_lost 5 = .ok (.iload_n 1, 1) := by decide +kernel
theorem d_Z_lost_6 : decode c_Z_lost 6 = .ok (.invokevirtual 112, 3) := by decide +kernel
theorem d_Z_lost_9 : decode c_Z_lost 9 = .ok (.aload_n 0, 1) := by decide +kernel
theorem d_Z_lost_10 : decode c_Z_lost 10 = .ok (.iload_n 2, 1) := by decide +kernel
theorem d_Z_lost_11 : decode c_Z_lost 11 = .ok (.invokevirtual 112, 3) := by decide +kernel
theorem d_Z_lost_14 : decode c_Z_lost 14 = .ok (.iconst 0, 1) := by decide +kernel
theorem d_Z_lost_15 : decode c_Z_lost 15 = .ok (.istore_n 3, 1) := by decide +kernel
theorem d_Z_lost_16 : decode c_Z_lost 16 = .ok (.iload_n 3, 1) := by decide +kernel
theorem d_Z_lost_17 : decode c_Z_lost 17 = .ok (.aload_n 0, 1) := by decide +kernel
theorem d_Z_lost_18 : decode c_Z_lost 18 = .ok (.getfield 42, 3) := by decide +kernel
theorem d_Z_lost_21 : decode c_Z_lost 21 = .ok (.if_icmp .ge 26, 3) := by decide +kernel
theorem d_Z_lost_24 : decode c_Z_lost 24 = .ok (.iload_n 3, 1) := by decide +kernel
theorem d_Z_lost_25 : decode c_Z_lost 25 = .ok (.sipush 255, 3) := by decide +kernel
theorem d_Z_lost_28 : decode c_Z_lost 28 = .ok (.if_icmp .ge 19, 3) := by decide +kernel
theorem d_Z_lost_31 : decode c_Z_lost 31 = .ok (.aload_n 0, 1) := by decide +kernel
theorem d_Z_lost_32 : decode c_Z_lost 32 = .ok (.aload_n 0, 1) := by decide +kernel
theorem d_Z_lost_33 : decode c_Z_lost 33 = .ok (.getfield 39, 3) := by decide +kernel
theorem d_Z_lost_36 : decode c_Z_lost 36 = .ok (.iload_n 3, 1) := by decide +kernel
theorem d_Z_lost_37 : decode c_Z_lost 37 = .ok (.aaload, 1) := by decide +kernel
theorem d_Z_lost_38 : decode c_Z_lost 38 = .ok (.invokevirtual 115, 3) := by decide +kernel
theorem d_Z_lost_41 : decode c_Z_lost 41 = .ok (.iinc 3 1, 3) := by decide +kernel
theorem d_Z_lost_44 : decode c_Z_lost 44 = .ok (.goto (-28), 3) := by decide +kernel
theorem d_Z_lost_47 : decode c_Z_lost 47 = .ok (.aload_n 0, 1) := by decide +kernel
theorem d_Z_lost_48 : decode c_Z_lost 48 = .ok (.invokevirtual 118, 3) := by decide +kernel
theorem d_Z_lost_51 : decode c_Z_lost 51 = .ok (.aload_n 0, 1) := by decide +kernel
theorem d_Z_lost_52 : decode c_Z_lost 52 = .ok (.getfield 49, 3) := by decide +kernel
theorem d_Z_lost_55 : decode c_Z_lost 55 = .ok (.ireturn, 1) := by decide +kernel
theorem d_Z_forgetReached_0 : decode c_Z_forgetReached 0 = .ok (.iconst 0, 1) := by decide +kernel
theorem d_Z_forgetReached_1 : decode c_Z_forgetReached 1 = .ok (.istore_n 1, 1) := by decide +kernel
theorem d_Z_forgetReached_2 : decode c_Z_forgetReached 2 = .ok (.iload_n 1, 1) := by decide +kernel
theorem d_Z_forgetReached_3 : decode c_Z_forgetReached 3 = .ok (.aload_n 0, 1) := by decide +kernel
theorem d_Z_forgetReached_4 : decode c_Z_forgetReached 4 = .ok (.getfield 42, 3) := by decide +kernel
theorem d_Z_forgetReached_7 : decode c_Z_forgetReached 7 = .ok (.if_icmp .ge 19, 3) := by decide +kernel
theorem d_Z_forgetReached_10 : decode c_Z_forgetReached 10 = .ok (.aload_n 0, 1) := by decide +kernel
theorem d_Z_forgetReached_11 : decode c_Z_forgetReached 11 = .ok (.getfield 39, 3) := by decide +kernel
theorem d_Z_forgetReached_14 : decode c_Z_forgetReached 14 = .ok (.iload_n 1, 1) := by decide +kernel
theorem d_Z_forgetReached_15 : decode c_Z_forgetReached 15 = .ok (.aaload, 1) := by decide +kernel
theorem d_Z_forgetReached_16 : decode c_Z_forgetReached 16 = .ok (.iconst 0, 1) := by decide +kernel
theorem d_Z_forgetReached_17 : decode c_Z_forgetReached 17 = .ok (.putfield 188, 3) := by decide +kernel
theorem d_Z_forgetReached_20 : decode c_Z_forgetReached 20 = .ok (.iinc 1 1, 3) := by decide +kernel
theorem d_Z_forgetReached_23 : decode c_Z_forgetReached 23 = .ok (.goto (-21), 3) := by decide +kernel
theorem d_Z_forgetReached_26 : decode c_Z_forgetReached 26 = .ok (.aload_n 0, 1) := by decide +kernel
theorem d_Z_forgetReached_27 : decode c_Z_forgetReached 27 = .ok (.iconst 0, 1) := by decide +kernel
theorem d_Z_forgetReached_28 : decode c_Z_forgetReached 28 = .ok (.putfield 42, 3) := by decide +kernel
theorem d_Z_forgetReached_31 : decode c_Z_forgetReached 31 = .ok (.return_, 1) := by decide +kernel
theorem d_Z_reach_0 : decode c_Z_reach 0 = .ok (.aload_n 0, 1) := by decide +kernel
theorem d_Z_reach_1 : decode c_Z_reach 1 = .ok (.iload_n 1, 1) := by decide +kernel
theorem d_Z_reach_2 : decode c_Z_reach 2 = .ok (.invokevirtual 191, 3) := by decide +kernel
theorem d_Z_reach_5 : decode c_Z_reach 5 = .ok (.astore_n 2, 1) := by decide +kernel
theorem d_Z_reach_6 : decode c_Z_reach 6 = .ok (.aload_n 2, 1) := by decide +kernel
theorem d_Z_reach_7 : decode c_Z_reach 7 = .ok (.ifnull 20, 3) := by decide +kernel
theorem d_Z_reach_10 : decode c_Z_reach 10 = .ok (.aload_n 2, 1) := by decide +kernel
theorem d_Z_reach_11 : decode c_Z_reach 11 = .ok (.getfield 188, 3) := by decide +kernel
theorem d_Z_reach_14 : decode c_Z_reach 14 = .ok (.ifCond .ne 13, 3) := by decide +kernel
theorem d_Z_reach_17 : decode c_Z_reach 17 = .ok (.aload_n 0, 1) := by decide +kernel
theorem d_Z_reach_18 : decode c_Z_reach 18 = .ok (.getfield 42, 3) := by decide +kernel
theorem d_Z_reach_21 : decode c_Z_reach 21 = .ok (.sipush 255, 3) := by decide +kernel
theorem d_Z_reach_24 : decode c_Z_reach 24 = .ok (.if_icmp .lt 4, 3) := by decide +kernel
theorem d_Z_reach_27 : decode c_Z_reach 27 = .ok (.return_, 1) := by decide +kernel
theorem d_Z_reach_28 : decode c_Z_reach 28 = .ok (.aload_n 2, 1) := by decide +kernel
theorem d_Z_reach_29 : decode c_Z_reach 29 = .ok (.iconst 1, 1) := by decide +kernel
theorem d_Z_reach_30 : decode c_Z_reach 30 = .ok (.putfield 188, 3) := by decide +kernel
theorem d_Z_reach_33 : decode c_Z_reach 33 = .ok (.aload_n 0, 1) := by decide +kernel
theorem d_Z_reach_34 : decode c_Z_reach 34 = .ok (.getfield 39, 3) := by decide +kernel
theorem d_Z_reach_37 : decode c_Z_reach 37 = .ok (.aload_n 0, 1) := by decide +kernel
theorem d_Z_reach_38 : decode c_Z_reach 38 = .ok (.getfield 42, 3) := by decide +kernel
theorem d_Z_reach_41 : decode c_Z_reach 41 = .ok (.aload_n 2, 1) := by decide +kernel
theorem d_Z_reach_42 : decode c_Z_reach 42 = .ok (.aastore, 1) := by decide +kernel
theorem d_Z_reach_43 : decode c_Z_reach 43 = .ok (.aload_n 0, 1) := by decide +kernel
theorem d_Z_reach_44 : decode c_Z_reach 44 = .ok (.dup, 1) := by decide +kernel
theorem d_Z_reach_45 : decode c_Z_reach 45 = .ok (.getfield 42, 3) := by decide +kernel
theorem d_Z_reach_48 : decode c_Z_reach 48 = .ok (.iconst 1, 1) := by decide +kernel
theorem d_Z_reach_49 : decode c_Z_reach 49 = .ok (.iadd, 1) := by decide +kernel
theorem d_Z_reach_50 : decode c_Z_reach 50 = .ok (.putfield 42, 3) := by decide +kernel
theorem d_Z_reach_53 : decode c_Z_reach 53 = .ok (.return_, 1) := by decide +kernel
theorem d_Z_ledToBy_0 : decode c_Z_ledToBy 0 = .ok (.aload_n 0, 1) := by decide +kernel
theorem d_Z_ledToBy_1 : decode c_Z_ledToBy 1 = .ok (.iload_n 1, 1) := by decide +kernel
theorem d_Z_ledToBy_2 : decode c_Z_ledToBy 2 = .ok (.invokevirtual 150, 3) := by decide +kernel
theorem d_Z_ledToBy_5 : decode c_Z_ledToBy 5 = .ok (.astore_n 2, 1) := by decide +kernel
theorem d_Z_ledToBy_6 : decode c_Z_ledToBy 6 = .ok (.aload_n 2, 1) := by decide +kernel
theorem d_Z_ledToBy_7 : decode c_Z_ledToBy 7 = .ok (.ifnull 12, 3) := by decide +kernel
theorem d_Z_ledToBy_10 : decode c_Z_ledToBy 10 = .ok (.aload_n 2, 1) := by decide +kernel
theorem d_Z_ledToBy_11 : decode c_Z_ledToBy 11 = .ok (.getfield 95, 3) := by decide +kernel
theorem d_Z_ledToBy_14 : decode c_Z_ledToBy 14 = .ok (.ifCond .ne 5, 3) := by decide +kernel
theorem d_Z_ledToBy_17 : decode c_Z_ledToBy 17 = .ok (.aload_n 2, 1) := by decide +kernel
theorem d_Z_ledToBy_18 : decode c_Z_ledToBy 18 = .ok (.areturn, 1) := by decide +kernel
theorem d_Z_ledToBy_19 : decode c_Z_ledToBy 19 = .ok (.aload_n 0, 1) := by decide +kernel
theorem d_Z_ledToBy_20 : decode c_Z_ledToBy 20 = .ok (.iload_n 1, 1) := by decide +kernel
theorem d_Z_ledToBy_21 : decode c_Z_ledToBy 21 = .ok (.invokevirtual 99, 3) := by decide +kernel
theorem d_Z_ledToBy_24 : decode c_Z_ledToBy 24 = .ok (.areturn, 1) := by decide +kernel
theorem d_Z_standingAt_0 : decode c_Z_standingAt 0 = .ok (.iload_n 1, 1) := by decide +kernel
theorem d_Z_standingAt_1 : decode c_Z_standingAt 1 = .ok (.invokestatic 138, 3) := by decide +kernel
theorem d_Z_standingAt_4 : decode c_Z_standingAt 4 = .ok (.ifCond .ne 5, 3) := by decide +kernel
theorem d_Z_standingAt_7 : decode c_Z_standingAt 7 = .ok (.aconst_null, 1) := by decide +kernel
theorem d_Z_standingAt_8 : decode c_Z_standingAt 8 = .ok (.areturn, 1) := by decide +kernel
theorem d_Z_standingAt_9 : decode c_Z_standingAt 9 = .ok (.aload_n 0, 1) := by decide +kernel
theorem d_Z_standingAt_10 : decode c_Z_standingAt 10 = .ok (.getfield 15, 3) := by decide +kernel
theorem d_Z_standingAt_13 : decode c_Z_standingAt 13 = .ok (.iload_n 1, 1) := by decide +kernel
theorem d_Z_standingAt_14 : decode c_Z_standingAt 14 = .ok (.bipush 16, 2) := by decide +kernel
theorem d_Z_standingAt_16 : decode c_Z_standingAt 16 = .ok (.idiv, 1) := by decide +kernel
theorem d_Z_standingAt_17 : decode c_Z_standingAt 17 = .ok (.aaload, 1) := by decide +kernel
theorem d_Z_standingAt_18 : decode c_Z_standingAt 18 = .ok (.astore_n 2, 1) := by decide +kernel
theorem d_Z_standingAt_19 : decode c_Z_standingAt 19 = .ok (.aload_n 2, 1) := by decide +kernel
theorem d_Z_standingAt_20 : decode c_Z_standingAt 20 = .ok (.ifnull 15, 3) := by decide +kernel
theorem d_Z_standingAt_23 : decode c_Z_standingAt 23 = .ok (.aload_n 2, 1) := by decide +kernel
theorem d_Z_standingAt_24 : decode c_Z_standingAt 24 = .ok (.getfield 60, 3) := by decide +kernel
theorem d_Z_standingAt_27 : decode c_Z_standingAt 27 = .ok (.iload_n 1, 1) := by decide +kernel
theorem d_Z_standingAt_28 : decode c_Z_standingAt 28 = .ok (.if_icmp .ne 7, 3) := by decide +kernel
theorem d_Z_standingAt_31 : decode c_Z_standingAt 31 = .ok (.aload_n 2, 1) := by decide +kernel
theorem d_Z_standingAt_32 : decode c_Z_standingAt 32 = .ok (.goto 4, 3) := by decide +kernel
theorem d_Z_standingAt_35 : decode c_Z_standingAt 35 = .ok (.aconst_null, 1) := by decide +kernel
theorem d_Z_standingAt_36 : decode c_Z_standingAt 36 = .ok (.areturn, 1) := by decide +kernel
theorem d_Z_isOctet_0 : decode c_Z_isOctet 0 = .ok (.iload_n 0, 1) := by decide +kernel
theorem d_Z_isOctet_1 : decode c_Z_isOctet 1 = .ok (.ifCond .lt 14, 3) := by decide +kernel
theorem d_Z_isOctet_4 : decode c_Z_isOctet 4 = .ok (.iload_n 0, 1) := by decide +kernel
theorem d_Z_isOctet_5 : decode c_Z_isOctet 5 = .ok (.sipush 8192, 3) := by decide +kernel
theorem d_Z_isOctet_8 : decode c_Z_isOctet 8 = .ok (.if_icmp .ge 7, 3) := by decide +kernel
theorem d_Z_isOctet_11 : decode c_Z_isOctet 11 = .ok (.iconst 1, 1) := by decide +kernel
theorem d_Z_isOctet_12 : decode c_Z_isOctet 12 = .ok (.goto 4, 3) := by decide +kernel
theorem d_Z_isOctet_15 : decode c_Z_isOctet 15 = .ok (.iconst 0, 1) := by decide +kernel
theorem d_Z_isOctet_16 : decode c_Z_isOctet 16 = .ok (.ireturn, 1) := by decide +kernel
theorem d_Z_liveHaving_0 : decode c_Z_liveHaving 0 = .ok (.iload_n 1, 1) := by decide +kernel
theorem d_Z_liveHaving_1 : decode c_Z_liveHaving 1 = .ok (.invokestatic 138, 3) := by decide +kernel
theorem d_Z_liveHaving_4 : decode c_Z_liveHaving 4 = .ok (.ifCond .ne 5, 3) := by decide +kernel
theorem d_Z_liveHaving_7 : decode c_Z_liveHaving 7 = .ok (.aconst_null, 1) := by decide +kernel
theorem d_Z_liveHaving_8 : decode c_Z_liveHaving 8 = .ok (.areturn, 1) := by decide +kernel
theorem d_Z_liveHaving_9 : decode c_Z_liveHaving 9 = .ok (.aload_n 0, 1) := by decide +kernel
theorem d_Z_liveHaving_10 : decode c_Z_liveHaving 10 = .ok (.getfield 15, 3) := by decide +kernel
theorem d_Z_liveHaving_13 : decode c_Z_liveHaving 13 = .ok (.iload_n 1, 1) := by decide +kernel
theorem d_Z_liveHaving_14 : decode c_Z_liveHaving 14 = .ok (.bipush 16, 2) := by decide +kernel
theorem d_Z_liveHaving_16 : decode c_Z_liveHaving 16 = .ok (.idiv, 1) := by decide +kernel
theorem d_Z_liveHaving_17 : decode c_Z_liveHaving 17 = .ok (.aaload, 1) := by decide +kernel
theorem d_Z_liveHaving_18 : decode c_Z_liveHaving 18 = .ok (.astore_n 2, 1) := by decide +kernel
theorem d_Z_liveHaving_19 : decode c_Z_liveHaving 19 = .ok (.aload_n 2, 1) := by decide +kernel
theorem d_Z_liveHaving_20 : decode c_Z_liveHaving 20 = .ok (.ifnull 22, 3) := by decide +kernel
theorem d_Z_liveHaving_23 : decode c_Z_liveHaving 23 = .ok (.aload_n 2, 1) := by decide +kernel
theorem d_Z_liveHaving_24 : decode c_Z_liveHaving 24 = .ok (.getfield 95, 3) := by decide +kernel
theorem d_Z_liveHaving_27 : decode c_Z_liveHaving 27 = .ok (.ifCond .ne 15, 3) := by decide +kernel
theorem d_Z_liveHaving_30 : decode c_Z_liveHaving 30 = .ok (.aload_n 2, 1) := by decide +kernel
theorem d_Z_liveHaving_31 : decode c_Z_liveHaving 31 = .ok (.iload_n 1, 1) := by decide +kernel
theorem d_Z_liveHaving_32 : decode c_Z_liveHaving 32 = .ok (.invokevirtual 92, 3) := by decide +kernel
theorem d_Z_liveHaving_35 : decode c_Z_liveHaving 35 = .ok (.ifCond .eq 7, 3) := by decide +kernel
theorem d_Z_liveHaving_38 : decode c_Z_liveHaving 38 = .ok (.aload_n 2, 1) := by decide +kernel
theorem d_Z_liveHaving_39 : decode c_Z_liveHaving 39 = .ok (.goto 4, 3) := by decide +kernel
theorem d_Z_liveHaving_42 : decode c_Z_liveHaving 42 = .ok (.aconst_null, 1) := by decide +kernel
theorem d_Z_liveHaving_43 : decode c_Z_liveHaving 43 = .ok (.areturn, 1) := by decide +kernel
theorem d_B_has_0 : decode c_B_has 0 = .ok (.iload_n 1, 1) := by decide +kernel
theorem d_B_has_1 : decode c_B_has 1 = .ok (.aload_n 0, 1) := by decide +kernel
theorem d_B_has_2 : decode c_B_has 2 = .ok (.getfield 16, 3) := by decide +kernel
theorem d_B_has_5 : decode c_B_has 5 = .ok (.if_icmp .lt 20, 3) := by decide +kernel
theorem d_B_has_8 : decode c_B_has 8 = .ok (.iload_n 1, 1) := by decide +kernel
theorem d_B_has_9 : decode c_B_has 9 = .ok (.aload_n 0, 1) := by decide +kernel
theorem d_B_has_10 : decode c_B_has 10 = .ok (.getfield 16, 3) := by decide +kernel
theorem d_B_has_13 : decode c_B_has 13 = .ok (.isub, 1) := by decide +kernel
theorem d_B_has_14 : decode c_B_has 14 = .ok (.aload_n 0, 1) := by decide +kernel
theorem d_B_has_15 : decode c_B_has 15 = .ok (.getfield 20, 3) := by decide +kernel
theorem d_B_has_18 : decode c_B_has 18 = .ok (.if_icmp .ge 7, 3) := by decide +kernel
theorem d_B_has_21 : decode c_B_has 21 = .ok (.iconst 1, 1) := by decide +kernel
theorem d_B_has_22 : decode c_B_has 22 = .ok (.goto 4, 3) := by decide +kernel
theorem d_B_has_25 : decode c_B_has 25 = .ok (.iconst 0, 1) := by decide +kernel
theorem d_B_has_26 : decode c_B_has 26 = .ok (.ireturn, 1) := by decide +kernel
theorem d_Z_reachFromWordsOf_0 : decode c_Z_reachFromWordsOf 0 = .ok (.iconst 0, 1) := by decide +kernel
theorem d_Z_reachFromWordsOf_1 : decode c_Z_reachFromWordsOf 1 = .ok (.istore_n 2, 1) := by decide +kernel
theorem d_Z_reachFromWordsOf_2 : decode c_Z_reachFromWordsOf 2 = .ok (.iload_n 2, 1) := by decide +kernel
theorem d_Z_reachFromWordsOf_3 : decode c_Z_reachFromWordsOf 3 = .ok (.iconst 4, 1) := by decide +kernel
theorem d_Z_reachFromWordsOf_4 : decode c_Z_reachFromWordsOf 4 = .ok (.iadd, 1) := by decide +kernel
theorem d_Z_reachFromWordsOf_5 : decode c_Z_reachFromWordsOf 5 = .ok (.aload_n 1, 1) := by decide +kernel
theorem d_Z_reachFromWordsOf_6 : decode c_Z_reachFromWordsOf 6 = .ok (.getfield 70, 3) := by decide +kernel
theorem d_Z_reachFromWordsOf_9 : decode c_Z_reachFromWordsOf 9 = .ok (.if_icmp .gt 23, 3) := by decide +kernel
theorem d_Z_reachFromWordsOf_12 : decode c_Z_reachFromWordsOf 12 = .ok (.aload_n 0, 1) := by decide +kernel
theorem d_Z_reachFromWordsOf_13 : decode c_Z_reachFromWordsOf 13 = .ok (.aload_n 0, 1) := by decide +kernel
theorem d_Z_reachFromWordsOf_14 : decode c_Z_reachFromWordsOf 14 = .ok (.aload_n 1, 1) := by decide +kernel
theorem d_Z_reachFromWordsOf_15 : decode c_Z_reachFromWordsOf 15 = .ok (.getfield 60, 3) := by decide +kernel
theorem d_Z_reachFromWordsOf_18 : decode c_Z_reachFromWordsOf 18 = .ok (.iload_n 2, 1) := by decide +kernel
theorem d_Z_reachFromWordsOf_19 : decode c_Z_reachFromWordsOf 19 = .ok (.iadd, 1) := by decide +kernel
theorem d_Z_reachFromWordsOf_20 : decode c_Z_reachFromWordsOf 20 = .ok (.invokevirtual 105, 3) := by decide +kernel
theorem d_Z_reachFromWordsOf_23 : decode c_Z_reachFromWordsOf 23 = .ok (.invokevirtual 112, 3) := by decide +kernel
theorem d_Z_reachFromWordsOf_26 : decode c_Z_reachFromWordsOf 26 = .ok (.iinc 2 4, 3) := by decide +kernel
theorem d_Z_reachFromWordsOf_29 : decode c_Z_reachFromWordsOf 29 = .ok (.goto (-27), 3) := by decide +kernel
theorem d_Z_reachFromWordsOf_32 : decode c_Z_reachFromWordsOf 32 = .ok (.return_, 1) := by decide +kernel
theorem d_Z_wordAt_0 : decode c_Z_wordAt 0 = .ok (.iconst 0, 1) := by decide +kernel
theorem d_Z_wordAt_1 : decode c_Z_wordAt 1 = .ok (.istore_n 2, 1) := by decide +kernel
theorem d_Z_wordAt_2 : decode c_Z_wordAt 2 = .ok (.iconst 0, 1) := by decide +kernel
theorem d_Z_wordAt_3 : decode c_Z_wordAt 3 = .ok (.istore_n 3, 1) := by decide +kernel
theorem d_Z_wordAt_4 : decode c_Z_wordAt 4 = .ok (.iload_n 3, 1) := by decide +kernel
theorem d_Z_wordAt_5 : decode c_Z_wordAt 5 = .ok (.iconst 4, 1) := by decide +kernel
theorem d_Z_wordAt_6 : decode c_Z_wordAt 6 = .ok (.if_icmp .ge 29, 3) := by decide +kernel
theorem d_Z_wordAt_9 : decode c_Z_wordAt 9 = .ok (.iload_n 2, 1) := by decide +kernel
theorem d_Z_wordAt_10 : decode c_Z_wordAt 10 = .ok (.aload_n 0, 1) := by decide +kernel
theorem d_Z_wordAt_11 : decode c_Z_wordAt 11 = .ok (.getfield 9, 3) := by decide +kernel
theorem d_Z_wordAt_14 : decode c_Z_wordAt 14 = .ok (.iload_n 1, 1) := by decide +kernel
theorem d_Z_wordAt_15 : decode c_Z_wordAt 15 = .ok (.iload_n 3, 1) := by decide +kernel
theorem d_Z_wordAt_16 : decode c_Z_wordAt 16 = .ok (.iadd, 1) := by decide +kernel
theorem d_Z_wordAt_17 : decode c_Z_wordAt 17 = .ok (.baload, 1) := by decide +kernel
theorem d_Z_wordAt_18 : decode c_Z_wordAt 18 = .ok (.sipush 255, 3) := by decide +kernel
theorem d_Z_wordAt_21 : decode c_Z_wordAt 21 = .ok (.iand, 1) := by decide +kernel
theorem d_Z_wordAt_22 : decode c_Z_wordAt 22 = .ok (.bipush 8, 2) := by decide +kernel
theorem d_Z_wordAt_24 : decode c_Z_wordAt 24 = .ok (.iload_n 3, 1) := by decide +kernel
theorem d_Z_wordAt_25 : decode c_Z_wordAt 25 = .ok (.imul, 1) := by decide +kernel
theorem d_Z_wordAt_26 : decode c_Z_wordAt 26 = .ok (.ishl, 1) := by decide +kernel
theorem d_Z_wordAt_27 : decode c_Z_wordAt 27 = .ok (.ior, 1) := by decide +kernel
theorem d_Z_wordAt_28 : decode c_Z_wordAt 28 = .ok (.istore_n 2, 1) := by decide +kernel
theorem d_Z_wordAt_29 : decode c_Z_wordAt 29 = .ok (.iinc 3 1, 3) := by decide +kernel
theorem d_Z_wordAt_32 : decode c_Z_wordAt 32 = .ok (.goto (-28), 3) := by decide +kernel
theorem d_Z_wordAt_35 : decode c_Z_wordAt 35 = .ok (.iload_n 2, 1) := by decide +kernel
theorem d_Z_wordAt_36 : decode c_Z_wordAt 36 = .ok (.ireturn, 1) := by decide +kernel
theorem d_Z_noteLost_0 : decode c_Z_noteLost 0 = .ok (.aload_n 0, 1) := by decide +kernel
theorem d_Z_noteLost_1 : decode c_Z_noteLost 1 = .ok (.iconst 0, 1) := by decide +kernel
theorem d_Z_noteLost_2 : decode c_Z_noteLost 2 = .ok (.putfield 49, 3) := by decide +kernel
theorem d_Z_noteLost_5 : decode c_Z_noteLost 5 = .ok (.iconst 0, 1) := by decide +kernel
theorem d_Z_noteLost_6 : decode c_Z_noteLost 6 = .ok (.istore_n 1, 1) := by decide +kernel
theorem d_Z_noteLost_7 : decode c_Z_noteLost 7 = .ok (.iload_n 1, 1) := by decide +kernel
theorem d_Z_noteLost_8 : decode c_Z_noteLost 8 = .ok (.sipush 512, 3) := by decide +kernel
theorem d_Z_noteLost_11 : decode c_Z_noteLost 11 = .ok (.if_icmp .ge 69, 3) := by decide +kernel
theorem d_Z_noteLost_14 : decode c_Z_noteLost 14 = .ok (.aload_n 0, 1) := by decide +kernel
theorem d_Z_noteLost_15 : decode c_Z_noteLost 15 = .ok (.iload_n 1, 1) := by decide +kernel
theorem d_Z_noteLost_16 : decode c_Z_noteLost 16 = .ok (.bipush 16, 2) := by decide +kernel
theorem d_Z_noteLost_18 : decode c_Z_noteLost 18 = .ok (.imul, 1) := by decide +kernel
theorem d_Z_noteLost_19 : decode c_Z_noteLost 19 = .ok (.invokevirtual 150, 3) := by decide +kernel
theorem d_Z_noteLost_22 : decode c_Z_noteLost 22 = .ok (.astore_n 2, 1) := by decide +kernel
theorem d_Z_noteLost_23 : decode c_Z_noteLost 23 = .ok (.aload_n 2, 1) := by decide +kernel
theorem d_Z_noteLost_24 : decode c_Z_noteLost 24 = .ok (.ifnull 50, 3) := by decide +kernel
theorem d_Z_noteLost_27 : decode c_Z_noteLost 27 = .ok (.aload_n 2, 1) := by decide +kernel
theorem d_Z_noteLost_28 : decode c_Z_noteLost 28 = .ok (.getfield 95, 3) := by decide +kernel
theorem d_Z_noteLost_31 : decode c_Z_noteLost 31 = .ok (.ifCond .ne 43, 3) := by decide +kernel
theorem d_Z_noteLost_34 : decode c_Z_noteLost 34 = .ok (.aload_n 2, 1) := by decide +kernel
theorem d_Z_noteLost_35 : decode c_Z_noteLost 35 = .ok (.getfield 188, 3) := by decide +kernel
theorem d_Z_noteLost_38 : decode c_Z_noteLost 38 = .ok (.ifCond .ne 36, 3) := by decide +kernel
theorem d_Z_noteLost_41 : decode c_Z_noteLost 41 = .ok (.aload_n 0, 1) := by decide +kernel
theorem d_Z_noteLost_42 : decode c_Z_noteLost 42 = .ok (.getfield 49, 3) := by decide +kernel
theorem d_Z_noteLost_45 : decode c_Z_noteLost 45 = .ok (.sipush 255, 3) := by decide +kernel
theorem d_Z_noteLost_48 : decode c_Z_noteLost 48 = .ok (.if_icmp .ge 26, 3) := by decide +kernel
theorem d_Z_noteLost_51 : decode c_Z_noteLost 51 = .ok (.aload_n 0, 1) := by decide +kernel
theorem d_Z_noteLost_52 : decode c_Z_noteLost 52 = .ok (.getfield 45, 3) := by decide +kernel
theorem d_Z_noteLost_55 : decode c_Z_noteLost 55 = .ok (.aload_n 0, 1) := by decide +kernel
theorem d_Z_noteLost_56 : decode c_Z_noteLost 56 = .ok (.getfield 49, 3) := by decide +kernel
theorem d_Z_noteLost_59 : decode c_Z_noteLost 59 = .ok (.aload_n 2, 1) := by decide +kernel
theorem d_Z_noteLost_60 : decode c_Z_noteLost 60 = .ok (.getfield 60, 3) := by decide +kernel
theorem d_Z_noteLost_63 : decode c_Z_noteLost 63 = .ok (.iastore, 1) := by decide +kernel
theorem d_Z_noteLost_64 : decode c_Z_noteLost 64 = .ok (.aload_n 0, 1) := by decide +kernel
theorem d_Z_noteLost_65 : decode c_Z_noteLost 65 = .ok (.dup, 1) := by decide +kernel
theorem d_Z_noteLost_66 : decode c_Z_noteLost 66 = .ok (.getfield 49, 3) := by decide +kernel
theorem d_Z_noteLost_69 : decode c_Z_noteLost 69 = .ok (.iconst 1, 1) := by decide +kernel
theorem d_Z_noteLost_70 : decode c_Z_noteLost 70 = .ok (.iadd, 1) := by decide +kernel
theorem d_Z_noteLost_71 : decode c_Z_noteLost 71 = .ok (.putfield 49, 3) := by decide +kernel
theorem d_Z_noteLost_74 : decode c_Z_noteLost 74 = .ok (.iinc 1 1, 3) := by decide +kernel
theorem d_Z_noteLost_77 : decode c_Z_noteLost 77 = .ok (.goto (-70), 3) := by decide +kernel
theorem d_Z_noteLost_80 : decode c_Z_noteLost 80 = .ok (.return_, 1) := by decide +kernel
theorem d_Z_get_0 : decode c_Z_get 0 = .ok (.iload_n 1, 1) := by decide +kernel
theorem d_Z_get_1 : decode c_Z_get 1 = .ok (.invokestatic 52, 3) := by decide +kernel
theorem d_Z_get_4 : decode c_Z_get 4 = .ok (.aload_n 0, 1) := by decide +kernel
theorem d_Z_get_5 : decode c_Z_get 5 = .ok (.iload_n 1, 1) := by decide +kernel
theorem d_Z_get_6 : decode c_Z_get 6 = .ok (.invokevirtual 56, 3) := by decide +kernel
theorem d_Z_get_9 : decode c_Z_get 9 = .ok (.astore_n 2, 1) := by decide +kernel
theorem d_Z_get_10 : decode c_Z_get 10 = .ok (.aload_n 2, 1) := by decide +kernel
theorem d_Z_get_11 : decode c_Z_get 11 = .ok (.ifnonnull 7, 3) := by decide +kernel
theorem d_Z_get_14 : decode c_Z_get 14 = .ok (.iconst 0, 1) := by decide +kernel
theorem d_Z_get_15 : decode c_Z_get 15 = .ok (.goto 7, 3) := by decide +kernel
theorem d_Z_get_18 : decode c_Z_get 18 = .ok (.aload_n 2, 1) := by decide +kernel
theorem d_Z_get_19 : decode c_Z_get 19 = .ok (.getfield 60, 3) := by decide +kernel
theorem d_Z_get_22 : decode c_Z_get 22 = .ok (.ireturn, 1) := by decide +kernel
theorem d_Z_refuseWrongSize_0 : decode c_Z_refuseWrongSize 0 = .ok (.iload_n 0, 1) := by decide +kernel
theorem d_Z_refuseWrongSize_1 : decode c_Z_refuseWrongSize 1 = .ok (.ifCond .lt 10, 3) := by decide +kernel
theorem d_Z_refuseWrongSize_4 : decode c_Z_refuseWrongSize 4 = .ok (.iload_n 0, 1) := by decide +kernel
theorem d_Z_refuseWrongSize_5 : decode c_Z_refuseWrongSize 5 = .ok (.sipush 2048, 3) := by decide +kernel
theorem d_Z_refuseWrongSize_8 : decode c_Z_refuseWrongSize 8 = .ok (.if_icmp .le 13, 3) := by decide +kernel
theorem d_Z_refuseWrongSize_11 : decode c_Z_refuseWrongSize 11 = .ok (.new 131, 3) := by decide +kernel
theorem d_Z_refuseWrongSize_14 : decode c_Z_refuseWrongSize 14 = .ok (.dup, 1) := by decide +kernel
theorem d_Z_refuseWrongSize_15 : decode c_Z_refuseWrongSize 15 = .ok (.ldc 136, 2) := by decide +kernel
theorem d_Z_refuseWrongSize_17 : decode c_Z_refuseWrongSize 17 = .ok (.invokespecial 135, 3) := by decide +kernel
theorem d_Z_refuseWrongSize_20 : decode c_Z_refuseWrongSize 20 = .ok (.athrow, 1) := by decide +kernel
theorem d_Z_refuseWrongSize_21 : decode c_Z_refuseWrongSize 21 = .ok (.return_, 1) := by decide +kernel
theorem d_Z_make_0 : decode c_Z_make 0 = .ok (.aload_n 0, 1) := by decide +kernel
theorem d_Z_make_1 : decode c_Z_make 1 = .ok (.iload_n 1, 1) := by decide +kernel
theorem d_Z_make_2 : decode c_Z_make 2 = .ok (.invokestatic 157, 3) := by decide +kernel
theorem d_Z_make_5 : decode c_Z_make 5 = .ok (.invokevirtual 160, 3) := by decide +kernel
theorem d_Z_make_8 : decode c_Z_make 8 = .ok (.istore_n 2, 1) := by decide +kernel
theorem d_Z_make_9 : decode c_Z_make 9 = .ok (.iload_n 2, 1) := by decide +kernel
theorem d_Z_make_10 : decode c_Z_make 10 = .ok (.iconst (-1), 1) := by decide +kernel
theorem d_Z_make_11 : decode c_Z_make 11 = .ok (.if_icmp .ne 5, 3) := by decide +kernel
theorem d_Z_make_14 : decode c_Z_make 14 = .ok (.aconst_null, 1) := by decide +kernel
theorem d_Z_make_15 : decode c_Z_make 15 = .ok (.areturn, 1) := by decide +kernel
theorem d_Z_make_16 : decode c_Z_make 16 = .ok (.new 13, 3) := by decide +kernel
theorem d_Z_make_19 : decode c_Z_make 19 = .ok (.dup, 1) := by decide +kernel
theorem d_Z_make_20 : decode c_Z_make 20 = .ok (.iload_n 2, 1) := by decide +kernel
theorem d_Z_make_21 : decode c_Z_make 21 = .ok (.bipush 16, 2) := by decide +kernel
theorem d_Z_make_23 : decode c_Z_make 23 = .ok (.imul, 1) := by decide +kernel
theorem d_Z_make_24 : decode c_Z_make 24 = .ok (.iload_n 1, 1) := by decide +kernel
theorem d_Z_make_25 : decode c_Z_make 25 = .ok (.invokespecial 163, 3) := by decide +kernel
theorem d_Z_make_28 : decode c_Z_make 28 = .ok (.astore_n 3, 1) := by decide +kernel
theorem d_Z_make_29 : decode c_Z_make 29 = .ok (.aload_n 0, 1) := by decide +kernel
theorem d_Z_make_30 : decode c_Z_make 30 = .ok (.aload_n 3, 1) := by decide +kernel
theorem d_Z_make_31 : decode c_Z_make 31 = .ok (.aload_n 3, 1) := by decide +kernel
theorem d_Z_make_32 : decode c_Z_make 32 = .ok (.invokevirtual 166, 3) := by decide +kernel
theorem d_Z_make_35 : decode c_Z_make 35 = .ok (.aload_n 0, 1) := by decide +kernel
theorem d_Z_make_36 : decode c_Z_make 36 = .ok (.dup, 1) := by decide +kernel
theorem d_Z_make_37 : decode c_Z_make 37 = .ok (.getfield 30, 3) := by decide +kernel
theorem d_Z_make_40 : decode c_Z_make 40 = .ok (.iconst 1, 1) := by decide +kernel
theorem d_Z_make_41 : decode c_Z_make 41 = .ok (.iadd, 1) := by decide +kernel
theorem d_Z_make_42 : decode c_Z_make 42 = .ok (.putfield 30, 3) := by decide +kernel
theorem d_Z_make_45 : decode c_Z_make 45 = .ok (.aload_n 0, 1) := by decide +kernel
theorem d_Z_make_46 : decode c_Z_make 46 = .ok (.dup, 1) := by decide +kernel
theorem d_Z_make_47 : decode c_Z_make 47 = .ok (.getfield 33, 3) := by decide +kernel
theorem d_Z_make_50 : decode c_Z_make 50 = .ok (.iload_n 1, 1) := by decide +kernel
theorem d_Z_make_51 : decode c_Z_make 51 = .ok (.iadd, 1) := by decide +kernel
theorem d_Z_make_52 : decode c_Z_make 52 = .ok (.putfield 33, 3) := by decide +kernel
theorem d_Z_make_55 : decode c_Z_make 55 = .ok (.aload_n 0, 1) := by decide +kernel
theorem d_Z_make_56 : decode c_Z_make 56 = .ok (.dup, 1) := by decide +kernel
theorem d_Z_make_57 : decode c_Z_make 57 = .ok (.getfield 36, 3) := by decide +kernel
theorem d_Z_make_60 : decode c_Z_make 60 = .ok (.iconst 1, 1) := by decide +kernel
theorem d_Z_make_61 : decode c_Z_make 61 = .ok (.iadd, 1) := by decide +kernel
theorem d_Z_make_62 : decode c_Z_make 62 = .ok (.putfield 36, 3) := by decide +kernel
theorem d_Z_make_65 : decode c_Z_make 65 = .ok (.aload_n 3, 1) := by decide +kernel
theorem d_Z_make_66 : decode c_Z_make 66 = .ok (.areturn, 1) := by decide +kernel
theorem d_Z_cellsFor_0 : decode c_Z_cellsFor 0 = .ok (.iconst 1, 1) := by decide +kernel
theorem d_Z_cellsFor_1 : decode c_Z_cellsFor 1 = .ok (.iload_n 0, 1) := by decide +kernel
theorem d_Z_cellsFor_2 : decode c_Z_cellsFor 2 = .ok (.bipush 16, 2) := by decide +kernel
theorem d_Z_cellsFor_4 : decode c_Z_cellsFor 4 = .ok (.iadd, 1) := by decide +kernel
theorem d_Z_cellsFor_5 : decode c_Z_cellsFor 5 = .ok (.iconst 1, 1) := by decide +kernel
theorem d_Z_cellsFor_6 : decode c_Z_cellsFor 6 = .ok (.isub, 1) := by decide +kernel
theorem d_Z_cellsFor_7 : decode c_Z_cellsFor 7 = .ok (.bipush 16, 2) := by decide +kernel
theorem d_Z_cellsFor_9 : decode c_Z_cellsFor 9 = .ok (.idiv, 1) := by decide +kernel
theorem d_Z_cellsFor_10 : decode c_Z_cellsFor 10 = .ok (.invokestatic 170, 3) := by decide +kernel
theorem d_Z_cellsFor_13 : decode c_Z_cellsFor 13 = .ok (.ireturn, 1) := by decide +kernel
theorem d_Z_firstRoomFor_0 : decode c_Z_firstRoomFor 0 = .ok (.iconst 0, 1) := by decide +kernel
theorem d_Z_firstRoomFor_1 : decode c_Z_firstRoomFor 1 = .ok (.istore_n 2, 1) := by decide +kernel
theorem d_Z_firstRoomFor_2 : decode c_Z_firstRoomFor 2 = .ok (.iconst 0, 1) := by decide +kernel
theorem d_Z_firstRoomFor_3 : decode c_Z_firstRoomFor 3 = .ok (.istore_n 3, 1) := by decide +kernel
theorem d_Z_firstRoomFor_4 : decode c_Z_firstRoomFor 4 = .ok (.iload_n 3, 1) := by decide +kernel
theorem d_Z_firstRoomFor_5 : decode c_Z_firstRoomFor 5 = .ok (.sipush 512, 3) := by decide +kernel
theorem d_Z_firstRoomFor_8 : decode c_Z_firstRoomFor 8 = .ok (.if_icmp .ge 37, 3) := by decide +kernel
theorem d_Z_firstRoomFor_11 : decode c_Z_firstRoomFor 11 = .ok (.aload_n 0, 1) := by decide +kernel
theorem d_Z_firstRoomFor_12 : decode c_Z_firstRoomFor 12 = .ok (.getfield 15, 3) := by decide +kernel
theorem d_Z_firstRoomFor_15 : decode c_Z_firstRoomFor 15 = .ok (.iload_n 3, 1) := by decide +kernel
theorem d_Z_firstRoomFor_16 : decode c_Z_firstRoomFor 16 = .ok (.aaload, 1) := by decide +kernel
theorem d_Z_firstRoomFor_17 : decode c_Z_firstRoomFor 17 = .ok (.ifnonnull 9, 3) := by decide +kernel
theorem d_Z_firstRoomFor_20 : decode c_Z_firstRoomFor 20 = .ok (.iload_n 2, 1) := by decide +kernel
theorem d_Z_firstRoomFor_21 : decode c_Z_firstRoomFor 21 = .ok (.iconst 1, 1) := by decide +kernel
theorem d_Z_firstRoomFor_22 : decode c_Z_firstRoomFor 22 = .ok (.iadd, 1) := by decide +kernel
theorem d_Z_firstRoomFor_23 : decode c_Z_firstRoomFor 23 = .ok (.goto 4, 3) := by decide +kernel
theorem d_Z_firstRoomFor_26 : decode c_Z_firstRoomFor 26 = .ok (.iconst 0, 1) := by decide +kernel
theorem d_Z_firstRoomFor_27 : decode c_Z_firstRoomFor 27 = .ok (.istore_n 2, 1) := by decide +kernel
theorem d_Z_firstRoomFor_28 : decode c_Z_firstRoomFor 28 = .ok (.iload_n 2, 1) := by decide +kernel
theorem d_Z_firstRoomFor_29 : decode c_Z_firstRoomFor 29 = .ok (.iload_n 1, 1) := by decide +kernel
theorem d_Z_firstRoomFor_30 : decode c_Z_firstRoomFor 30 = .ok (.iconst 2, 1) := by decide +kernel
theorem d_Z_firstRoomFor_31 : decode c_Z_firstRoomFor 31 = .ok (.iadd, 1) := by decide +kernel
theorem d_Z_firstRoomFor_32 : decode c_Z_firstRoomFor 32 = .ok (.if_icmp .ne 7, 3) := by decide +kernel
theorem d_Z_firstRoomFor_35 : decode c_Z_firstRoomFor 35 = .ok (.iload_n 3, 1) := by decide +kernel
theorem d_Z_firstRoomFor_36 : decode c_Z_firstRoomFor 36 = .ok (.iload_n 1, 1) := by decide +kernel
theorem d_Z_firstRoomFor_37 : decode c_Z_firstRoomFor 37 = .ok (.isub, 1) := by decide +kernel
theorem d_Z_firstRoomFor_38 : decode c_Z_firstRoomFor 38 = .ok (.ireturn, 1) := by decide +kernel
theorem d_Z_firstRoomFor_39 : decode c_Z_firstRoomFor 39 = .ok (.iinc 3 1, 3) := by decide +kernel
theorem d_Z_firstRoomFor_42 : decode c_Z_firstRoomFor 42 = .ok (.goto (-38), 3) := by decide +kernel
theorem d_Z_firstRoomFor_45 : decode c_Z_firstRoomFor 45 = .ok (.iconst (-1), 1) := by decide +kernel
theorem d_Z_firstRoomFor_46 : decode c_Z_firstRoomFor 46 = .ok (.ireturn, 1) := by decide +kernel
theorem d_B_init_0 : decode c_B_init 0 = .ok (.aload_n 0, 1) := by decide +kernel
theorem d_B_init_1 : decode c_B_init 1 = .ok (.invokespecial 1, 3) := by decide +kernel
theorem d_B_init_4 : decode c_B_init 4 = .ok (.aload_n 0, 1) := by decide +kernel
theorem d_B_init_5 : decode c_B_init 5 = .ok (.iconst 0, 1) := by decide +kernel
theorem d_B_init_6 : decode c_B_init 6 = .ok (.putfield 7, 3) := by decide +kernel
theorem d_B_init_9 : decode c_B_init 9 = .ok (.aload_n 0, 1) := by decide +kernel
theorem d_B_init_10 : decode c_B_init 10 = .ok (.iconst 0, 1) := by decide +kernel
theorem d_B_init_11 : decode c_B_init 11 = .ok (.putfield 13, 3) := by decide +kernel
theorem d_B_init_14 : decode c_B_init 14 = .ok (.aload_n 0, 1) := by decide +kernel
theorem d_B_init_15 : decode c_B_init 15 = .ok (.iload_n 1, 1) := by decide +kernel
theorem d_B_init_16 : decode c_B_init 16 = .ok (.putfield 16, 3) := by decide +kernel
theorem d_B_init_19 : decode c_B_init 19 = .ok (.aload_n 0, 1) := by decide +kernel
theorem d_B_init_20 : decode c_B_init 20 = .ok (.iload_n 2, 1) := by decide +kernel
theorem d_B_init_21 : decode c_B_init 21 = .ok (.putfield 20, 3) := by decide +kernel
theorem d_B_init_24 : decode c_B_init 24 = .ok (.return_, 1) := by decide +kernel
theorem d_Z_setTaker_0 : decode c_Z_setTaker 0 = .ok (.aload_n 1, 1) := by decide +kernel
theorem d_Z_setTaker_1 : decode c_Z_setTaker 1 = .ok (.getfield 60, 3) := by decide +kernel
theorem d_Z_setTaker_4 : decode c_Z_setTaker 4 = .ok (.bipush 16, 2) := by decide +kernel
theorem d_Z_setTaker_6 : decode c_Z_setTaker 6 = .ok (.idiv, 1) := by decide +kernel
theorem d_Z_setTaker_7 : decode c_Z_setTaker 7 = .ok (.istore_n 3, 1) := by decide +kernel
theorem d_Z_setTaker_8 : decode c_Z_setTaker 8 = .ok (.iload_n 3, 1) := by decide +kernel
theorem d_Z_setTaker_9 : decode c_Z_setTaker 9 = .ok (.aload_n 1, 1) := by decide +kernel
theorem d_Z_setTaker_10 : decode c_Z_setTaker 10 = .ok (.getfield 70, 3) := by decide +kernel
theorem d_Z_setTaker_13 : decode c_Z_setTaker 13 = .ok (.invokestatic 157, 3) := by decide +kernel
theorem d_Z_setTaker_16 : decode c_Z_setTaker 16 = .ok (.iadd, 1) := by decide +kernel
theorem d_Z_setTaker_17 : decode c_Z_setTaker 17 = .ok (.istore 4, 2) := by decide +kernel
theorem d_Z_setTaker_19 : decode c_Z_setTaker 19 = .ok (.iload_n 3, 1) := by decide +kernel
theorem d_Z_setTaker_20 : decode c_Z_setTaker 20 = .ok (.istore 5, 2) := by decide +kernel
theorem d_Z_setTaker_22 : decode c_Z_setTaker 22 = .ok (.iload 5, 2) := by decide +kernel
theorem d_Z_setTaker_24 : decode c_Z_setTaker 24 = .ok (.iload 4, 2) := by decide +kernel
theorem d_Z_setTaker_26 : decode c_Z_setTaker 26 = .ok (.if_icmp .ge 25, 3) := by decide +kernel
theorem d_Z_setTaker_29 : decode c_Z_setTaker 29 = .ok (.iload 5, 2) := by decide +kernel
theorem d_Z_setTaker_31 : decode c_Z_setTaker 31 = .ok (.sipush 512, 3) := by decide +kernel
theorem d_Z_setTaker_34 : decode c_Z_setTaker 34 = .ok (.if_icmp .ge 17, 3) := by decide +kernel
theorem d_Z_setTaker_37 : decode c_Z_setTaker 37 = .ok (.aload_n 0, 1) := by decide +kernel
theorem d_Z_setTaker_38 : decode c_Z_setTaker 38 = .ok (.getfield 15, 3) := by decide +kernel
theorem d_Z_setTaker_41 : decode c_Z_setTaker 41 = .ok (.iload 5, 2) := by decide +kernel
theorem d_Z_setTaker_43 : decode c_Z_setTaker 43 = .ok (.aload_n 2, 1) := by decide +kernel
theorem d_Z_setTaker_44 : decode c_Z_setTaker 44 = .ok (.aastore, 1) := by decide +kernel
theorem d_Z_setTaker_45 : decode c_Z_setTaker 45 = .ok (.iinc 5 1, 3) := by decide +kernel
theorem d_Z_setTaker_48 : decode c_Z_setTaker 48 = .ok (.goto (-26), 3) := by decide +kernel
theorem d_Z_setTaker_51 : decode c_Z_setTaker 51 = .ok (.return_, 1) := by decide +kernel
theorem d_Z_back_0 : decode c_Z_back 0 = .ok (.aload_n 0, 1) := by decide +kernel
theorem d_Z_back_1 : decode c_Z_back 1 = .ok (.iload_n 1, 1) := by decide +kernel
theorem d_Z_back_2 : decode c_Z_back 2 = .ok (.invokevirtual 63, 3) := by decide +kernel
theorem d_Z_back_5 : decode c_Z_back 5 = .ok (.astore_n 2, 1) := by decide +kernel
theorem d_Z_back_6 : decode c_Z_back 6 = .ok (.aload_n 0, 1) := by decide +kernel
theorem d_Z_back_7 : decode c_Z_back 7 = .ok (.aload_n 2, 1) := by decide +kernel
theorem d_Z_back_8 : decode c_Z_back 8 = .ok (.invokevirtual 66, 3) := by decide +kernel
theorem d_Z_back_11 : decode c_Z_back 11 = .ok (.aload_n 2, 1) := by decide +kernel
theorem d_Z_back_12 : decode c_Z_back 12 = .ok (.getfield 70, 3) := by decide +kernel
theorem d_Z_back_15 : decode c_Z_back 15 = .ok (.ireturn, 1) := by decide +kernel
theorem d_Z_liveStandingAt_0 : decode c_Z_liveStandingAt 0 = .ok (.aload_n 0, 1) := by decide +kernel
theorem d_Z_liveStandingAt_1 : decode c_Z_liveStandingAt 1 = .ok (.iload_n 1, 1) := by decide +kernel
theorem d_Z_liveStandingAt_2 : decode c_Z_liveStandingAt 2 = .ok (.invokevirtual 150, 3) := by decide +kernel
theorem d_Z_liveStandingAt_5 : decode c_Z_liveStandingAt 5 = .ok (.astore_n 2, 1) := by decide +kernel
theorem d_Z_liveStandingAt_6 : decode c_Z_liveStandingAt 6 = .ok (.aload_n 2, 1) := by decide +kernel
theorem d_Z_liveStandingAt_7 : decode c_Z_liveStandingAt 7 = .ok (.ifnonnull 13, 3) := by decide +kernel
theorem d_Z_liveStandingAt_10 : decode c_Z_liveStandingAt 10 = .ok (.new 131, 3) := by decide +kernel
theorem d_Z_liveStandingAt_13 : decode c_Z_liveStandingAt 13 = .ok (.dup, 1) := by decide +kernel
theorem d_Z_liveStandingAt_14 : decode c_Z_liveStandingAt 14 = .ok (.ldc 153, 2) := by decide +kernel
theorem d_Z_liveStandingAt_16 : decode c_Z_liveStandingAt 16 = .ok (.invokespecial 135, 3) := by decide +kernel
theorem d_Z_liveStandingAt_19 : decode c_Z_liveStandingAt 19 = .ok (.athrow, 1) := by decide +kernel
theorem d_Z_liveStandingAt_20 : decode c_Z_liveStandingAt 20 = .ok (.aload_n 2, 1) := by decide +kernel
theorem d_Z_liveStandingAt_21 : decode c_Z_liveStandingAt 21 = .ok (.getfield 95, 3) := by decide +kernel
theorem d_Z_liveStandingAt_24 : decode c_Z_liveStandingAt 24 = .ok (.ifCond .eq 13, 3) := by decide +kernel
theorem d_Z_liveStandingAt_27 : decode c_Z_liveStandingAt 27 = .ok (.new 145, 3) := by decide +kernel
theorem d_Z_liveStandingAt_30 : decode c_Z_liveStandingAt 30 = .ok (.dup, 1) := by decide +kernel
theorem d_Z_liveStandingAt_31 : decode c_Z_liveStandingAt 31 = .ok (.ldc 155, 2) := by decide +kernel
theorem d_Z_liveStandingAt_33 : decode c_Z_liveStandingAt 33 = .ok (.invokespecial 149, 3) := by decide +kernel
theorem d_Z_liveStandingAt_36 : decode c_Z_liveStandingAt 36 = .ok (.athrow, 1) := by decide +kernel
theorem d_Z_liveStandingAt_37 : decode c_Z_liveStandingAt 37 = .ok (.aload_n 2, 1) := by decide +kernel
theorem d_Z_liveStandingAt_38 : decode c_Z_liveStandingAt 38 = .ok (.areturn, 1) := by decide +kernel
theorem d_Z_giveBack_0 : decode c_Z_giveBack 0 = .ok (.aload_n 1, 1) := by decide +kernel
theorem d_Z_giveBack_1 : decode c_Z_giveBack 1 = .ok (.iconst 1, 1) := by decide +kernel
theorem d_Z_giveBack_2 : decode c_Z_giveBack 2 = .ok (.putfield 95, 3) := by decide +kernel
theorem d_Z_giveBack_5 : decode c_Z_giveBack 5 = .ok (.aload_n 0, 1) := by decide +kernel
theorem d_Z_giveBack_6 : decode c_Z_giveBack 6 = .ok (.dup, 1) := by decide +kernel
theorem d_Z_giveBack_7 : decode c_Z_giveBack 7 = .ok (.getfield 30, 3) := by decide +kernel
theorem d_Z_giveBack_10 : decode c_Z_giveBack 10 = .ok (.iconst 1, 1) := by decide +kernel
theorem d_Z_giveBack_11 : decode c_Z_giveBack 11 = .ok (.isub, 1) := by decide +kernel
theorem d_Z_giveBack_12 : decode c_Z_giveBack 12 = .ok (.putfield 30, 3) := by decide +kernel
theorem d_Z_giveBack_15 : decode c_Z_giveBack 15 = .ok (.aload_n 0, 1) := by decide +kernel
theorem d_Z_giveBack_16 : decode c_Z_giveBack 16 = .ok (.dup, 1) := by decide +kernel
theorem d_Z_giveBack_17 : decode c_Z_giveBack 17 = .ok (.getfield 33, 3) := by decide +kernel
theorem d_Z_giveBack_20 : decode c_Z_giveBack 20 = .ok (.aload_n 1, 1) := by decide +kernel
theorem d_Z_giveBack_21 : decode c_Z_giveBack 21 = .ok (.getfield 70, 3) := by decide +kernel
theorem d_Z_giveBack_24 : decode c_Z_giveBack 24 = .ok (.isub, 1) := by decide +kernel
theorem d_Z_giveBack_25 : decode c_Z_giveBack 25 = .ok (.putfield 33, 3) := by decide +kernel
theorem d_Z_giveBack_28 : decode c_Z_giveBack 28 = .ok (.aload_n 0, 1) := by decide +kernel
theorem d_Z_giveBack_29 : decode c_Z_giveBack 29 = .ok (.getfield 22, 3) := by decide +kernel
theorem d_Z_giveBack_32 : decode c_Z_giveBack 32 = .ok (.aload_n 1, 1) := by decide +kernel
theorem d_Z_giveBack_33 : decode c_Z_giveBack 33 = .ok (.invokevirtual 173, 3) := by decide +kernel
theorem d_Z_giveBack_36 : decode c_Z_giveBack 36 = .ok (.pop, 1) := by decide +kernel
theorem d_Z_giveBack_37 : decode c_Z_giveBack 37 = .ok (.aload_n 0, 1) := by decide +kernel
theorem d_Z_giveBack_38 : decode c_Z_giveBack 38 = .ok (.dup, 1) := by decide +kernel
theorem d_Z_giveBack_39 : decode c_Z_giveBack 39 = .ok (.getfield 26, 3) := by decide +kernel
theorem d_Z_giveBack_42 : decode c_Z_giveBack 42 = .ok (.aload_n 1, 1) := by decide +kernel
theorem d_Z_giveBack_43 : decode c_Z_giveBack 43 = .ok (.getfield 70, 3) := by decide +kernel
theorem d_Z_giveBack_46 : decode c_Z_giveBack 46 = .ok (.iadd, 1) := by decide +kernel
theorem d_Z_giveBack_47 : decode c_Z_giveBack 47 = .ok (.putfield 26, 3) := by decide +kernel
theorem d_Z_giveBack_50 : decode c_Z_giveBack 50 = .ok (.aload_n 0, 1) := by decide +kernel
theorem d_Z_giveBack_51 : decode c_Z_giveBack 51 = .ok (.getfield 22, 3) := by decide +kernel
theorem d_Z_giveBack_54 : decode c_Z_giveBack 54 = .ok (.invokevirtual 128, 3) := by decide +kernel
theorem d_Z_giveBack_57 : decode c_Z_giveBack 57 = .ok (.istore_n 2, 1) := by decide +kernel
theorem d_Z_giveBack_58 : decode c_Z_giveBack 58 = .ok (.iload_n 2, 1) := by decide +kernel
theorem d_Z_giveBack_59 : decode c_Z_giveBack 59 = .ok (.ifCond .le 23, 3) := by decide +kernel
theorem d_Z_giveBack_62 : decode c_Z_giveBack 62 = .ok (.aload_n 0, 1) := by decide +kernel
theorem d_Z_giveBack_63 : decode c_Z_giveBack 63 = .ok (.getfield 26, 3) := by decide +kernel
theorem d_Z_giveBack_66 : decode c_Z_giveBack 66 = .ok (.sipush 512, 3) := by decide +kernel
theorem d_Z_giveBack_69 : decode c_Z_giveBack 69 = .ok (.if_icmp .le 13, 3) := by decide +kernel
theorem d_Z_giveBack_72 : decode c_Z_giveBack 72 = .ok (.aload_n 0, 1) := by decide +kernel
theorem d_Z_giveBack_73 : decode c_Z_giveBack 73 = .ok (.invokevirtual 177, 3) := by decide +kernel
theorem d_Z_giveBack_76 : decode c_Z_giveBack 76 = .ok (.iinc 2 (-1), 3) := by decide +kernel
theorem d_Z_giveBack_79 : decode c_Z_giveBack 79 = .ok (.goto (-21), 3) := by decide +kernel
theorem d_Z_giveBack_82 : decode c_Z_giveBack 82 = .ok (.return_, 1) := by decide +kernel
theorem d_Z_dropOldestKept_0 : decode c_Z_dropOldestKept 0 = .ok (.aload_n 0, 1) := by decide +kernel
theorem d_Z_dropOldestKept_1 : decode c_Z_dropOldestKept 1 = .ok (.getfield 22, 3) := by decide +kernel
theorem d_Z_dropOldestKept_4 : decode c_Z_dropOldestKept 4 = .ok (.invokevirtual 180, 3) := by decide +kernel
theorem d_Z_dropOldestKept_7 : decode c_Z_dropOldestKept 7 = .ok (.ifCond .eq 4, 3) := by decide +kernel
theorem d_Z_dropOldestKept_10 : decode c_Z_dropOldestKept 10 = .ok (.return_, 1) := by decide +kernel
theorem d_Z_dropOldestKept_11 : decode c_Z_dropOldestKept 11 = .ok (.aload_n 0, 1) := by decide +kernel
theorem d_Z_dropOldestKept_12 : decode c_Z_dropOldestKept 12 = .ok (.getfield 22, 3) := by decide +kernel
theorem d_Z_dropOldestKept_15 : decode c_Z_dropOldestKept 15 = .ok (.iconst 0, 1) := by decide +kernel
theorem d_Z_dropOldestKept_16 : decode c_Z_dropOldestKept 16 = .ok (.invokevirtual 184, 3) := by decide +kernel
theorem d_Z_dropOldestKept_19 : decode c_Z_dropOldestKept 19 = .ok (.checkcast 13, 3) := by decide +kernel
theorem d_Z_dropOldestKept_22 : decode c_Z_dropOldestKept 22 = .ok (.astore_n 1, 1) := by decide +kernel
theorem d_Z_dropOldestKept_23 : decode c_Z_dropOldestKept 23 = .ok (.aload_n 0, 1) := by decide +kernel
theorem d_Z_dropOldestKept_24 : decode c_Z_dropOldestKept 24 = .ok (.dup, 1) := by decide +kernel
theorem d_Z_dropOldestKept_25 : decode c_Z_dropOldestKept 25 = .ok (.getfield 26, 3) := by decide +kernel
theorem d_Z_dropOldestKept_28 : decode c_Z_dropOldestKept 28 = .ok (.aload_n 1, 1) := by decide +kernel
theorem d_Z_dropOldestKept_29 : decode c_Z_dropOldestKept 29 = .ok (.getfield 70, 3) := by decide +kernel
theorem d_Z_dropOldestKept_32 : decode c_Z_dropOldestKept 32 = .ok (.isub, 1) := by decide +kernel
theorem d_Z_dropOldestKept_33 : decode c_Z_dropOldestKept 33 = .ok (.putfield 26, 3) := by decide +kernel
theorem d_Z_dropOldestKept_36 : decode c_Z_dropOldestKept 36 = .ok (.aload_n 0, 1) := by decide +kernel
theorem d_Z_dropOldestKept_37 : decode c_Z_dropOldestKept 37 = .ok (.aload_n 1, 1) := by decide +kernel
theorem d_Z_dropOldestKept_38 : decode c_Z_dropOldestKept 38 = .ok (.aconst_null, 1) := by decide +kernel
theorem d_Z_dropOldestKept_39 : decode c_Z_dropOldestKept 39 = .ok (.invokevirtual 166, 3) := by decide +kernel
theorem d_Z_dropOldestKept_42 : decode c_Z_dropOldestKept 42 = .ok (.return_, 1) := by decide +kernel
theorem d_Z_again_0 : decode c_Z_again 0 = .ok (.iload_n 2, 1) := by decide +kernel
theorem d_Z_again_1 : decode c_Z_again 1 = .ok (.invokestatic 52, 3) := by decide +kernel
theorem d_Z_again_4 : decode c_Z_again 4 = .ok (.aload_n 0, 1) := by decide +kernel
theorem d_Z_again_5 : decode c_Z_again 5 = .ok (.iload_n 1, 1) := by decide +kernel
theorem d_Z_again_6 : decode c_Z_again 6 = .ok (.invokevirtual 63, 3) := by decide +kernel
theorem d_Z_again_9 : decode c_Z_again 9 = .ok (.astore_n 3, 1) := by decide +kernel
theorem d_Z_again_10 : decode c_Z_again 10 = .ok (.aload_n 0, 1) := by decide +kernel
theorem d_Z_again_11 : decode c_Z_again 11 = .ok (.iload_n 2, 1) := by decide +kernel
theorem d_Z_again_12 : decode c_Z_again 12 = .ok (.invokevirtual 56, 3) := by decide +kernel
theorem d_Z_again_15 : decode c_Z_again 15 = .ok (.astore 4, 2) := by decide +kernel
theorem d_Z_again_17 : decode c_Z_again 17 = .ok (.aload 4, 2) := by decide +kernel
theorem d_Z_again_19 : decode c_Z_again 19 = .ok (.ifnonnull 5, 3) := by decide +kernel
theorem d_Z_again_22 : decode c_Z_again 22 = .ok (.iconst 0, 1) := by decide +kernel
theorem d_Z_again_23 : decode c_Z_again 23 = .ok (.ireturn, 1) := by decide +kernel
theorem d_Z_again_24 : decode c_Z_again 24 = .ok (.aload_n 0, 1) := by decide +kernel
theorem d_Z_again_25 : decode c_Z_again 25 = .ok (.getfield 9, 3) := by decide +kernel
theorem d_Z_again_28 : decode c_Z_again 28 = .ok (.aload_n 3, 1) := by decide +kernel
theorem d_Z_again_29 : decode c_Z_again 29 = .ok (.getfield 60, 3) := by decide +kernel
theorem d_Z_again_32 : decode c_Z_again 32 = .ok (.aload_n 0, 1) := by decide +kernel
theorem d_Z_again_33 : decode c_Z_again 33 = .ok (.getfield 9, 3) := by decide +kernel
theorem d_Z_again_36 : decode c_Z_again 36 = .ok (.aload 4, 2) := by decide +kernel
theorem d_Z_again_38 : decode c_Z_again 38 = .ok (.getfield 60, 3) := by decide +kernel
theorem d_Z_again_41 : decode c_Z_again 41 = .ok (.aload_n 3, 1) := by decide +kernel
theorem d_Z_again_42 : decode c_Z_again 42 = .ok (.getfield 70, 3) := by decide +kernel
theorem d_Z_again_45 : decode c_Z_again 45 = .ok (.aload 4, 2) := by decide +kernel
theorem d_Z_again_47 : decode c_Z_again 47 = .ok (.getfield 70, 3) := by decide +kernel
theorem d_Z_again_50 : decode c_Z_again 50 = .ok (.invokestatic 73, 3) := by decide +kernel
theorem d_Z_again_53 : decode c_Z_again 53 = .ok (.invokestatic 79, 3) := by decide +kernel
theorem d_Z_again_56 : decode c_Z_again 56 = .ok (.aload_n 0, 1) := by decide +kernel
theorem d_Z_again_57 : decode c_Z_again 57 = .ok (.aload_n 3, 1) := by decide +kernel
theorem d_Z_again_58 : decode c_Z_again 58 = .ok (.invokevirtual 66, 3) := by decide +kernel
theorem d_Z_again_61 : decode c_Z_again 61 = .ok (.aload 4, 2) := by decide +kernel
theorem d_Z_again_63 : decode c_Z_again 63 = .ok (.getfield 60, 3) := by decide +kernel
theorem d_Z_again_66 : decode c_Z_again 66 = .ok (.ireturn, 1) := by decide +kernel
theorem d_Z_kind_0 : decode c_Z_kind 0 = .ok (.iload_n 1, 1) := by decide +kernel
theorem d_Z_kind_1 : decode c_Z_kind 1 = .ok (.invokestatic 85, 3) := by decide +kernel
theorem d_Z_kind_4 : decode c_Z_kind 4 = .ok (.iload_n 1, 1) := by decide +kernel
theorem d_Z_kind_5 : decode c_Z_kind 5 = .ok (.bipush 16, 2) := by decide +kernel
theorem d_Z_kind_7 : decode c_Z_kind 7 = .ok (.idiv, 1) := by decide +kernel
theorem d_Z_kind_8 : decode c_Z_kind 8 = .ok (.istore_n 2, 1) := by decide +kernel
theorem d_Z_kind_9 : decode c_Z_kind 9 = .ok (.aload_n 0, 1) := by decide +kernel
theorem d_Z_kind_10 : decode c_Z_kind 10 = .ok (.getfield 15, 3) := by decide +kernel
theorem d_Z_kind_13 : decode c_Z_kind 13 = .ok (.iload_n 2, 1) := by decide +kernel
theorem d_Z_kind_14 : decode c_Z_kind 14 = .ok (.aaload, 1) := by decide +kernel
theorem d_Z_kind_15 : decode c_Z_kind 15 = .ok (.astore_n 3, 1) := by decide +kernel
theorem d_Z_kind_16 : decode c_Z_kind 16 = .ok (.aload_n 3, 1) := by decide +kernel
theorem d_Z_kind_17 : decode c_Z_kind 17 = .ok (.ifnonnull 29, 3) := by decide +kernel
theorem d_Z_kind_20 : decode c_Z_kind 20 = .ok (.aload_n 0, 1) := by decide +kernel
theorem d_Z_kind_21 : decode c_Z_kind 21 = .ok (.iload_n 2, 1) := by decide +kernel
theorem d_Z_kind_22 : decode c_Z_kind 22 = .ok (.iconst 1, 1) := by decide +kernel
theorem d_Z_kind_23 : decode c_Z_kind 23 = .ok (.isub, 1) := by decide +kernel
theorem d_Z_kind_24 : decode c_Z_kind 24 = .ok (.invokevirtual 88, 3) := by decide +kernel
theorem d_Z_kind_27 : decode c_Z_kind 27 = .ok (.ifCond .ne 13, 3) := by decide +kernel
theorem d_Z_kind_30 : decode c_Z_kind 30 = .ok (.aload_n 0, 1) := by decide +kernel
theorem d_Z_kind_31 : decode c_Z_kind 31 = .ok (.iload_n 2, 1) := by decide +kernel
theorem d_Z_kind_32 : decode c_Z_kind 32 = .ok (.iconst 1, 1) := by decide +kernel
theorem d_Z_kind_33 : decode c_Z_kind 33 = .ok (.iadd, 1) := by decide +kernel
theorem d_Z_kind_34 : decode c_Z_kind 34 = .ok (.invokevirtual 88, 3) := by decide +kernel
theorem d_Z_kind_37 : decode c_Z_kind 37 = .ok (.ifCond .eq 7, 3) := by decide +kernel
theorem d_Z_kind_40 : decode c_Z_kind 40 = .ok (.iconst 3, 1) := by decide +kernel
theorem d_Z_kind_41 : decode c_Z_kind 41 = .ok (.goto 4, 3) := by decide +kernel
theorem d_Z_kind_44 : decode c_Z_kind 44 = .ok (.iconst 0, 1) := by decide +kernel
theorem d_Z_kind_45 : decode c_Z_kind 45 = .ok (.ireturn, 1) := by decide +kernel
theorem d_Z_kind_46 : decode c_Z_kind 46 = .ok (.aload_n 3, 1) := by decide +kernel
theorem d_Z_kind_47 : decode c_Z_kind 47 = .ok (.iload_n 1, 1) := by decide +kernel
theorem d_Z_kind_48 : decode c_Z_kind 48 = .ok (.invokevirtual 92, 3) := by decide +kernel
theorem d_Z_kind_51 : decode c_Z_kind 51 = .ok (.ifCond .ne 5, 3) := by decide +kernel
theorem d_Z_kind_54 : decode c_Z_kind 54 = .ok (.iconst 3, 1) := by decide +kernel
theorem d_Z_kind_55 : decode c_Z_kind 55 = .ok (.ireturn, 1) := by decide +kernel
theorem d_Z_kind_56 : decode c_Z_kind 56 = .ok (.aload_n 3, 1) := by decide +kernel
theorem d_Z_kind_57 : decode c_Z_kind 57 = .ok (.getfield 95, 3) := by decide +kernel
theorem d_Z_kind_60 : decode c_Z_kind 60 = .ok (.ifCond .eq 7, 3) := by decide +kernel
theorem d_Z_kind_63 : decode c_Z_kind 63 = .ok (.iconst 2, 1) := by decide +kernel
theorem d_Z_kind_64 : decode c_Z_kind 64 = .ok (.goto 4, 3) := by decide +kernel
theorem d_Z_kind_67 : decode c_Z_kind 67 = .ok (.iconst 1, 1) := by decide +kernel
theorem d_Z_kind_68 : decode c_Z_kind 68 = .ok (.ireturn, 1) := by decide +kernel
theorem d_Z_refuseWrongOctet_0 : decode c_Z_refuseWrongOctet 0 = .ok (.iload_n 0, 1) := by decide +kernel
theorem d_Z_refuseWrongOctet_1 : decode c_Z_refuseWrongOctet 1 = .ok (.invokestatic 138, 3) := by decide +kernel
theorem d_Z_refuseWrongOctet_4 : decode c_Z_refuseWrongOctet 4 = .ok (.ifCond .ne 13, 3) := by decide +kernel
theorem d_Z_refuseWrongOctet_7 : decode c_Z_refuseWrongOctet 7 = .ok (.new 121, 3) := by decide +kernel
theorem d_Z_refuseWrongOctet_10 : decode c_Z_refuseWrongOctet 10 = .ok (.dup, 1) := by decide +kernel
theorem d_Z_refuseWrongOctet_11 : decode c_Z_refuseWrongOctet 11 = .ok (.ldc 141, 2) := by decide +kernel
theorem d_Z_refuseWrongOctet_13 : decode c_Z_refuseWrongOctet 13 = .ok (.invokespecial 125, 3) := by decide +kernel
theorem d_Z_refuseWrongOctet_16 : decode c_Z_refuseWrongOctet 16 = .ok (.athrow, 1) := by decide +kernel
theorem d_Z_refuseWrongOctet_17 : decode c_Z_refuseWrongOctet 17 = .ok (.return_, 1) := by decide +kernel
theorem d_Z_isTaken_0 : decode c_Z_isTaken 0 = .ok (.iload_n 1, 1) := by decide +kernel
theorem d_Z_isTaken_1 : decode c_Z_isTaken 1 = .ok (.ifCond .lt 23, 3) := by decide +kernel
theorem d_Z_isTaken_4 : decode c_Z_isTaken 4 = .ok (.iload_n 1, 1) := by decide +kernel
theorem d_Z_isTaken_5 : decode c_Z_isTaken 5 = .ok (.sipush 512, 3) := by decide +kernel
theorem d_Z_isTaken_8 : decode c_Z_isTaken 8 = .ok (.if_icmp .ge 16, 3) := by decide +kernel
theorem d_Z_isTaken_11 : decode c_Z_isTaken 11 = .ok (.aload_n 0, 1) := by decide +kernel
theorem d_Z_isTaken_12 : decode c_Z_isTaken 12 = .ok (.getfield 15, 3) := by decide +kernel
theorem d_Z_isTaken_15 : decode c_Z_isTaken 15 = .ok (.iload_n 1, 1) := by decide +kernel
theorem d_Z_isTaken_16 : decode c_Z_isTaken 16 = .ok (.aaload, 1) := by decide +kernel
theorem d_Z_isTaken_17 : decode c_Z_isTaken 17 = .ok (.ifnull 7, 3) := by decide +kernel
theorem d_Z_isTaken_20 : decode c_Z_isTaken 20 = .ok (.iconst 1, 1) := by decide +kernel
theorem d_Z_isTaken_21 : decode c_Z_isTaken 21 = .ok (.goto 4, 3) := by decide +kernel
theorem d_Z_isTaken_24 : decode c_Z_isTaken 24 = .ok (.iconst 0, 1) := by decide +kernel
theorem d_Z_isTaken_25 : decode c_Z_isTaken 25 = .ok (.ireturn, 1) := by decide +kernel
theorem d_Z_block_0 : decode c_Z_block 0 = .ok (.iload_n 1, 1) := by decide +kernel
theorem d_Z_block_1 : decode c_Z_block 1 = .ok (.invokestatic 85, 3) := by decide +kernel
theorem d_Z_block_4 : decode c_Z_block 4 = .ok (.aload_n 0, 1) := by decide +kernel
theorem d_Z_block_5 : decode c_Z_block 5 = .ok (.iload_n 1, 1) := by decide +kernel
theorem d_Z_block_6 : decode c_Z_block 6 = .ok (.invokevirtual 99, 3) := by decide +kernel
theorem d_Z_block_9 : decode c_Z_block 9 = .ok (.astore_n 2, 1) := by decide +kernel
theorem d_Z_block_10 : decode c_Z_block 10 = .ok (.aload_n 2, 1) := by decide +kernel
theorem d_Z_block_11 : decode c_Z_block 11 = .ok (.ifnonnull 7, 3) := by decide +kernel
theorem d_Z_block_14 : decode c_Z_block 14 = .ok (.iconst (-1), 1) := by decide +kernel
theorem d_Z_block_15 : decode c_Z_block 15 = .ok (.goto 7, 3) := by decide +kernel
theorem d_Z_block_18 : decode c_Z_block 18 = .ok (.aload_n 2, 1) := by decide +kernel
theorem d_Z_block_19 : decode c_Z_block 19 = .ok (.getfield 60, 3) := by decide +kernel
theorem d_Z_block_22 : decode c_Z_block 22 = .ok (.ireturn, 1) := by decide +kernel
theorem d_Z_write_0 : decode c_Z_write 0 = .ok (.aload_n 0, 1) := by decide +kernel
theorem d_Z_write_1 : decode c_Z_write 1 = .ok (.iload_n 1, 1) := by decide +kernel
theorem d_Z_write_2 : decode c_Z_write 2 = .ok (.invokevirtual 102, 3) := by decide +kernel
theorem d_Z_write_5 : decode c_Z_write 5 = .ok (.iconst 0, 1) := by decide +kernel
theorem d_Z_write_6 : decode c_Z_write 6 = .ok (.istore_n 3, 1) := by decide +kernel
theorem d_Z_write_7 : decode c_Z_write 7 = .ok (.iload_n 3, 1) := by decide +kernel
theorem d_Z_write_8 : decode c_Z_write 8 = .ok (.iconst 4, 1) := by decide +kernel
theorem d_Z_write_9 : decode c_Z_write 9 = .ok (.if_icmp .ge 24, 3) := by decide +kernel
theorem d_Z_write_12 : decode c_Z_write 12 = .ok (.aload_n 0, 1) := by decide +kernel
theorem d_Z_write_13 : decode c_Z_write 13 = .ok (.getfield 9, 3) := by decide +kernel
theorem d_Z_write_16 : decode c_Z_write 16 = .ok (.iload_n 1, 1) := by decide +kernel
theorem d_Z_write_17 : decode c_Z_write 17 = .ok (.iload_n 3, 1) := by decide +kernel
theorem d_Z_write_18 : decode c_Z_write 18 = .ok (.iadd, 1) := by decide +kernel
theorem d_Z_write_19 : decode c_Z_write 19 = .ok (.iload_n 2, 1) := by decide +kernel
theorem d_Z_write_20 : decode c_Z_write 20 = .ok (.bipush 8, 2) := by decide +kernel
theorem d_Z_write_22 : decode c_Z_write 22 = .ok (.iload_n 3, 1) := by decide +kernel
theorem d_Z_write_23 : decode c_Z_write 23 = .ok (.imul, 1) := by decide +kernel
theorem d_Z_write_24 : decode c_Z_write 24 = .ok (.iushr, 1) := by decide +kernel
theorem d_Z_write_25 : decode c_Z_write 25 = .ok (.i2b, 1) := by decide +kernel
theorem d_Z_write_26 : decode c_Z_write 26 = .ok (.bastore, 1) := by decide +kernel
theorem d_Z_write_27 : decode c_Z_write 27 = .ok (.iinc 3 1, 3) := by decide +kernel
theorem d_Z_write_30 : decode c_Z_write 30 = .ok (.goto (-23), 3) := by decide +kernel
theorem d_Z_write_33 : decode c_Z_write 33 = .ok (.return_, 1) := by decide +kernel
theorem d_Z_refuseWrongWord_0 : decode c_Z_refuseWrongWord 0 = .ok (.iload_n 1, 1) := by decide +kernel
theorem d_Z_refuseWrongWord_1 : decode c_Z_refuseWrongWord 1 = .ok (.ifCond .lt 10, 3) := by decide +kernel
theorem d_Z_refuseWrongWord_4 : decode c_Z_refuseWrongWord 4 = .ok (.iload_n 1, 1) := by decide +kernel
theorem d_Z_refuseWrongWord_5 : decode c_Z_refuseWrongWord 5 = .ok (.sipush 8188, 3) := by decide +kernel
theorem d_Z_refuseWrongWord_8 : decode c_Z_refuseWrongWord 8 = .ok (.if_icmp .le 13, 3) := by decide +kernel
theorem d_Z_refuseWrongWord_11 : decode c_Z_refuseWrongWord 11 = .ok (.new 121, 3) := by decide +kernel
theorem d_Z_refuseWrongWord_14 : decode c_Z_refuseWrongWord 14 = .ok (.dup, 1) := by decide +kernel
theorem d_Z_refuseWrongWord_15 : decode c_Z_refuseWrongWord 15 = .ok (.ldc 143, 2) := by decide +kernel
theorem d_Z_refuseWrongWord_17 : decode c_Z_refuseWrongWord 17 = .ok (.invokespecial 125, 3) := by decide +kernel
theorem d_Z_refuseWrongWord_20 : decode c_Z_refuseWrongWord 20 = .ok (.athrow, 1) := by decide +kernel
theorem d_Z_refuseWrongWord_21 : decode c_Z_refuseWrongWord 21 = .ok (.aload_n 0, 1) := by decide +kernel
theorem d_Z_refuseWrongWord_22 : decode c_Z_refuseWrongWord 22 = .ok (.iload_n 1, 1) := by decide +kernel
theorem d_Z_refuseWrongWord_23 : decode c_Z_refuseWrongWord 23 = .ok (.invokevirtual 99, 3) := by decide +kernel
theorem d_Z_refuseWrongWord_26 : decode c_Z_refuseWrongWord 26 = .ok (.astore_n 2, 1) := by decide +kernel
theorem d_Z_refuseWrongWord_27 : decode c_Z_refuseWrongWord 27 = .ok (.aload_n 2, 1) := by decide +kernel
theorem d_Z_refuseWrongWord_28 : decode c_Z_refuseWrongWord 28 = .ok (.ifnull 15, 3) := by decide +kernel
theorem d_Z_refuseWrongWord_31 : decode c_Z_refuseWrongWord 31 = .ok (.aload_n 2, 1) := by decide +kernel
theorem d_Z_refuseWrongWord_32 : decode c_Z_refuseWrongWord 32 = .ok (.iload_n 1, 1) := by decide +kernel
theorem d_Z_refuseWrongWord_33 : decode c_Z_refuseWrongWord 33 = .ok (.iconst 4, 1) := by decide +kernel
theorem d_Z_refuseWrongWord_34 : decode c_Z_refuseWrongWord 34 = .ok (.iadd, 1) := by decide +kernel
theorem d_Z_refuseWrongWord_35 : decode c_Z_refuseWrongWord 35 = .ok (.iconst 1, 1) := by decide +kernel
theorem d_Z_refuseWrongWord_36 : decode c_Z_refuseWrongWord 36 = .ok (.isub, 1) := by decide +kernel
theorem d_Z_refuseWrongWord_37 : decode c_Z_refuseWrongWord 37 = .ok (.invokevirtual 92, 3) := by decide +kernel
theorem d_Z_refuseWrongWord_40 : decode c_Z_refuseWrongWord 40 = .ok (.ifCond .ne 13, 3) := by decide +kernel
theorem d_Z_refuseWrongWord_43 : decode c_Z_refuseWrongWord 43 = .ok (.new 145, 3) := by decide +kernel
theorem d_Z_refuseWrongWord_46 : decode c_Z_refuseWrongWord 46 = .ok (.dup, 1) := by decide +kernel
theorem d_Z_refuseWrongWord_47 : decode c_Z_refuseWrongWord 47 = .ok (.ldc 147, 2) := by decide +kernel
theorem d_Z_refuseWrongWord_49 : decode c_Z_refuseWrongWord 49 = .ok (.invokespecial 149, 3) := by decide +kernel
theorem d_Z_refuseWrongWord_52 : decode c_Z_refuseWrongWord 52 = .ok (.athrow, 1) := by decide +kernel
theorem d_Z_refuseWrongWord_53 : decode c_Z_refuseWrongWord 53 = .ok (.return_, 1) := by decide +kernel
theorem d_Z_read_0 : decode c_Z_read 0 = .ok (.aload_n 0, 1) := by decide +kernel
theorem d_Z_read_1 : decode c_Z_read 1 = .ok (.iload_n 1, 1) := by decide +kernel
theorem d_Z_read_2 : decode c_Z_read 2 = .ok (.invokevirtual 102, 3) := by decide +kernel
theorem d_Z_read_5 : decode c_Z_read 5 = .ok (.aload_n 0, 1) := by decide +kernel
theorem d_Z_read_6 : decode c_Z_read 6 = .ok (.iload_n 1, 1) := by decide +kernel
theorem d_Z_read_7 : decode c_Z_read 7 = .ok (.invokevirtual 105, 3) := by decide +kernel
theorem d_Z_read_10 : decode c_Z_read 10 = .ok (.ireturn, 1) := by decide +kernel
theorem d_Z_lostAt_0 : decode c_Z_lostAt 0 = .ok (.iload_n 1, 1) := by decide +kernel
theorem d_Z_lostAt_1 : decode c_Z_lostAt 1 = .ok (.ifCond .lt 11, 3) := by decide +kernel
theorem d_Z_lostAt_4 : decode c_Z_lostAt 4 = .ok (.iload_n 1, 1) := by decide +kernel
theorem d_Z_lostAt_5 : decode c_Z_lostAt 5 = .ok (.aload_n 0, 1) := by decide +kernel
theorem d_Z_lostAt_6 : decode c_Z_lostAt 6 = .ok (.getfield 49, 3) := by decide +kernel
theorem d_Z_lostAt_9 : decode c_Z_lostAt 9 = .ok (.if_icmp .lt 13, 3) := by decide +kernel
theorem d_Z_lostAt_12 : decode c_Z_lostAt 12 = .ok (.new 121, 3) := by decide +kernel
theorem d_Z_lostAt_15 : decode c_Z_lostAt 15 = .ok (.dup, 1) := by decide +kernel
theorem d_Z_lostAt_16 : decode c_Z_lostAt 16 = .ok (.ldc 123, 2) := by decide +kernel
theorem d_Z_lostAt_18 : decode c_Z_lostAt 18 = .ok (.invokespecial 125, 3) := by decide +kernel
theorem d_Z_lostAt_21 : decode c_Z_lostAt 21 = .ok (.athrow, 1) := by decide +kernel
theorem d_Z_lostAt_22 : decode c_Z_lostAt 22 = .ok (.aload_n 0, 1) := by decide +kernel
theorem d_Z_lostAt_23 : decode c_Z_lostAt 23 = .ok (.getfield 45, 3) := by decide +kernel
theorem d_Z_lostAt_26 : decode c_Z_lostAt 26 = .ok (.iload_n 1, 1) := by decide +kernel
theorem d_Z_lostAt_27 : decode c_Z_lostAt 27 = .ok (.iaload, 1) := by decide +kernel
theorem d_Z_lostAt_28 : decode c_Z_lostAt 28 = .ok (.ireturn, 1) := by decide +kernel
theorem d_Z_count_0 : decode c_Z_count 0 = .ok (.iload_n 1, 1) := by decide +kernel
theorem d_Z_count_1 : decode c_Z_count 1 = .ok (.tableswitch 63 0 4 #[35, 40, 45, 53, 58], 35) := by decide +kernel
theorem d_Z_count_36 : decode c_Z_count 36 = .ok (.aload_n 0, 1) := by decide +kernel
theorem d_Z_count_37 : decode c_Z_count 37 = .ok (.getfield 30, 3) := by decide +kernel
theorem d_Z_count_40 : decode c_Z_count 40 = .ok (.ireturn, 1) := by decide +kernel
theorem d_Z_count_41 : decode c_Z_count 41 = .ok (.aload_n 0, 1) := by decide +kernel
theorem d_Z_count_42 : decode c_Z_count 42 = .ok (.getfield 33, 3) := by decide +kernel
theorem d_Z_count_45 : decode c_Z_count 45 = .ok (.ireturn, 1) := by decide +kernel
theorem d_Z_count_46 : decode c_Z_count 46 = .ok (.aload_n 0, 1) := by decide +kernel
theorem d_Z_count_47 : decode c_Z_count 47 = .ok (.getfield 22, 3) := by decide +kernel
theorem d_Z_count_50 : decode c_Z_count 50 = .ok (.invokevirtual 128, 3) := by decide +kernel
theorem d_Z_count_53 : decode c_Z_count 53 = .ok (.ireturn, 1) := by decide +kernel
theorem d_Z_count_54 : decode c_Z_count 54 = .ok (.aload_n 0, 1) := by decide +kernel
theorem d_Z_count_55 : decode c_Z_count 55 = .ok (.getfield 26, 3) := by decide +kernel
theorem d_Z_count_58 : decode c_Z_count 58 = .ok (.ireturn, 1) := by decide +kernel
theorem d_Z_count_59 : decode c_Z_count 59 = .ok (.aload_n 0, 1) := by decide +kernel
theorem d_Z_count_60 : decode c_Z_count 60 = .ok (.getfield 36, 3) := by decide +kernel
theorem d_Z_count_63 : decode c_Z_count 63 = .ok (.ireturn, 1) := by decide +kernel
theorem d_Z_count_64 : decode c_Z_count 64 = .ok (.new 131, 3) := by decide +kernel
theorem d_Z_count_67 : decode c_Z_count 67 = .ok (.dup, 1) := by decide +kernel
theorem d_Z_count_68 : decode c_Z_count 68 = .ok (.ldc 133, 2) := by decide +kernel
theorem d_Z_count_70 : decode c_Z_count 70 = .ok (.invokespecial 135, 3) := by decide +kernel
theorem d_Z_count_73 : decode c_Z_count 73 = .ok (.athrow, 1) := by decide +kernel
end
section
theorem d_M_init_0 : decode c_M_init 0 = .ok (.aload_n 0, 1) := by decide +kernel
theorem d_M_init_1 : decode c_M_init 1 = .ok (.invokespecial 1, 3) := by decide +kernel
theorem d_M_init_4 : decode c_M_init 4 = .ok (.aload_n 0, 1) := by decide +kernel
theorem d_M_init_5 : decode c_M_init 5 = .ok (.sipush 8192, 3) := by decide +kernel
theorem d_M_init_8 : decode c_M_init 8 = .ok (.newarray .int, 2) := by decide +kernel
theorem d_M_init_10 : decode c_M_init 10 = .ok (.putfield 7, 3) := by decide +kernel
theorem d_M_init_13 : decode c_M_init 13 = .ok (.aload_n 0, 1) := by decide +kernel
theorem d_M_init_14 : decode c_M_init 14 = .ok (.sipush 300, 3) := by decide +kernel
theorem d_M_init_17 : decode c_M_init 17 = .ok (.newarray .int, 2) := by decide +kernel
theorem d_M_init_19 : decode c_M_init 19 = .ok (.putfield 13, 3) := by decide +kernel
theorem d_M_init_22 : decode c_M_init 22 = .ok (.aload_n 0, 1) := by decide +kernel
theorem d_M_init_23 : decode c_M_init 23 = .ok (.sipush 300, 3) := by decide +kernel
theorem d_M_init_26 : decode c_M_init 26 = .ok (.newarray .int, 2) := by decide +kernel
theorem d_M_init_28 : decode c_M_init 28 = .ok (.putfield 16, 3) := by decide +kernel
theorem d_M_init_31 : decode c_M_init 31 = .ok (.aload_n 0, 1) := by decide +kernel
theorem d_M_init_32 : decode c_M_init 32 = .ok (.sipush 300, 3) := by decide +kernel
theorem d_M_init_35 : decode c_M_init 35 = .ok (.newarray .int, 2) := by decide +kernel
theorem d_M_init_37 : decode c_M_init 37 = .ok (.putfield 19, 3) := by decide +kernel
theorem d_M_init_40 : decode c_M_init 40 = .ok (.aload_n 0, 1) := by decide +kernel
theorem d_M_init_41 : decode c_M_init 41 = .ok (.sipush 300, 3) := by decide +kernel
theorem d_M_init_44 : decode c_M_init 44 = .ok (.newarray .int, 2) := by decide +kernel
theorem d_M_init_46 : decode c_M_init 46 = .ok (.putfield 22, 3) := by decide +kernel
theorem d_M_init_49 : decode c_M_init 49 = .ok (.aload_n 0, 1) := by decide +kernel
theorem d_M_init_50 : decode c_M_init 50 = .ok (.sipush 300, 3) := by decide +kernel
theorem d_M_init_53 : decode c_M_init 53 = .ok (.newarray .boolean, 2) := by decide +kernel
theorem d_M_init_55 : decode c_M_init 55 = .ok (.putfield 25, 3) := by decide +kernel
theorem d_M_init_58 : decode c_M_init 58 = .ok (.aload_n 0, 1) := by decide +kernel
theorem d_M_init_59 : decode c_M_init 59 = .ok (.sipush 300, 3) := by decide +kernel
theorem d_M_init_62 : decode c_M_init 62 = .ok (.newarray .int, 2) := by decide +kernel
theorem d_M_init_64 : decode c_M_init 64 = .ok (.putfield 29, 3) := by decide +kernel
theorem d_M_init_67 : decode c_M_init 67 = .ok (.return_, 1) := by decide +kernel
theorem d_M_thrown_0 : decode c_M_thrown 0 = .ok (.aload_n 0, 1) := by decide +kernel
theorem d_M_thrown_1 : decode c_M_thrown 1 = .ok (.getfield 32, 3) := by decide +kernel
theorem d_M_thrown_4 : decode c_M_thrown 4 = .ok (.ireturn, 1) := by decide +kernel
theorem d_M_get_0 : decode c_M_get 0 = .ok (.aload_n 0, 1) := by decide +kernel
theorem d_M_get_1 : decode c_M_get 1 = .ok (.iload_n 1, 1) := by decide +kernel
theorem d_M_get_2 : decode c_M_get 2 = .ok (.ifCond .lt 10, 3) := by decide +kernel
theorem d_M_get_5 : decode c_M_get 5 = .ok (.iload_n 1, 1) := by decide +kernel
theorem d_M_get_6 : decode c_M_get 6 = .ok (.sipush 2048, 3) := by decide +kernel
theorem d_M_get_9 : decode c_M_get 9 = .ok (.if_icmp .le 7, 3) := by decide +kernel
theorem d_M_get_12 : decode c_M_get 12 = .ok (.iconst 1, 1) := by decide +kernel
theorem d_M_get_13 : decode c_M_get 13 = .ok (.goto 4, 3) := by decide +kernel
theorem d_M_get_16 : decode c_M_get 16 = .ok (.iconst 0, 1) := by decide +kernel
theorem d_M_get_17 : decode c_M_get 17 = .ok (.iconst 1, 1) := by decide +kernel
theorem d_M_get_18 : decode c_M_get 18 = .ok (.invokevirtual 56, 3) := by decide +kernel
theorem d_M_get_21 : decode c_M_get 21 = .ok (.ifCond .eq 5, 3) := by decide +kernel
theorem d_M_get_24 : decode c_M_get 24 = .ok (.iconst 0, 1) := by decide +kernel
theorem d_M_get_25 : decode c_M_get 25 = .ok (.ireturn, 1) := by decide +kernel
theorem d_M_get_26 : decode c_M_get 26 = .ok (.aload_n 0, 1) := by decide +kernel
theorem d_M_get_27 : decode c_M_get 27 = .ok (.iload_n 1, 1) := by decide +kernel
theorem d_M_get_28 : decode c_M_get 28 = .ok (.invokevirtual 60, 3) := by decide +kernel
theorem d_M_get_31 : decode c_M_get 31 = .ok (.ireturn, 1) := by decide +kernel
theorem d_M_fails_0 : decode c_M_fails 0 = .ok (.aload_n 0, 1) := by decide +kernel
theorem d_M_fails_1 : decode c_M_fails 1 = .ok (.iload_n 1, 1) := by decide +kernel
theorem d_M_fails_2 : decode c_M_fails 2 = .ok (.ifCond .eq 7, 3) := by decide +kernel
theorem d_M_fails_5 : decode c_M_fails 5 = .ok (.iload_n 2, 1) := by decide +kernel
theorem d_M_fails_6 : decode c_M_fails 6 = .ok (.goto 4, 3) := by decide +kernel
theorem d_M_fails_9 : decode c_M_fails 9 = .ok (.iconst 0, 1) := by decide +kernel
theorem d_M_fails_10 : decode c_M_fails 10 = .ok (.putfield 32, 3) := by decide +kernel
theorem d_M_fails_13 : decode c_M_fails 13 = .ok (.iload_n 1, 1) := by decide +kernel
theorem d_M_fails_14 : decode c_M_fails 14 = .ok (.ireturn, 1) := by decide +kernel
theorem d_M_make_0 : decode c_M_make 0 = .ok (.aload_n 0, 1) := by decide +kernel
theorem d_M_make_1 : decode c_M_make 1 = .ok (.iload_n 1, 1) := by decide +kernel
theorem d_M_make_2 : decode c_M_make 2 = .ok (.invokevirtual 43, 3) := by decide +kernel
theorem d_M_make_5 : decode c_M_make 5 = .ok (.istore_n 2, 1) := by decide +kernel
theorem d_M_make_6 : decode c_M_make 6 = .ok (.iload_n 2, 1) := by decide +kernel
theorem d_M_make_7 : decode c_M_make 7 = .ok (.ifCond .ne 5, 3) := by decide +kernel
theorem d_M_make_10 : decode c_M_make 10 = .ok (.iconst 0, 1) := by decide +kernel
theorem d_M_make_11 : decode c_M_make 11 = .ok (.ireturn, 1) := by decide +kernel
theorem d_M_make_12 : decode c_M_make 12 = .ok (.aload_n 0, 1) := by decide +kernel
theorem d_M_make_13 : decode c_M_make 13 = .ok (.getfield 13, 3) := by decide +kernel
theorem d_M_make_16 : decode c_M_make 16 = .ok (.aload_n 0, 1) := by decide +kernel
theorem d_M_make_17 : decode c_M_make 17 = .ok (.getfield 40, 3) := by decide +kernel
theorem d_M_make_20 : decode c_M_make 20 = .ok (.iload_n 2, 1) := by decide +kernel
theorem d_M_make_21 : decode c_M_make 21 = .ok (.iastore, 1) := by decide +kernel
theorem d_M_make_22 : decode c_M_make 22 = .ok (.aload_n 0, 1) := by decide +kernel
theorem d_M_make_23 : decode c_M_make 23 = .ok (.getfield 16, 3) := by decide +kernel
theorem d_M_make_26 : decode c_M_make 26 = .ok (.aload_n 0, 1) := by decide +kernel
theorem d_M_make_27 : decode c_M_make 27 = .ok (.getfield 40, 3) := by decide +kernel
theorem d_M_make_30 : decode c_M_make 30 = .ok (.iload_n 1, 1) := by decide +kernel
theorem d_M_make_31 : decode c_M_make 31 = .ok (.iastore, 1) := by decide +kernel
theorem d_M_make_32 : decode c_M_make 32 = .ok (.aload_n 0, 1) := by decide +kernel
theorem d_M_make_33 : decode c_M_make 33 = .ok (.getfield 19, 3) := by decide +kernel
theorem d_M_make_36 : decode c_M_make 36 = .ok (.aload_n 0, 1) := by decide +kernel
theorem d_M_make_37 : decode c_M_make 37 = .ok (.dup, 1) := by decide +kernel
theorem d_M_make_38 : decode c_M_make 38 = .ok (.getfield 40, 3) := by decide +kernel
theorem d_M_make_41 : decode c_M_make 41 = .ok (.dup_x1, 1) := by decide +kernel
theorem d_M_make_42 : decode c_M_make 42 = .ok (.iconst 1, 1) := by decide +kernel
theorem d_M_make_43 : decode c_M_make 43 = .ok (.iadd, 1) := by decide +kernel
theorem d_M_make_44 : decode c_M_make 44 = .ok (.putfield 40, 3) := by decide +kernel
theorem d_M_make_47 : decode c_M_make 47 = .ok (.iconst 1, 1) := by decide +kernel
theorem d_M_make_48 : decode c_M_make 48 = .ok (.iastore, 1) := by decide +kernel
theorem d_M_make_49 : decode c_M_make 49 = .ok (.aload_n 0, 1) := by decide +kernel
theorem d_M_make_50 : decode c_M_make 50 = .ok (.dup, 1) := by decide +kernel
theorem d_M_make_51 : decode c_M_make 51 = .ok (.getfield 46, 3) := by decide +kernel
theorem d_M_make_54 : decode c_M_make 54 = .ok (.iconst 1, 1) := by decide +kernel
theorem d_M_make_55 : decode c_M_make 55 = .ok (.iadd, 1) := by decide +kernel
theorem d_M_make_56 : decode c_M_make 56 = .ok (.putfield 46, 3) := by decide +kernel
theorem d_M_make_59 : decode c_M_make 59 = .ok (.iload_n 2, 1) := by decide +kernel
theorem d_M_make_60 : decode c_M_make 60 = .ok (.ireturn, 1) := by decide +kernel
theorem d_M_room_0 : decode c_M_room 0 = .ok (.bipush 16, 2) := by decide +kernel
theorem d_M_room_2 : decode c_M_room 2 = .ok (.istore_n 2, 1) := by decide +kernel
theorem d_M_room_3 : decode c_M_room 3 = .ok (.iload_n 2, 1) := by decide +kernel
theorem d_M_room_4 : decode c_M_room 4 = .ok (.iload_n 1, 1) := by decide +kernel
theorem d_M_room_5 : decode c_M_room 5 = .ok (.invokestatic 36, 3) := by decide +kernel
theorem d_M_room_8 : decode c_M_room 8 = .ok (.iadd, 1) := by decide +kernel
theorem d_M_room_9 : decode c_M_room 9 = .ok (.bipush 16, 2) := by decide +kernel
theorem d_M_room_11 : decode c_M_room 11 = .ok (.iadd, 1) := by decide +kernel
theorem d_M_room_12 : decode c_M_room 12 = .ok (.sipush 8192, 3) := by decide +kernel
theorem d_M_room_15 : decode c_M_room 15 = .ok (.if_icmp .gt 81, 3) := by decide +kernel
theorem d_M_room_18 : decode c_M_room 18 = .ok (.iconst 1, 1) := by decide +kernel
theorem d_M_room_19 : decode c_M_room 19 = .ok (.istore_n 3, 1) := by decide +kernel
theorem d_M_room_20 : decode c_M_room 20 = .ok (.iconst 0, 1) := by decide +kernel
theorem d_M_room_21 : decode c_M_room 21 = .ok (.istore 4, 2) := by decide +kernel
theorem d_M_room_23 : decode c_M_room 23 = .ok (.iload 4, 2) := by decide +kernel
theorem d_M_room_25 : decode c_M_room 25 = .ok (.aload_n 0, 1) := by decide +kernel
theorem d_M_room_26 : decode c_M_room 26 = .ok (.getfield 40, 3) := by decide +kernel
theorem d_M_room_29 : decode c_M_room 29 = .ok (.if_icmp .ge 55, 3) := by decide +kernel
theorem d_M_room_32 : decode c_M_room 32 = .ok (.iload_n 2, 1) := by decide +kernel
theorem d_M_room_33 : decode c_M_room 33 = .ok (.bipush 16, 2) := by decide +kernel
theorem d_M_room_35 : decode c_M_room 35 = .ok (.isub, 1) := by decide +kernel
theorem d_M_room_36 : decode c_M_room 36 = .ok (.aload_n 0, 1) := by decide +kernel
theorem d_M_room_37 : decode c_M_room 37 = .ok (.getfield 13, 3) := by decide +kernel
theorem d_M_room_40 : decode c_M_room 40 = .ok (.iload 4, 2) := by decide +kernel
theorem d_M_room_42 : decode c_M_room 42 = .ok (.iaload, 1) := by decide +kernel
theorem d_M_room_43 : decode c_M_room 43 = .ok (.aload_n 0, 1) := by decide +kernel
theorem d_M_room_44 : decode c_M_room 44 = .ok (.getfield 16, 3) := by decide +kernel
theorem d_M_room_47 : decode c_M_room 47 = .ok (.iload 4, 2) := by decide +kernel
theorem d_M_room_49 : decode c_M_room 49 = .ok (.iaload, 1) := by decide +kernel
theorem d_M_room_50 : decode c_M_room 50 = .ok (.invokestatic 36, 3) := by decide +kernel
theorem d_M_room_53 : decode c_M_room 53 = .ok (.iadd, 1) := by decide +kernel
theorem d_M_room_54 : decode c_M_room 54 = .ok (.if_icmp .ge 24, 3) := by decide +kernel
theorem d_M_room_57 : decode c_M_room 57 = .ok (.aload_n 0, 1) := by decide +kernel
theorem d_M_room_58 : decode c_M_room 58 = .ok (.getfield 13, 3) := by decide +kernel
theorem d_M_room_61 : decode c_M_room 61 = .ok (.iload 4, 2) := by decide +kernel
theorem d_M_room_63 : decode c_M_room 63 = .ok (.iaload, 1) := by decide +kernel
theorem d_M_room_64 : decode c_M_room 64 = .ok (.iload_n 2, 1) := by decide +kernel
theorem d_M_room_65 : decode c_M_room 65 = .ok (.iload_n 1, 1) := by decide +kernel
theorem d_M_room_66 : decode c_M_room 66 = .ok (.invokestatic 36, 3) := by decide +kernel
theorem d_M_room_69 : decode c_M_room 69 = .ok (.iadd, 1) := by decide +kernel
theorem d_M_room_70 : decode c_M_room 70 = .ok (.bipush 16, 2) := by decide +kernel
theorem d_M_room_72 : decode c_M_room 72 = .ok (.iadd, 1) := by decide +kernel
theorem d_M_room_73 : decode c_M_room 73 = .ok (.if_icmp .ge 5, 3) := by decide +kernel
theorem d_M_room_76 : decode c_M_room 76 = .ok (.iconst 0, 1) := by decide +kernel
theorem d_M_room_77 : decode c_M_room 77 = .ok (.istore_n 3, 1) := by decide +kernel
theorem d_M_room_78 : decode c_M_room 78 = .ok (.iinc 4 1, 3) := by decide +kernel
theorem d_M_room_81 : decode c_M_room 81 = .ok (.goto (-58), 3) := by decide +kernel
theorem d_M_room_84 : decode c_M_room 84 = .ok (.iload_n 3, 1) := by decide +kernel
theorem d_M_room_85 : decode c_M_room 85 = .ok (.ifCond .eq 5, 3) := by decide +kernel
theorem d_M_room_88 : decode c_M_room 88 = .ok (.iload_n 2, 1) := by decide +kernel
theorem d_M_room_89 : decode c_M_room 89 = .ok (.ireturn, 1) := by decide +kernel
theorem d_M_room_90 : decode c_M_room 90 = .ok (.iinc 2 16, 3) := by decide +kernel
theorem d_M_room_93 : decode c_M_room 93 = .ok (.goto (-90), 3) := by decide +kernel
theorem d_M_room_96 : decode c_M_room 96 = .ok (.iconst 0, 1) := by decide +kernel
theorem d_M_room_97 : decode c_M_room 97 = .ok (.ireturn, 1) := by decide +kernel
theorem d_M_taken_0 : decode c_M_taken 0 = .ok (.iload_n 0, 1) := by decide +kernel
theorem d_M_taken_1 : decode c_M_taken 1 = .ok (.ifCond .ne 8, 3) := by decide +kernel
theorem d_M_taken_4 : decode c_M_taken 4 = .ok (.bipush 16, 2) := by decide +kernel
theorem d_M_taken_6 : decode c_M_taken 6 = .ok (.goto 15, 3) := by decide +kernel
theorem d_M_taken_9 : decode c_M_taken 9 = .ok (.iload_n 0, 1) := by decide +kernel
theorem d_M_taken_10 : decode c_M_taken 10 = .ok (.bipush 16, 2) := by decide +kernel
theorem d_M_taken_12 : decode c_M_taken 12 = .ok (.iadd, 1) := by decide +kernel
theorem d_M_taken_13 : decode c_M_taken 13 = .ok (.iconst 1, 1) := by decide +kernel
theorem d_M_taken_14 : decode c_M_taken 14 = .ok (.isub, 1) := by decide +kernel
theorem d_M_taken_15 : decode c_M_taken 15 = .ok (.bipush 16, 2) := by decide +kernel
theorem d_M_taken_17 : decode c_M_taken 17 = .ok (.idiv, 1) := by decide +kernel
theorem d_M_taken_18 : decode c_M_taken 18 = .ok (.bipush 16, 2) := by decide +kernel
theorem d_M_taken_20 : decode c_M_taken 20 = .ok (.imul, 1) := by decide +kernel
theorem d_M_taken_21 : decode c_M_taken 21 = .ok (.ireturn, 1) := by decide +kernel
theorem d_M_back_0 : decode c_M_back 0 = .ok (.aload_n 0, 1) := by decide +kernel
theorem d_M_back_1 : decode c_M_back 1 = .ok (.iload_n 1, 1) := by decide +kernel
theorem d_M_back_2 : decode c_M_back 2 = .ok (.iconst 1, 1) := by decide +kernel
theorem d_M_back_3 : decode c_M_back 3 = .ok (.invokevirtual 63, 3) := by decide +kernel
theorem d_M_back_6 : decode c_M_back 6 = .ok (.istore_n 2, 1) := by decide +kernel
theorem d_M_back_7 : decode c_M_back 7 = .ok (.aload_n 0, 1) := by decide +kernel
theorem d_M_back_8 : decode c_M_back 8 = .ok (.iload_n 2, 1) := by decide +kernel
theorem d_M_back_9 : decode c_M_back 9 = .ok (.ifCond .ge 7, 3) := by decide +kernel
theorem d_M_back_12 : decode c_M_back 12 = .ok (.iconst 1, 1) := by decide +kernel
theorem d_M_back_13 : decode c_M_back 13 = .ok (.goto 4, 3) := by decide +kernel
theorem d_M_back_16 : decode c_M_back 16 = .ok (.iconst 0, 1) := by decide +kernel
theorem d_M_back_17 : decode c_M_back 17 = .ok (.aload_n 0, 1) := by decide +kernel
theorem d_M_back_18 : decode c_M_back 18 = .ok (.iload_n 1, 1) := by decide +kernel
theorem d_M_back_19 : decode c_M_back 19 = .ok (.iconst 2, 1) := by decide +kernel
theorem d_M_back_20 : decode c_M_back 20 = .ok (.invokevirtual 63, 3) := by decide +kernel
theorem d_M_back_23 : decode c_M_back 23 = .ok (.ifCond .lt 7, 3) := by decide +kernel
theorem d_M_back_26 : decode c_M_back 26 = .ok (.iconst 2, 1) := by decide +kernel
theorem d_M_back_27 : decode c_M_back 27 = .ok (.goto 4, 3) := by decide +kernel
theorem d_M_back_30 : decode c_M_back 30 = .ok (.iconst 1, 1) := by decide +kernel
theorem d_M_back_31 : decode c_M_back 31 = .ok (.invokevirtual 56, 3) := by decide +kernel
theorem d_M_back_34 : decode c_M_back 34 = .ok (.ifCond .eq 5, 3) := by decide +kernel
theorem d_M_back_37 : decode c_M_back 37 = .ok (.iconst 0, 1) := by decide +kernel
theorem d_M_back_38 : decode c_M_back 38 = .ok (.ireturn, 1) := by decide +kernel
theorem d_M_back_39 : decode c_M_back 39 = .ok (.aload_n 0, 1) := by decide +kernel
theorem d_M_back_40 : decode c_M_back 40 = .ok (.getfield 16, 3) := by decide +kernel
theorem d_M_back_43 : decode c_M_back 43 = .ok (.iload_n 2, 1) := by decide +kernel
theorem d_M_back_44 : decode c_M_back 44 = .ok (.iaload, 1) := by decide +kernel
theorem d_M_back_45 : decode c_M_back 45 = .ok (.istore_n 3, 1) := by decide +kernel
theorem d_M_back_46 : decode c_M_back 46 = .ok (.aload_n 0, 1) := by decide +kernel
theorem d_M_back_47 : decode c_M_back 47 = .ok (.iload_n 2, 1) := by decide +kernel
theorem d_M_back_48 : decode c_M_back 48 = .ok (.invokevirtual 67, 3) := by decide +kernel
theorem d_M_back_51 : decode c_M_back 51 = .ok (.iload_n 3, 1) := by decide +kernel
theorem d_M_back_52 : decode c_M_back 52 = .ok (.ireturn, 1) := by decide +kernel
theorem d_M_at_0 : decode c_M_at 0 = .ok (.iconst 0, 1) := by decide +kernel
theorem d_M_at_1 : decode c_M_at 1 = .ok (.istore_n 3, 1) := by decide +kernel
theorem d_M_at_2 : decode c_M_at 2 = .ok (.iload_n 3, 1) := by decide +kernel
theorem d_M_at_3 : decode c_M_at 3 = .ok (.aload_n 0, 1) := by decide +kernel
theorem d_M_at_4 : decode c_M_at 4 = .ok (.getfield 40, 3) := by decide +kernel
theorem d_M_at_7 : decode c_M_at 7 = .ok (.if_icmp .ge 31, 3) := by decide +kernel
theorem d_M_at_10 : decode c_M_at 10 = .ok (.aload_n 0, 1) := by decide +kernel
theorem d_M_at_11 : decode c_M_at 11 = .ok (.getfield 13, 3) := by decide +kernel
theorem d_M_at_14 : decode c_M_at 14 = .ok (.iload_n 3, 1) := by decide +kernel
theorem d_M_at_15 : decode c_M_at 15 = .ok (.iaload, 1) := by decide +kernel
theorem d_M_at_16 : decode c_M_at 16 = .ok (.iload_n 1, 1) := by decide +kernel
theorem d_M_at_17 : decode c_M_at 17 = .ok (.if_icmp .ne 15, 3) := by decide +kernel
theorem d_M_at_20 : decode c_M_at 20 = .ok (.aload_n 0, 1) := by decide +kernel
theorem d_M_at_21 : decode c_M_at 21 = .ok (.getfield 19, 3) := by decide +kernel
theorem d_M_at_24 : decode c_M_at 24 = .ok (.iload_n 3, 1) := by decide +kernel
theorem d_M_at_25 : decode c_M_at 25 = .ok (.iaload, 1) := by decide +kernel
theorem d_M_at_26 : decode c_M_at 26 = .ok (.iload_n 2, 1) := by decide +kernel
theorem d_M_at_27 : decode c_M_at 27 = .ok (.if_icmp .ne 5, 3) := by decide +kernel
theorem d_M_at_30 : decode c_M_at 30 = .ok (.iload_n 3, 1) := by decide +kernel
theorem d_M_at_31 : decode c_M_at 31 = .ok (.ireturn, 1) := by decide +kernel
theorem d_M_at_32 : decode c_M_at 32 = .ok (.iinc 3 1, 3) := by decide +kernel
theorem d_M_at_35 : decode c_M_at 35 = .ok (.goto (-33), 3) := by decide +kernel
theorem d_M_at_38 : decode c_M_at 38 = .ok (.iconst (-1), 1) := by decide +kernel
theorem d_M_at_39 : decode c_M_at 39 = .ok (.ireturn, 1) := by decide +kernel
theorem d_M_give_0 : decode c_M_give 0 = .ok (.aload_n 0, 1) := by decide +kernel
theorem d_M_give_1 : decode c_M_give 1 = .ok (.getfield 19, 3) := by decide +kernel
theorem d_M_give_4 : decode c_M_give 4 = .ok (.iload_n 1, 1) := by decide +kernel
theorem d_M_give_5 : decode c_M_give 5 = .ok (.iconst 2, 1) := by decide +kernel
theorem d_M_give_6 : decode c_M_give 6 = .ok (.iastore, 1) := by decide +kernel
theorem d_M_give_7 : decode c_M_give 7 = .ok (.aload_n 0, 1) := by decide +kernel
theorem d_M_give_8 : decode c_M_give 8 = .ok (.getfield 22, 3) := by decide +kernel
theorem d_M_give_11 : decode c_M_give 11 = .ok (.iload_n 1, 1) := by decide +kernel
theorem d_M_give_12 : decode c_M_give 12 = .ok (.aload_n 0, 1) := by decide +kernel
theorem d_M_give_13 : decode c_M_give 13 = .ok (.dup, 1) := by decide +kernel
theorem d_M_give_14 : decode c_M_give 14 = .ok (.getfield 49, 3) := by decide +kernel
theorem d_M_give_17 : decode c_M_give 17 = .ok (.iconst 1, 1) := by decide +kernel
theorem d_M_give_18 : decode c_M_give 18 = .ok (.iadd, 1) := by decide +kernel
theorem d_M_give_19 : decode c_M_give 19 = .ok (.dup_x1, 1) := by decide +kernel
theorem d_M_give_20 : decode c_M_give 20 = .ok (.putfield 49, 3) := by decide +kernel
theorem d_M_give_23 : decode c_M_give 23 = .ok (.iastore, 1) := by decide +kernel
theorem d_M_give_24 : decode c_M_give 24 = .ok (.aload_n 0, 1) := by decide +kernel
theorem d_M_give_25 : decode c_M_give 25 = .ok (.invokevirtual 52, 3) := by decide +kernel
theorem d_M_give_28 : decode c_M_give 28 = .ok (.sipush 512, 3) := by decide +kernel
theorem d_M_give_31 : decode c_M_give 31 = .ok (.if_icmp .le 125, 3) := by decide +kernel
theorem d_M_give_34 : decode c_M_give 34 = .ok (.iconst (-1), 1) := by decide +kernel
theorem d_M_give_35 : decode c_M_give 35 = .ok (.istore_n 2, 1) := by decide +kernel
theorem d_M_give_36 : decode c_M_give 36 = .ok (.iconst 0, 1) := by decide +kernel
theorem d_M_give_37 : decode c_M_give 37 = .ok (.istore_n 3, 1) := by decide +kernel
theorem d_M_give_38 : decode c_M_give 38 = .ok (.iload_n 3, 1) := by decide +kernel
theorem d_M_give_39 : decode c_M_give 39 = .ok (.aload_n 0, 1) := by decide +kernel
theorem d_M_give_40 : decode c_M_give 40 = .ok (.getfield 40, 3) := by decide +kernel
theorem d_M_give_43 : decode c_M_give 43 = .ok (.if_icmp .ge 40, 3) := by decide +kernel
theorem d_M_give_46 : decode c_M_give 46 = .ok (.aload_n 0, 1) := by decide +kernel
theorem d_M_give_47 : decode c_M_give 47 = .ok (.getfield 19, 3) := by decide +kernel
theorem d_M_give_50 : decode c_M_give 50 = .ok (.iload_n 3, 1) := by decide +kernel
theorem d_M_give_51 : decode c_M_give 51 = .ok (.iaload, 1) := by decide +kernel
theorem d_M_give_52 : decode c_M_give 52 = .ok (.iconst 2, 1) := by decide +kernel
theorem d_M_give_53 : decode c_M_give 53 = .ok (.if_icmp .ne 24, 3) := by decide +kernel
theorem d_M_give_56 : decode c_M_give 56 = .ok (.iload_n 2, 1) := by decide +kernel
theorem d_M_give_57 : decode c_M_give 57 = .ok (.ifCond .lt 18, 3) := by decide +kernel
theorem d_M_give_60 : decode c_M_give 60 = .ok (.aload_n 0, 1) := by decide +kernel
theorem d_M_give_61 : decode c_M_give 61 = .ok (.getfield 22, 3) := by decide +kernel
theorem d_M_give_64 : decode c_M_give 64 = .ok (.iload_n 3, 1) := by decide +kernel
theorem d_M_give_65 : decode c_M_give 65 = .ok (.iaload, 1) := by decide +kernel
theorem d_M_give_66 : decode c_M_give 66 = .ok (.aload_n 0, 1) := by decide +kernel
theorem d_M_give_67 : decode c_M_give 67 = .ok (.getfield 22, 3) := by decide +kernel
theorem d_M_give_70 : decode c_M_give 70 = .ok (.iload_n 2, 1) := by decide +kernel
theorem d_M_give_71 : decode c_M_give 71 = .ok (.iaload, 1) := by decide +kernel
theorem d_M_give_72 : decode c_M_give 72 = .ok (.if_icmp .ge 5, 3) := by decide +kernel
theorem d_M_give_75 : decode c_M_give 75 = .ok (.iload_n 3, 1) := by decide +kernel
theorem d_M_give_76 : decode c_M_give 76 = .ok (.istore_n 2, 1) := by decide +kernel
theorem d_M_give_77 : decode c_M_give 77 = .ok (.iinc 3 1, 3) := by decide +kernel
theorem d_M_give_80 : decode c_M_give 80 = .ok (.goto (-42), 3) := by decide +kernel
theorem d_M_give_83 : decode c_M_give 83 = .ok (.aload_n 0, 1) := by decide +kernel
theorem d_M_give_84 : decode c_M_give 84 = .ok (.dup, 1) := by decide +kernel
theorem d_M_give_85 : decode c_M_give 85 = .ok (.getfield 40, 3) := by decide +kernel
theorem d_M_give_88 : decode c_M_give 88 = .ok (.iconst 1, 1) := by decide +kernel
theorem d_M_give_89 : decode c_M_give 89 = .ok (.isub, 1) := by decide +kernel
theorem d_M_give_90 : decode c_M_give 90 = .ok (.putfield 40, 3) := by decide +kernel
theorem d_M_give_93 : decode c_M_give 93 = .ok (.aload_n 0, 1) := by decide +kernel
theorem d_M_give_94 : decode c_M_give 94 = .ok (.getfield 13, 3) := by decide +kernel
theorem d_M_give_97 : decode c_M_give 97 = .ok (.iload_n 2, 1) := by decide +kernel
theorem d_M_give_98 : decode c_M_give 98 = .ok (.aload_n 0, 1) := by decide +kernel
theorem d_M_give_99 : decode c_M_give 99 = .ok (.getfield 13, 3) := by decide +kernel
theorem d_M_give_102 : decode c_M_give 102 = .ok (.aload_n 0, 1) := by decide +kernel
theorem d_M_give_103 : decode c_M_give 103 = .ok (.getfield 40, 3) := by decide +kernel
theorem d_M_give_106 : decode c_M_give 106 = .ok (.iaload, 1) := by decide +kernel
theorem d_M_give_107 : decode c_M_give 107 = .ok (.iastore, 1) := by decide +kernel
theorem d_M_give_108 : decode c_M_give 108 = .ok (.aload_n 0, 1) := by decide +kernel
theorem d_M_give_109 : decode c_M_give 109 = .ok (.getfield 16, 3) := by decide +kernel
theorem d_M_give_112 : decode c_M_give 112 = .ok (.iload_n 2, 1) := by decide +kernel
theorem d_M_give_113 : decode c_M_give 113 = .ok (.aload_n 0, 1) := by decide +kernel
theorem d_M_give_114 : decode c_M_give 114 = .ok (.getfield 16, 3) := by decide +kernel
theorem d_M_give_117 : decode c_M_give 117 = .ok (.aload_n 0, 1) := by decide +kernel
theorem d_M_give_118 : decode c_M_give 118 = .ok (.getfield 40, 3) := by decide +kernel
theorem d_M_give_121 : decode c_M_give 121 = .ok (.iaload, 1) := by decide +kernel
theorem d_M_give_122 : decode c_M_give 122 = .ok (.iastore, 1) := by decide +kernel
theorem d_M_give_123 : decode c_M_give 123 = .ok (.aload_n 0, 1) := by decide +kernel
theorem d_M_give_124 : decode c_M_give 124 = .ok (.getfield 19, 3) := by decide +kernel
theorem d_M_give_127 : decode c_M_give 127 = .ok (.iload_n 2, 1) := by decide +kernel
theorem d_M_give_128 : decode c_M_give 128 = .ok (.aload_n 0, 1) := by decide +kernel
theorem d_M_give_129 : decode c_M_give 129 = .ok (.getfield 19, 3) := by decide +kernel
theorem d_M_give_132 : decode c_M_give 132 = .ok (.aload_n 0, 1) := by decide +kernel
theorem d_M_give_133 : decode c_M_give 133 = .ok (.getfield 40, 3) := by decide +kernel
theorem d_M_give_136 : decode c_M_give 136 = .ok (.iaload, 1) := by decide +kernel
theorem d_M_give_137 : decode c_M_give 137 = .ok (.iastore, 1) := by decide +kernel
theorem d_M_give_138 : decode c_M_give 138 = .ok (.aload_n 0, 1) := by decide +kernel
theorem d_M_give_139 : decode c_M_give 139 = .ok (.getfield 22, 3) := by decide +kernel
theorem d_M_give_142 : decode c_M_give 142 = .ok (.iload_n 2, 1) := by decide +kernel
theorem d_M_give_143 : decode c_M_give 143 = .ok (.aload_n 0, 1) := by decide +kernel
theorem d_M_give_144 : decode c_M_give 144 = .ok (.getfield 22, 3) := by decide +kernel
theorem d_M_give_147 : decode c_M_give 147 = .ok (.aload_n 0, 1) := by decide +kernel
theorem d_M_give_148 : decode c_M_give 148 = .ok (.getfield 40, 3) := by decide +kernel
theorem d_M_give_151 : decode c_M_give 151 = .ok (.iaload, 1) := by decide +kernel
theorem d_M_give_152 : decode c_M_give 152 = .ok (.iastore, 1) := by decide +kernel
theorem d_M_give_153 : decode c_M_give 153 = .ok (.goto (-129), 3) := by decide +kernel
theorem d_M_give_156 : decode c_M_give 156 = .ok (.return_, 1) := by decide +kernel
theorem d_M_kept_0 : decode c_M_kept 0 = .ok (.iconst 0, 1) := by decide +kernel
theorem d_M_kept_1 : decode c_M_kept 1 = .ok (.istore_n 1, 1) := by decide +kernel
theorem d_M_kept_2 : decode c_M_kept 2 = .ok (.iconst 0, 1) := by decide +kernel
theorem d_M_kept_3 : decode c_M_kept 3 = .ok (.istore_n 2, 1) := by decide +kernel
theorem d_M_kept_4 : decode c_M_kept 4 = .ok (.iload_n 2, 1) := by decide +kernel
theorem d_M_kept_5 : decode c_M_kept 5 = .ok (.aload_n 0, 1) := by decide +kernel
theorem d_M_kept_6 : decode c_M_kept 6 = .ok (.getfield 40, 3) := by decide +kernel
theorem d_M_kept_9 : decode c_M_kept 9 = .ok (.if_icmp .ge 28, 3) := by decide +kernel
theorem d_M_kept_12 : decode c_M_kept 12 = .ok (.aload_n 0, 1) := by decide +kernel
theorem d_M_kept_13 : decode c_M_kept 13 = .ok (.getfield 19, 3) := by decide +kernel
theorem d_M_kept_16 : decode c_M_kept 16 = .ok (.iload_n 2, 1) := by decide +kernel
theorem d_M_kept_17 : decode c_M_kept 17 = .ok (.iaload, 1) := by decide +kernel
theorem d_M_kept_18 : decode c_M_kept 18 = .ok (.iconst 2, 1) := by decide +kernel
theorem d_M_kept_19 : decode c_M_kept 19 = .ok (.if_icmp .ne 12, 3) := by decide +kernel
theorem d_M_kept_22 : decode c_M_kept 22 = .ok (.iload_n 1, 1) := by decide +kernel
theorem d_M_kept_23 : decode c_M_kept 23 = .ok (.aload_n 0, 1) := by decide +kernel
theorem d_M_kept_24 : decode c_M_kept 24 = .ok (.getfield 16, 3) := by decide +kernel
theorem d_M_kept_27 : decode c_M_kept 27 = .ok (.iload_n 2, 1) := by decide +kernel
theorem d_M_kept_28 : decode c_M_kept 28 = .ok (.iaload, 1) := by decide +kernel
theorem d_M_kept_29 : decode c_M_kept 29 = .ok (.iadd, 1) := by decide +kernel
theorem d_M_kept_30 : decode c_M_kept 30 = .ok (.istore_n 1, 1) := by decide +kernel
theorem d_M_kept_31 : decode c_M_kept 31 = .ok (.iinc 2 1, 3) := by decide +kernel
theorem d_M_kept_34 : decode c_M_kept 34 = .ok (.goto (-30), 3) := by decide +kernel
theorem d_M_kept_37 : decode c_M_kept 37 = .ok (.iload_n 1, 1) := by decide +kernel
theorem d_M_kept_38 : decode c_M_kept 38 = .ok (.ireturn, 1) := by decide +kernel
theorem d_M_again_0 : decode c_M_again 0 = .ok (.aload_n 0, 1) := by decide +kernel
theorem d_M_again_1 : decode c_M_again 1 = .ok (.iload_n 2, 1) := by decide +kernel
theorem d_M_again_2 : decode c_M_again 2 = .ok (.ifCond .lt 10, 3) := by decide +kernel
theorem d_M_again_5 : decode c_M_again 5 = .ok (.iload_n 2, 1) := by decide +kernel
theorem d_M_again_6 : decode c_M_again 6 = .ok (.sipush 2048, 3) := by decide +kernel
theorem d_M_again_9 : decode c_M_again 9 = .ok (.if_icmp .le 7, 3) := by decide +kernel
theorem d_M_again_12 : decode c_M_again 12 = .ok (.iconst 1, 1) := by decide +kernel
theorem d_M_again_13 : decode c_M_again 13 = .ok (.goto 4, 3) := by decide +kernel
theorem d_M_again_16 : decode c_M_again 16 = .ok (.iconst 0, 1) := by decide +kernel
theorem d_M_again_17 : decode c_M_again 17 = .ok (.iconst 1, 1) := by decide +kernel
theorem d_M_again_18 : decode c_M_again 18 = .ok (.invokevirtual 56, 3) := by decide +kernel
theorem d_M_again_21 : decode c_M_again 21 = .ok (.ifCond .eq 5, 3) := by decide +kernel
theorem d_M_again_24 : decode c_M_again 24 = .ok (.iconst 0, 1) := by decide +kernel
theorem d_M_again_25 : decode c_M_again 25 = .ok (.ireturn, 1) := by decide +kernel
theorem d_M_again_26 : decode c_M_again 26 = .ok (.aload_n 0, 1) := by decide +kernel
theorem d_M_again_27 : decode c_M_again 27 = .ok (.iload_n 1, 1) := by decide +kernel
theorem d_M_again_28 : decode c_M_again 28 = .ok (.iconst 1, 1) := by decide +kernel
theorem d_M_again_29 : decode c_M_again 29 = .ok (.invokevirtual 63, 3) := by decide +kernel
theorem d_M_again_32 : decode c_M_again 32 = .ok (.istore_n 3, 1) := by decide +kernel
theorem d_M_again_33 : decode c_M_again 33 = .ok (.aload_n 0, 1) := by decide +kernel
theorem d_M_again_34 : decode c_M_again 34 = .ok (.iload_n 3, 1) := by decide +kernel
theorem d_M_again_35 : decode c_M_again 35 = .ok (.ifCond .ge 7, 3) := by decide +kernel
theorem d_M_again_38 : decode c_M_again 38 = .ok (.iconst 1, 1) := by decide +kernel
theorem d_M_again_39 : decode c_M_again 39 = .ok (.goto 4, 3) := by decide +kernel
theorem d_M_again_42 : decode c_M_again 42 = .ok (.iconst 0, 1) := by decide +kernel
theorem d_M_again_43 : decode c_M_again 43 = .ok (.aload_n 0, 1) := by decide +kernel
theorem d_M_again_44 : decode c_M_again 44 = .ok (.iload_n 1, 1) := by decide +kernel
theorem d_M_again_45 : decode c_M_again 45 = .ok (.iconst 2, 1) := by decide +kernel
theorem d_M_again_46 : decode c_M_again 46 = .ok (.invokevirtual 63, 3) := by decide +kernel
theorem d_M_again_49 : decode c_M_again 49 = .ok (.ifCond .lt 7, 3) := by decide +kernel
theorem d_M_again_52 : decode c_M_again 52 = .ok (.iconst 2, 1) := by decide +kernel
theorem d_M_again_53 : decode c_M_again 53 = .ok (.goto 4, 3) := by decide +kernel
theorem d_M_again_56 : decode c_M_again 56 = .ok (.iconst 1, 1) := by decide +kernel
theorem d_M_again_57 : decode c_M_again 57 = .ok (.invokevirtual 56, 3) := by decide +kernel
theorem d_M_again_60 : decode c_M_again 60 = .ok (.ifCond .eq 5, 3) := by decide +kernel
theorem d_M_again_63 : decode c_M_again 63 = .ok (.iconst 0, 1) := by decide +kernel
theorem d_M_again_64 : decode c_M_again 64 = .ok (.ireturn, 1) := by decide +kernel
theorem d_M_again_65 : decode c_M_again 65 = .ok (.aload_n 0, 1) := by decide +kernel
theorem d_M_again_66 : decode c_M_again 66 = .ok (.iload_n 2, 1) := by decide +kernel
theorem d_M_again_67 : decode c_M_again 67 = .ok (.invokevirtual 60, 3) := by decide +kernel
theorem d_M_again_70 : decode c_M_again 70 = .ok (.istore 4, 2) := by decide +kernel
theorem d_M_again_72 : decode c_M_again 72 = .ok (.iload 4, 2) := by decide +kernel
theorem d_M_again_74 : decode c_M_again 74 = .ok (.ifCond .ne 5, 3) := by decide +kernel
theorem d_M_again_77 : decode c_M_again 77 = .ok (.iconst 0, 1) := by decide +kernel
theorem d_M_again_78 : decode c_M_again 78 = .ok (.ireturn, 1) := by decide +kernel
theorem d_M_again_79 : decode c_M_again 79 = .ok (.iconst 0, 1) := by decide +kernel
theorem d_M_again_80 : decode c_M_again 80 = .ok (.istore 5, 2) := by decide +kernel
theorem d_M_again_82 : decode c_M_again 82 = .ok (.iload 5, 2) := by decide +kernel
theorem d_M_again_84 : decode c_M_again 84 = .ok (.iload_n 2, 1) := by decide +kernel
theorem d_M_again_85 : decode c_M_again 85 = .ok (.if_icmp .ge 39, 3) := by decide +kernel
theorem d_M_again_88 : decode c_M_again 88 = .ok (.iload 5, 2) := by decide +kernel
theorem d_M_again_90 : decode c_M_again 90 = .ok (.aload_n 0, 1) := by decide +kernel
theorem d_M_again_91 : decode c_M_again 91 = .ok (.getfield 16, 3) := by decide +kernel
theorem d_M_again_94 : decode c_M_again 94 = .ok (.iload_n 3, 1) := by decide +kernel
theorem d_M_again_95 : decode c_M_again 95 = .ok (.iaload, 1) := by decide +kernel
theorem d_M_again_96 : decode c_M_again 96 = .ok (.if_icmp .ge 28, 3) := by decide +kernel
theorem d_M_again_99 : decode c_M_again 99 = .ok (.aload_n 0, 1) := by decide +kernel
theorem d_M_again_100 : decode c_M_again 100 = .ok (.getfield 7, 3) := by decide +kernel
theorem d_M_again_103 : decode c_M_again 103 = .ok (.iload 4, 2) := by decide +kernel
theorem d_M_again_105 : decode c_M_again 105 = .ok (.iload 5, 2) := by decide +kernel
theorem d_M_again_107 : decode c_M_again 107 = .ok (.iadd, 1) := by decide +kernel
theorem d_M_again_108 : decode c_M_again 108 = .ok (.aload_n 0, 1) := by decide +kernel
theorem d_M_again_109 : decode c_M_again 109 = .ok (.getfield 7, 3) := by decide +kernel
theorem d_M_again_112 : decode c_M_again 112 = .ok (.iload_n 1, 1) := by decide +kernel
theorem d_M_again_113 : decode c_M_again 113 = .ok (.iload 5, 2) := by decide +kernel
theorem d_M_again_115 : decode c_M_again 115 = .ok (.iadd, 1) := by decide +kernel
theorem d_M_again_116 : decode c_M_again 116 = .ok (.iaload, 1) := by decide +kernel
theorem d_M_again_117 : decode c_M_again 117 = .ok (.iastore, 1) := by decide +kernel
theorem d_M_again_118 : decode c_M_again 118 = .ok (.iinc 5 1, 3) := by decide +kernel
theorem d_M_again_121 : decode c_M_again 121 = .ok (.goto (-39), 3) := by decide +kernel
theorem d_M_again_124 : decode c_M_again 124 = .ok (.aload_n 0, 1) := by decide +kernel
theorem d_M_again_125 : decode c_M_again 125 = .ok (.iload_n 3, 1) := by decide +kernel
theorem d_M_again_126 : decode c_M_again 126 = .ok (.invokevirtual 67, 3) := by decide +kernel
theorem d_M_again_129 : decode c_M_again 129 = .ok (.iload 4, 2) := by decide +kernel
theorem d_M_again_131 : decode c_M_again 131 = .ok (.ireturn, 1) := by decide +kernel
theorem d_M_kind_0 : decode c_M_kind 0 = .ok (.aload_n 0, 1) := by decide +kernel
theorem d_M_kind_1 : decode c_M_kind 1 = .ok (.iload_n 1, 1) := by decide +kernel
theorem d_M_kind_2 : decode c_M_kind 2 = .ok (.ifCond .lt 10, 3) := by decide +kernel
theorem d_M_kind_5 : decode c_M_kind 5 = .ok (.iload_n 1, 1) := by decide +kernel
theorem d_M_kind_6 : decode c_M_kind 6 = .ok (.sipush 8192, 3) := by decide +kernel
theorem d_M_kind_9 : decode c_M_kind 9 = .ok (.if_icmp .lt 7, 3) := by decide +kernel
theorem d_M_kind_12 : decode c_M_kind 12 = .ok (.iconst 1, 1) := by decide +kernel
theorem d_M_kind_13 : decode c_M_kind 13 = .ok (.goto 4, 3) := by decide +kernel
theorem d_M_kind_16 : decode c_M_kind 16 = .ok (.iconst 0, 1) := by decide +kernel
theorem d_M_kind_17 : decode c_M_kind 17 = .ok (.iconst 1, 1) := by decide +kernel
theorem d_M_kind_18 : decode c_M_kind 18 = .ok (.invokevirtual 56, 3) := by decide +kernel
theorem d_M_kind_21 : decode c_M_kind 21 = .ok (.ifCond .eq 5, 3) := by decide +kernel
theorem d_M_kind_24 : decode c_M_kind 24 = .ok (.iconst 0, 1) := by decide +kernel
theorem d_M_kind_25 : decode c_M_kind 25 = .ok (.ireturn, 1) := by decide +kernel
theorem d_M_kind_26 : decode c_M_kind 26 = .ok (.aload_n 0, 1) := by decide +kernel
theorem d_M_kind_27 : decode c_M_kind 27 = .ok (.iload_n 1, 1) := by decide +kernel
theorem d_M_kind_28 : decode c_M_kind 28 = .ok (.iconst 1, 1) := by decide +kernel
theorem d_M_kind_29 : decode c_M_kind 29 = .ok (.invokevirtual 71, 3) := by decide +kernel
theorem d_M_kind_32 : decode c_M_kind 32 = .ok (.ifCond .lt 5, 3) := by decide +kernel
theorem d_M_kind_35 : decode c_M_kind 35 = .ok (.iconst 1, 1) := by decide +kernel
theorem d_M_kind_36 : decode c_M_kind 36 = .ok (.ireturn, 1) := by decide +kernel
theorem d_M_kind_37 : decode c_M_kind 37 = .ok (.aload_n 0, 1) := by decide +kernel
theorem d_M_kind_38 : decode c_M_kind 38 = .ok (.iload_n 1, 1) := by decide +kernel
theorem d_M_kind_39 : decode c_M_kind 39 = .ok (.iconst 2, 1) := by decide +kernel
theorem d_M_kind_40 : decode c_M_kind 40 = .ok (.invokevirtual 71, 3) := by decide +kernel
theorem d_M_kind_43 : decode c_M_kind 43 = .ok (.ifCond .lt 5, 3) := by decide +kernel
theorem d_M_kind_46 : decode c_M_kind 46 = .ok (.iconst 2, 1) := by decide +kernel
theorem d_M_kind_47 : decode c_M_kind 47 = .ok (.ireturn, 1) := by decide +kernel
theorem d_M_kind_48 : decode c_M_kind 48 = .ok (.iconst 0, 1) := by decide +kernel
theorem d_M_kind_49 : decode c_M_kind 49 = .ok (.istore_n 2, 1) := by decide +kernel
theorem d_M_kind_50 : decode c_M_kind 50 = .ok (.iload_n 2, 1) := by decide +kernel
theorem d_M_kind_51 : decode c_M_kind 51 = .ok (.aload_n 0, 1) := by decide +kernel
theorem d_M_kind_52 : decode c_M_kind 52 = .ok (.getfield 40, 3) := by decide +kernel
theorem d_M_kind_55 : decode c_M_kind 55 = .ok (.if_icmp .ge 47, 3) := by decide +kernel
theorem d_M_kind_58 : decode c_M_kind 58 = .ok (.iload_n 1, 1) := by decide +kernel
theorem d_M_kind_59 : decode c_M_kind 59 = .ok (.aload_n 0, 1) := by decide +kernel
theorem d_M_kind_60 : decode c_M_kind 60 = .ok (.getfield 13, 3) := by decide +kernel
theorem d_M_kind_63 : decode c_M_kind 63 = .ok (.iload_n 2, 1) := by decide +kernel
theorem d_M_kind_64 : decode c_M_kind 64 = .ok (.iaload, 1) := by decide +kernel
theorem d_M_kind_65 : decode c_M_kind 65 = .ok (.bipush 16, 2) := by decide +kernel
theorem d_M_kind_67 : decode c_M_kind 67 = .ok (.isub, 1) := by decide +kernel
theorem d_M_kind_68 : decode c_M_kind 68 = .ok (.if_icmp .lt 28, 3) := by decide +kernel
theorem d_M_kind_71 : decode c_M_kind 71 = .ok (.iload_n 1, 1) := by decide +kernel
theorem d_M_kind_72 : decode c_M_kind 72 = .ok (.aload_n 0, 1) := by decide +kernel
theorem d_M_kind_73 : decode c_M_kind 73 = .ok (.getfield 13, 3) := by decide +kernel
theorem d_M_kind_76 : decode c_M_kind 76 = .ok (.iload_n 2, 1) := by decide +kernel
theorem d_M_kind_77 : decode c_M_kind 77 = .ok (.iaload, 1) := by decide +kernel
theorem d_M_kind_78 : decode c_M_kind 78 = .ok (.aload_n 0, 1) := by decide +kernel
theorem d_M_kind_79 : decode c_M_kind 79 = .ok (.getfield 16, 3) := by decide +kernel
theorem d_M_kind_82 : decode c_M_kind 82 = .ok (.iload_n 2, 1) := by decide +kernel
theorem d_M_kind_83 : decode c_M_kind 83 = .ok (.iaload, 1) := by decide +kernel
theorem d_M_kind_84 : decode c_M_kind 84 = .ok (.invokestatic 36, 3) := by decide +kernel
theorem d_M_kind_87 : decode c_M_kind 87 = .ok (.iadd, 1) := by decide +kernel
theorem d_M_kind_88 : decode c_M_kind 88 = .ok (.bipush 16, 2) := by decide +kernel
theorem d_M_kind_90 : decode c_M_kind 90 = .ok (.iadd, 1) := by decide +kernel
theorem d_M_kind_91 : decode c_M_kind 91 = .ok (.if_icmp .ge 5, 3) := by decide +kernel
theorem d_M_kind_94 : decode c_M_kind 94 = .ok (.iconst 3, 1) := by decide +kernel
theorem d_M_kind_95 : decode c_M_kind 95 = .ok (.ireturn, 1) := by decide +kernel
theorem d_M_kind_96 : decode c_M_kind 96 = .ok (.iinc 2 1, 3) := by decide +kernel
theorem d_M_kind_99 : decode c_M_kind 99 = .ok (.goto (-49), 3) := by decide +kernel
theorem d_M_kind_102 : decode c_M_kind 102 = .ok (.iconst 0, 1) := by decide +kernel
theorem d_M_kind_103 : decode c_M_kind 103 = .ok (.ireturn, 1) := by decide +kernel
theorem d_M_of_0 : decode c_M_of 0 = .ok (.iconst 0, 1) := by decide +kernel
theorem d_M_of_1 : decode c_M_of 1 = .ok (.istore_n 3, 1) := by decide +kernel
theorem d_M_of_2 : decode c_M_of 2 = .ok (.iload_n 3, 1) := by decide +kernel
theorem d_M_of_3 : decode c_M_of 3 = .ok (.aload_n 0, 1) := by decide +kernel
theorem d_M_of_4 : decode c_M_of 4 = .ok (.getfield 40, 3) := by decide +kernel
theorem d_M_of_7 : decode c_M_of 7 = .ok (.if_icmp .ge 48, 3) := by decide +kernel
theorem d_M_of_10 : decode c_M_of 10 = .ok (.aload_n 0, 1) := by decide +kernel
theorem d_M_of_11 : decode c_M_of 11 = .ok (.getfield 19, 3) := by decide +kernel
theorem d_M_of_14 : decode c_M_of 14 = .ok (.iload_n 3, 1) := by decide +kernel
theorem d_M_of_15 : decode c_M_of 15 = .ok (.iaload, 1) := by decide +kernel
theorem d_M_of_16 : decode c_M_of 16 = .ok (.iload_n 2, 1) := by decide +kernel
theorem d_M_of_17 : decode c_M_of 17 = .ok (.if_icmp .ne 32, 3) := by decide +kernel
theorem d_M_of_20 : decode c_M_of 20 = .ok (.iload_n 1, 1) := by decide +kernel
theorem d_M_of_21 : decode c_M_of 21 = .ok (.aload_n 0, 1) := by decide +kernel
theorem d_M_of_22 : decode c_M_of 22 = .ok (.getfield 13, 3) := by decide +kernel
theorem d_M_of_25 : decode c_M_of 25 = .ok (.iload_n 3, 1) := by decide +kernel
theorem d_M_of_26 : decode c_M_of 26 = .ok (.iaload, 1) := by decide +kernel
theorem d_M_of_27 : decode c_M_of 27 = .ok (.if_icmp .lt 22, 3) := by decide +kernel
theorem d_M_of_30 : decode c_M_of 30 = .ok (.iload_n 1, 1) := by decide +kernel
theorem d_M_of_31 : decode c_M_of 31 = .ok (.aload_n 0, 1) := by decide +kernel
theorem d_M_of_32 : decode c_M_of 32 = .ok (.getfield 13, 3) := by decide +kernel
theorem d_M_of_35 : decode c_M_of 35 = .ok (.iload_n 3, 1) := by decide +kernel
theorem d_M_of_36 : decode c_M_of 36 = .ok (.iaload, 1) := by decide +kernel
theorem d_M_of_37 : decode c_M_of 37 = .ok (.aload_n 0, 1) := by decide +kernel
theorem d_M_of_38 : decode c_M_of 38 = .ok (.getfield 16, 3) := by decide +kernel
theorem d_M_of_41 : decode c_M_of 41 = .ok (.iload_n 3, 1) := by decide +kernel
theorem d_M_of_42 : decode c_M_of 42 = .ok (.iaload, 1) := by decide +kernel
theorem d_M_of_43 : decode c_M_of 43 = .ok (.iadd, 1) := by decide +kernel
theorem d_M_of_44 : decode c_M_of 44 = .ok (.if_icmp .ge 5, 3) := by decide +kernel
theorem d_M_of_47 : decode c_M_of 47 = .ok (.iload_n 3, 1) := by decide +kernel
theorem d_M_of_48 : decode c_M_of 48 = .ok (.ireturn, 1) := by decide +kernel
theorem d_M_of_49 : decode c_M_of 49 = .ok (.iinc 3 1, 3) := by decide +kernel
theorem d_M_of_52 : decode c_M_of 52 = .ok (.goto (-50), 3) := by decide +kernel
theorem d_M_of_55 : decode c_M_of 55 = .ok (.iconst (-1), 1) := by decide +kernel
theorem d_M_of_56 : decode c_M_of 56 = .ok (.ireturn, 1) := by decide +kernel
theorem d_M_block_0 : decode c_M_block 0 = .ok (.aload_n 0, 1) := by decide +kernel
theorem d_M_block_1 : decode c_M_block 1 = .ok (.iload_n 1, 1) := by decide +kernel
theorem d_M_block_2 : decode c_M_block 2 = .ok (.ifCond .lt 10, 3) := by decide +kernel
theorem d_M_block_5 : decode c_M_block 5 = .ok (.iload_n 1, 1) := by decide +kernel
theorem d_M_block_6 : decode c_M_block 6 = .ok (.sipush 8192, 3) := by decide +kernel
theorem d_M_block_9 : decode c_M_block 9 = .ok (.if_icmp .lt 7, 3) := by decide +kernel
theorem d_M_block_12 : decode c_M_block 12 = .ok (.iconst 1, 1) := by decide +kernel
theorem d_M_block_13 : decode c_M_block 13 = .ok (.goto 4, 3) := by decide +kernel
theorem d_M_block_16 : decode c_M_block 16 = .ok (.iconst 0, 1) := by decide +kernel
theorem d_M_block_17 : decode c_M_block 17 = .ok (.iconst 1, 1) := by decide +kernel
theorem d_M_block_18 : decode c_M_block 18 = .ok (.invokevirtual 56, 3) := by decide +kernel
theorem d_M_block_21 : decode c_M_block 21 = .ok (.ifCond .eq 5, 3) := by decide +kernel
theorem d_M_block_24 : decode c_M_block 24 = .ok (.iconst 0, 1) := by decide +kernel
theorem d_M_block_25 : decode c_M_block 25 = .ok (.ireturn, 1) := by decide +kernel
theorem d_M_block_26 : decode c_M_block 26 = .ok (.aload_n 0, 1) := by decide +kernel
theorem d_M_block_27 : decode c_M_block 27 = .ok (.iload_n 1, 1) := by decide +kernel
theorem d_M_block_28 : decode c_M_block 28 = .ok (.iconst 1, 1) := by decide +kernel
theorem d_M_block_29 : decode c_M_block 29 = .ok (.invokevirtual 71, 3) := by decide +kernel
theorem d_M_block_32 : decode c_M_block 32 = .ok (.istore_n 2, 1) := by decide +kernel
theorem d_M_block_33 : decode c_M_block 33 = .ok (.iload_n 2, 1) := by decide +kernel
theorem d_M_block_34 : decode c_M_block 34 = .ok (.ifCond .ge 7, 3) := by decide +kernel
theorem d_M_block_37 : decode c_M_block 37 = .ok (.iconst (-1), 1) := by decide +kernel
theorem d_M_block_38 : decode c_M_block 38 = .ok (.goto 9, 3) := by decide +kernel
theorem d_M_block_41 : decode c_M_block 41 = .ok (.aload_n 0, 1) := by decide +kernel
theorem d_M_block_42 : decode c_M_block 42 = .ok (.getfield 13, 3) := by decide +kernel
theorem d_M_block_45 : decode c_M_block 45 = .ok (.iload_n 2, 1) := by decide +kernel
theorem d_M_block_46 : decode c_M_block 46 = .ok (.iaload, 1) := by decide +kernel
theorem d_M_block_47 : decode c_M_block 47 = .ok (.ireturn, 1) := by decide +kernel
theorem d_M_write_0 : decode c_M_write 0 = .ok (.aload_n 0, 1) := by decide +kernel
theorem d_M_write_1 : decode c_M_write 1 = .ok (.iload_n 1, 1) := by decide +kernel
theorem d_M_write_2 : decode c_M_write 2 = .ok (.invokevirtual 74, 3) := by decide +kernel
theorem d_M_write_5 : decode c_M_write 5 = .ok (.ifCond .eq 4, 3) := by decide +kernel
theorem d_M_write_8 : decode c_M_write 8 = .ok (.return_, 1) := by decide +kernel
theorem d_M_write_9 : decode c_M_write 9 = .ok (.iconst 0, 1) := by decide +kernel
theorem d_M_write_10 : decode c_M_write 10 = .ok (.istore_n 3, 1) := by decide +kernel
theorem d_M_write_11 : decode c_M_write 11 = .ok (.iload_n 3, 1) := by decide +kernel
theorem d_M_write_12 : decode c_M_write 12 = .ok (.iconst 4, 1) := by decide +kernel
theorem d_M_write_13 : decode c_M_write 13 = .ok (.if_icmp .ge 27, 3) := by decide +kernel
theorem d_M_write_16 : decode c_M_write 16 = .ok (.aload_n 0, 1) := by decide +kernel
theorem d_M_write_17 : decode c_M_write 17 = .ok (.getfield 7, 3) := by decide +kernel
theorem d_M_write_20 : decode c_M_write 20 = .ok (.iload_n 1, 1) := by decide +kernel
theorem d_M_write_21 : decode c_M_write 21 = .ok (.iload_n 3, 1) := by decide +kernel
theorem d_M_write_22 : decode c_M_write 22 = .ok (.iadd, 1) := by decide +kernel
theorem d_M_write_23 : decode c_M_write 23 = .ok (.iload_n 2, 1) := by decide +kernel
theorem d_M_write_24 : decode c_M_write 24 = .ok (.bipush 8, 2) := by decide +kernel
theorem d_M_write_26 : decode c_M_write 26 = .ok (.iload_n 3, 1) := by decide +kernel
theorem d_M_write_27 : decode c_M_write 27 = .ok (.imul, 1) := by decide +kernel
theorem d_M_write_28 : decode c_M_write 28 = .ok (.ishr, 1) := by decide +kernel
theorem d_M_write_29 : decode c_M_write 29 = .ok (.sipush 255, 3) := by decide +kernel
theorem d_M_write_32 : decode c_M_write 32 = .ok (.iand, 1) := by decide +kernel
theorem d_M_write_33 : decode c_M_write 33 = .ok (.iastore, 1) := by decide +kernel
theorem d_M_write_34 : decode c_M_write 34 = .ok (.iinc 3 1, 3) := by decide +kernel
theorem d_M_write_37 : decode c_M_write 37 = .ok (.goto (-26), 3) := by decide +kernel
theorem d_M_write_40 : decode c_M_write 40 = .ok (.return_, 1) := by decide +kernel
theorem d_M_bad_0 : decode c_M_bad 0 = .ok (.aload_n 0, 1) := by decide +kernel
theorem d_M_bad_1 : decode c_M_bad 1 = .ok (.iload_n 1, 1) := by decide +kernel
theorem d_M_bad_2 : decode c_M_bad 2 = .ok (.ifCond .lt 10, 3) := by decide +kernel
theorem d_M_bad_5 : decode c_M_bad 5 = .ok (.iload_n 1, 1) := by decide +kernel
theorem d_M_bad_6 : decode c_M_bad 6 = .ok (.sipush 8188, 3) := by decide +kernel
theorem d_M_bad_9 : decode c_M_bad 9 = .ok (.if_icmp .le 7, 3) := by decide +kernel
theorem d_M_bad_12 : decode c_M_bad 12 = .ok (.iconst 1, 1) := by decide +kernel
theorem d_M_bad_13 : decode c_M_bad 13 = .ok (.goto 4, 3) := by decide +kernel
theorem d_M_bad_16 : decode c_M_bad 16 = .ok (.iconst 0, 1) := by decide +kernel
theorem d_M_bad_17 : decode c_M_bad 17 = .ok (.iconst 1, 1) := by decide +kernel
theorem d_M_bad_18 : decode c_M_bad 18 = .ok (.invokevirtual 56, 3) := by decide +kernel
theorem d_M_bad_21 : decode c_M_bad 21 = .ok (.ifCond .eq 5, 3) := by decide +kernel
theorem d_M_bad_24 : decode c_M_bad 24 = .ok (.iconst 1, 1) := by decide +kernel
theorem d_M_bad_25 : decode c_M_bad 25 = .ok (.ireturn, 1) := by decide +kernel
theorem d_M_bad_26 : decode c_M_bad 26 = .ok (.iconst 0, 1) := by decide +kernel
theorem d_M_bad_27 : decode c_M_bad 27 = .ok (.istore_n 2, 1) := by decide +kernel
theorem d_M_bad_28 : decode c_M_bad 28 = .ok (.iload_n 2, 1) := by decide +kernel
theorem d_M_bad_29 : decode c_M_bad 29 = .ok (.iconst 4, 1) := by decide +kernel
theorem d_M_bad_30 : decode c_M_bad 30 = .ok (.if_icmp .ge 35, 3) := by decide +kernel
theorem d_M_bad_33 : decode c_M_bad 33 = .ok (.aload_n 0, 1) := by decide +kernel
theorem d_M_bad_34 : decode c_M_bad 34 = .ok (.aload_n 0, 1) := by decide +kernel
theorem d_M_bad_35 : decode c_M_bad 35 = .ok (.iload_n 1, 1) := by decide +kernel
theorem d_M_bad_36 : decode c_M_bad 36 = .ok (.iload_n 2, 1) := by decide +kernel
theorem d_M_bad_37 : decode c_M_bad 37 = .ok (.iadd, 1) := by decide +kernel
theorem d_M_bad_38 : decode c_M_bad 38 = .ok (.iconst 1, 1) := by decide +kernel
theorem d_M_bad_39 : decode c_M_bad 39 = .ok (.invokevirtual 71, 3) := by decide +kernel
theorem d_M_bad_42 : decode c_M_bad 42 = .ok (.ifCond .ge 7, 3) := by decide +kernel
theorem d_M_bad_45 : decode c_M_bad 45 = .ok (.iconst 1, 1) := by decide +kernel
theorem d_M_bad_46 : decode c_M_bad 46 = .ok (.goto 4, 3) := by decide +kernel
theorem d_M_bad_49 : decode c_M_bad 49 = .ok (.iconst 0, 1) := by decide +kernel
theorem d_M_bad_50 : decode c_M_bad 50 = .ok (.iconst 2, 1) := by decide +kernel
theorem d_M_bad_51 : decode c_M_bad 51 = .ok (.invokevirtual 56, 3) := by decide +kernel
theorem d_M_bad_54 : decode c_M_bad 54 = .ok (.ifCond .eq 5, 3) := by decide +kernel
theorem d_M_bad_57 : decode c_M_bad 57 = .ok (.iconst 1, 1) := by decide +kernel
theorem d_M_bad_58 : decode c_M_bad 58 = .ok (.ireturn, 1) := by decide +kernel
theorem d_M_bad_59 : decode c_M_bad 59 = .ok (.iinc 2 1, 3) := by decide +kernel
theorem d_M_bad_62 : decode c_M_bad 62 = .ok (.goto (-34), 3) := by decide +kernel
theorem d_M_bad_65 : decode c_M_bad 65 = .ok (.iconst 0, 1) := by decide +kernel
theorem d_M_bad_66 : decode c_M_bad 66 = .ok (.ireturn, 1) := by decide +kernel
theorem d_M_read_0 : decode c_M_read 0 = .ok (.aload_n 0, 1) := by decide +kernel
theorem d_M_read_1 : decode c_M_read 1 = .ok (.iload_n 1, 1) := by decide +kernel
theorem d_M_read_2 : decode c_M_read 2 = .ok (.invokevirtual 74, 3) := by decide +kernel
theorem d_M_read_5 : decode c_M_read 5 = .ok (.ifCond .eq 7, 3) := by decide +kernel
theorem d_M_read_8 : decode c_M_read 8 = .ok (.iconst 0, 1) := by decide +kernel
theorem d_M_read_9 : decode c_M_read 9 = .ok (.goto 8, 3) := by decide +kernel
theorem d_M_read_12 : decode c_M_read 12 = .ok (.aload_n 0, 1) := by decide +kernel
theorem d_M_read_13 : decode c_M_read 13 = .ok (.iload_n 1, 1) := by decide +kernel
theorem d_M_read_14 : decode c_M_read 14 = .ok (.invokevirtual 78, 3) := by decide +kernel
theorem d_M_read_17 : decode c_M_read 17 = .ok (.ireturn, 1) := by decide +kernel
theorem d_M_word_0 : decode c_M_word 0 = .ok (.aload_n 0, 1) := by decide +kernel
theorem d_M_word_1 : decode c_M_word 1 = .ok (.getfield 7, 3) := by decide +kernel
theorem d_M_word_4 : decode c_M_word 4 = .ok (.iload_n 1, 1) := by decide +kernel
theorem d_M_word_5 : decode c_M_word 5 = .ok (.iaload, 1) := by decide +kernel
theorem d_M_word_6 : decode c_M_word 6 = .ok (.aload_n 0, 1) := by decide +kernel
theorem d_M_word_7 : decode c_M_word 7 = .ok (.getfield 7, 3) := by decide +kernel
theorem d_M_word_10 : decode c_M_word 10 = .ok (.iload_n 1, 1) := by decide +kernel
theorem d_M_word_11 : decode c_M_word 11 = .ok (.iconst 1, 1) := by decide +kernel
theorem d_M_word_12 : decode c_M_word 12 = .ok (.iadd, 1) := by decide +kernel
theorem d_M_word_13 : decode c_M_word 13 = .ok (.iaload, 1) := by decide +kernel
theorem d_M_word_14 : decode c_M_word 14 = .ok (.bipush 8, 2) := by decide +kernel
theorem d_M_word_16 : decode c_M_word 16 = .ok (.ishl, 1) := by decide +kernel
theorem d_M_word_17 : decode c_M_word 17 = .ok (.ior, 1) := by decide +kernel
theorem d_M_word_18 : decode c_M_word 18 = .ok (.aload_n 0, 1) := by decide +kernel
theorem d_M_word_19 : decode c_M_word 19 = .ok (.getfield 7, 3) := by decide +kernel
theorem d_M_word_22 : decode c_M_word 22 = .ok (.iload_n 1, 1) := by decide +kernel
theorem d_M_word_23 : decode c_M_word 23 = .ok (.iconst 2, 1) := by decide +kernel
theorem d_M_word_24 : decode c_M_word 24 = .ok (.iadd, 1) := by decide +kernel
theorem d_M_word_25 : decode c_M_word 25 = .ok (.iaload, 1) := by decide +kernel
theorem d_M_word_26 : decode c_M_word 26 = .ok (.bipush 16, 2) := by decide +kernel
theorem d_M_word_28 : decode c_M_word 28 = .ok (.ishl, 1) := by decide +kernel
theorem d_M_word_29 : decode c_M_word 29 = .ok (.ior, 1) := by decide +kernel
theorem d_M_word_30 : decode c_M_word 30 = .ok (.aload_n 0, 1) := by decide +kernel
theorem d_M_word_31 : decode c_M_word 31 = .ok (.getfield 7, 3) := by decide +kernel
theorem d_M_word_34 : decode c_M_word 34 = .ok (.iload_n 1, 1) := by decide +kernel
theorem d_M_word_35 : decode c_M_word 35 = .ok (.iconst 3, 1) := by decide +kernel
theorem d_M_word_36 : decode c_M_word 36 = .ok (.iadd, 1) := by decide +kernel
theorem d_M_word_37 : decode c_M_word 37 = .ok (.iaload, 1) := by decide +kernel
theorem d_M_word_38 : decode c_M_word 38 = .ok (.bipush 24, 2) := by decide +kernel
theorem d_M_word_40 : decode c_M_word 40 = .ok (.ishl, 1) := by decide +kernel
theorem d_M_word_41 : decode c_M_word 41 = .ok (.ior, 1) := by decide +kernel
theorem d_M_word_42 : decode c_M_word 42 = .ok (.ireturn, 1) := by decide +kernel
theorem d_M_lost_0 : decode c_M_lost 0 = .ok (.aload_n 0, 1) := by decide +kernel
theorem d_M_lost_1 : decode c_M_lost 1 = .ok (.iconst 0, 1) := by decide +kernel
theorem d_M_lost_2 : decode c_M_lost 2 = .ok (.putfield 32, 3) := by decide +kernel
theorem d_M_lost_5 : decode c_M_lost 5 = .ok (.iconst 0, 1) := by decide +kernel
theorem d_M_lost_6 : decode c_M_lost 6 = .ok (.istore_n 3, 1) := by decide +kernel
theorem d_M_lost_7 : decode c_M_lost 7 = .ok (.iload_n 3, 1) := by decide +kernel
theorem d_M_lost_8 : decode c_M_lost 8 = .ok (.aload_n 0, 1) := by decide +kernel
theorem d_M_lost_9 : decode c_M_lost 9 = .ok (.getfield 40, 3) := by decide +kernel
theorem d_M_lost_12 : decode c_M_lost 12 = .ok (.if_icmp .ge 16, 3) := by decide +kernel
theorem d_M_lost_15 : decode c_M_lost 15 = .ok (.aload_n 0, 1) := by decide +kernel
theorem d_M_lost_16 : decode c_M_lost 16 = .ok (.getfield 25, 3) := by decide +kernel
theorem d_M_lost_19 : decode c_M_lost 19 = .ok (.iload_n 3, 1) := by decide +kernel
theorem d_M_lost_20 : decode c_M_lost 20 = .ok (.iconst 0, 1) := by decide +kernel
theorem d_M_lost_21 : decode c_M_lost 21 = .ok (.bastore, 1) := by decide +kernel
theorem d_M_lost_22 : decode c_M_lost 22 = .ok (.iinc 3 1, 3) := by decide +kernel
theorem d_M_lost_25 : decode c_M_lost 25 = .ok (.goto (-18), 3) := by decide +kernel
theorem d_M_lost_28 : decode c_M_lost 28 = .ok (.aload_n 0, 1) := by decide +kernel
theorem d_M_lost_29 : decode c_M_lost 29 = .ok (.iload_n 1, 1) := by decide +kernel
theorem d_M_lost_30 : decode c_M_lost 30 = .ok (.invokevirtual 84, 3) := by decide +kernel
theorem d_M_lost_33 : decode c_M_lost 33 = .ok (.aload_n 0, 1) := by decide +kernel
theorem d_M_lost_34 : decode c_M_lost 34 = .ok (.iload_n 2, 1) := by decide +kernel
theorem d_M_lost_35 : decode c_M_lost 35 = .ok (.invokevirtual 84, 3) := by decide +kernel
theorem d_M_lost_38 : decode c_M_lost 38 = .ok (.ior, 1) := by decide +kernel
theorem d_M_lost_39 : decode c_M_lost 39 = .ok (.istore_n 3, 1) := by decide +kernel
theorem d_M_lost_40 : decode c_M_lost 40 = .ok (.iload_n 3, 1) := by decide +kernel
theorem d_M_lost_41 : decode c_M_lost 41 = .ok (.ifCond .eq 80, 3) := by decide +kernel
theorem d_M_lost_44 : decode c_M_lost 44 = .ok (.iconst 0, 1) := by decide +kernel
theorem d_M_lost_45 : decode c_M_lost 45 = .ok (.istore_n 3, 1) := by decide +kernel
theorem d_M_lost_46 : decode c_M_lost 46 = .ok (.iconst 0, 1) := by decide +kernel
theorem d_M_lost_47 : decode c_M_lost 47 = .ok (.istore 4, 2) := by decide +kernel
theorem d_M_lost_49 : decode c_M_lost 49 = .ok (.iload 4, 2) := by decide +kernel
theorem d_M_lost_51 : decode c_M_lost 51 = .ok (.aload_n 0, 1) := by decide +kernel
theorem d_M_lost_52 : decode c_M_lost 52 = .ok (.getfield 40, 3) := by decide +kernel
theorem d_M_lost_55 : decode c_M_lost 55 = .ok (.if_icmp .ge 63, 3) := by decide +kernel
theorem d_M_lost_58 : decode c_M_lost 58 = .ok (.aload_n 0, 1) := by decide +kernel
theorem d_M_lost_59 : decode c_M_lost 59 = .ok (.getfield 25, 3) := by decide +kernel
theorem d_M_lost_62 : decode c_M_lost 62 = .ok (.iload 4, 2) := by decide +kernel
theorem d_M_lost_64 : decode c_M_lost 64 = .ok (.baload, 1) := by decide +kernel
theorem d_M_lost_65 : decode c_M_lost 65 = .ok (.ifCond .eq 47, 3) := by decide +kernel
theorem d_M_lost_68 : decode c_M_lost 68 = .ok (.iconst 0, 1) := by decide +kernel
theorem d_M_lost_69 : decode c_M_lost 69 = .ok (.istore 5, 2) := by decide +kernel
theorem d_M_lost_71 : decode c_M_lost 71 = .ok (.iload 5, 2) := by decide +kernel
theorem d_M_lost_73 : decode c_M_lost 73 = .ok (.iconst 4, 1) := by decide +kernel
theorem d_M_lost_74 : decode c_M_lost 74 = .ok (.iadd, 1) := by decide +kernel
theorem d_M_lost_75 : decode c_M_lost 75 = .ok (.aload_n 0, 1) := by decide +kernel
theorem d_M_lost_76 : decode c_M_lost 76 = .ok (.getfield 16, 3) := by decide +kernel
theorem d_M_lost_79 : decode c_M_lost 79 = .ok (.iload 4, 2) := by decide +kernel
theorem d_M_lost_81 : decode c_M_lost 81 = .ok (.iaload, 1) := by decide +kernel
theorem d_M_lost_82 : decode c_M_lost 82 = .ok (.if_icmp .gt 30, 3) := by decide +kernel
theorem d_M_lost_85 : decode c_M_lost 85 = .ok (.iload_n 3, 1) := by decide +kernel
theorem d_M_lost_86 : decode c_M_lost 86 = .ok (.aload_n 0, 1) := by decide +kernel
theorem d_M_lost_87 : decode c_M_lost 87 = .ok (.aload_n 0, 1) := by decide +kernel
theorem d_M_lost_88 : decode c_M_lost 88 = .ok (.aload_n 0, 1) := by decide +kernel
theorem d_M_lost_89 : decode c_M_lost 89 = .ok (.getfield 13, 3) := by decide +kernel
theorem d_M_lost_92 : decode c_M_lost 92 = .ok (.iload 4, 2) := by decide +kernel
theorem d_M_lost_94 : decode c_M_lost 94 = .ok (.iaload, 1) := by decide +kernel
theorem d_M_lost_95 : decode c_M_lost 95 = .ok (.iload 5, 2) := by decide +kernel
theorem d_M_lost_97 : decode c_M_lost 97 = .ok (.iadd, 1) := by decide +kernel
theorem d_M_lost_98 : decode c_M_lost 98 = .ok (.invokevirtual 78, 3) := by decide +kernel
theorem d_M_lost_101 : decode c_M_lost 101 = .ok (.invokevirtual 84, 3) := by decide +kernel
theorem d_M_lost_104 : decode c_M_lost 104 = .ok (.ior, 1) := by decide +kernel
theorem d_M_lost_105 : decode c_M_lost 105 = .ok (.istore_n 3, 1) := by decide +kernel
theorem d_M_lost_106 : decode c_M_lost 106 = .ok (.iinc 5 4, 3) := by decide +kernel
theorem d_M_lost_109 : decode c_M_lost 109 = .ok (.goto (-38), 3) := by decide +kernel
theorem d_M_lost_112 : decode c_M_lost 112 = .ok (.iinc 4 1, 3) := by decide +kernel
theorem d_M_lost_115 : decode c_M_lost 115 = .ok (.goto (-66), 3) := by decide +kernel
theorem d_M_lost_118 : decode c_M_lost 118 = .ok (.goto (-78), 3) := by decide +kernel
theorem d_M_lost_121 : decode c_M_lost 121 = .ok (.aload_n 0, 1) := by decide +kernel
theorem d_M_lost_122 : decode c_M_lost 122 = .ok (.iconst 0, 1) := by decide +kernel
theorem d_M_lost_123 : decode c_M_lost 123 = .ok (.putfield 87, 3) := by decide +kernel
theorem d_M_lost_126 : decode c_M_lost 126 = .ok (.iconst 0, 1) := by decide +kernel
theorem d_M_lost_127 : decode c_M_lost 127 = .ok (.istore 4, 2) := by decide +kernel
theorem d_M_lost_129 : decode c_M_lost 129 = .ok (.iload 4, 2) := by decide +kernel
theorem d_M_lost_131 : decode c_M_lost 131 = .ok (.sipush 8192, 3) := by decide +kernel
theorem d_M_lost_134 : decode c_M_lost 134 = .ok (.if_icmp .ge 51, 3) := by decide +kernel
theorem d_M_lost_137 : decode c_M_lost 137 = .ok (.aload_n 0, 1) := by decide +kernel
theorem d_M_lost_138 : decode c_M_lost 138 = .ok (.iload 4, 2) := by decide +kernel
theorem d_M_lost_140 : decode c_M_lost 140 = .ok (.iconst 1, 1) := by decide +kernel
theorem d_M_lost_141 : decode c_M_lost 141 = .ok (.invokevirtual 63, 3) := by decide +kernel
theorem d_M_lost_144 : decode c_M_lost 144 = .ok (.istore 5, 2) := by decide +kernel
theorem d_M_lost_146 : decode c_M_lost 146 = .ok (.iload 5, 2) := by decide +kernel
theorem d_M_lost_148 : decode c_M_lost 148 = .ok (.ifCond .lt 31, 3) := by decide +kernel
theorem d_M_lost_151 : decode c_M_lost 151 = .ok (.aload_n 0, 1) := by decide +kernel
theorem d_M_lost_152 : decode c_M_lost 152 = .ok (.getfield 25, 3) := by decide +kernel
theorem d_M_lost_155 : decode c_M_lost 155 = .ok (.iload 5, 2) := by decide +kernel
theorem d_M_lost_157 : decode c_M_lost 157 = .ok (.baload, 1) := by decide +kernel
theorem d_M_lost_158 : decode c_M_lost 158 = .ok (.ifCond .ne 21, 3) := by decide +kernel
theorem d_M_lost_161 : decode c_M_lost 161 = .ok (.aload_n 0, 1) := by decide +kernel
theorem d_M_lost_162 : decode c_M_lost 162 = .ok (.getfield 29, 3) := by decide +kernel
theorem d_M_lost_165 : decode c_M_lost 165 = .ok (.aload_n 0, 1) := by decide +kernel
theorem d_M_lost_166 : decode c_M_lost 166 = .ok (.dup, 1) := by decide +kernel
theorem d_M_lost_167 : decode c_M_lost 167 = .ok (.getfield 87, 3) := by decide +kernel
theorem d_M_lost_170 : decode c_M_lost 170 = .ok (.dup_x1, 1) := by decide +kernel
theorem d_M_lost_171 : decode c_M_lost 171 = .ok (.iconst 1, 1) := by decide +kernel
theorem d_M_lost_172 : decode c_M_lost 172 = .ok (.iadd, 1) := by decide +kernel
theorem d_M_lost_173 : decode c_M_lost 173 = .ok (.putfield 87, 3) := by decide +kernel
theorem d_M_lost_176 : decode c_M_lost 176 = .ok (.iload 4, 2) := by decide +kernel
theorem d_M_lost_178 : decode c_M_lost 178 = .ok (.iastore, 1) := by decide +kernel
theorem d_M_lost_179 : decode c_M_lost 179 = .ok (.iinc 4 16, 3) := by decide +kernel
theorem d_M_lost_182 : decode c_M_lost 182 = .ok (.goto (-53), 3) := by decide +kernel
theorem d_M_lost_185 : decode c_M_lost 185 = .ok (.aload_n 0, 1) := by decide +kernel
theorem d_M_lost_186 : decode c_M_lost 186 = .ok (.getfield 87, 3) := by decide +kernel
theorem d_M_lost_189 : decode c_M_lost 189 = .ok (.ireturn, 1) := by decide +kernel
theorem d_M_touch_0 : decode c_M_touch 0 = .ok (.aload_n 0, 1) := by decide +kernel
theorem d_M_touch_1 : decode c_M_touch 1 = .ok (.iload_n 1, 1) := by decide +kernel
theorem d_M_touch_2 : decode c_M_touch 2 = .ok (.invokevirtual 81, 3) := by decide +kernel
theorem d_M_touch_5 : decode c_M_touch 5 = .ok (.istore_n 2, 1) := by decide +kernel
theorem d_M_touch_6 : decode c_M_touch 6 = .ok (.iload_n 2, 1) := by decide +kernel
theorem d_M_touch_7 : decode c_M_touch 7 = .ok (.ifCond .lt 12, 3) := by decide +kernel
theorem d_M_touch_10 : decode c_M_touch 10 = .ok (.aload_n 0, 1) := by decide +kernel
theorem d_M_touch_11 : decode c_M_touch 11 = .ok (.getfield 25, 3) := by decide +kernel
theorem d_M_touch_14 : decode c_M_touch 14 = .ok (.iload_n 2, 1) := by decide +kernel
theorem d_M_touch_15 : decode c_M_touch 15 = .ok (.baload, 1) := by decide +kernel
theorem d_M_touch_16 : decode c_M_touch 16 = .ok (.ifCond .eq 5, 3) := by decide +kernel
theorem d_M_touch_19 : decode c_M_touch 19 = .ok (.iconst 0, 1) := by decide +kernel
theorem d_M_touch_20 : decode c_M_touch 20 = .ok (.ireturn, 1) := by decide +kernel
theorem d_M_touch_21 : decode c_M_touch 21 = .ok (.aload_n 0, 1) := by decide +kernel
theorem d_M_touch_22 : decode c_M_touch 22 = .ok (.getfield 25, 3) := by decide +kernel
theorem d_M_touch_25 : decode c_M_touch 25 = .ok (.iload_n 2, 1) := by decide +kernel
theorem d_M_touch_26 : decode c_M_touch 26 = .ok (.iconst 1, 1) := by decide +kernel
theorem d_M_touch_27 : decode c_M_touch 27 = .ok (.bastore, 1) := by decide +kernel
theorem d_M_touch_28 : decode c_M_touch 28 = .ok (.iconst 1, 1) := by decide +kernel
theorem d_M_touch_29 : decode c_M_touch 29 = .ok (.ireturn, 1) := by decide +kernel
theorem d_M_leads_0 : decode c_M_leads 0 = .ok (.iconst 0, 1) := by decide +kernel
theorem d_M_leads_1 : decode c_M_leads 1 = .ok (.istore_n 2, 1) := by decide +kernel
theorem d_M_leads_2 : decode c_M_leads 2 = .ok (.iload_n 2, 1) := by decide +kernel
theorem d_M_leads_3 : decode c_M_leads 3 = .ok (.aload_n 0, 1) := by decide +kernel
theorem d_M_leads_4 : decode c_M_leads 4 = .ok (.getfield 40, 3) := by decide +kernel
theorem d_M_leads_7 : decode c_M_leads 7 = .ok (.if_icmp .ge 58, 3) := by decide +kernel
theorem d_M_leads_10 : decode c_M_leads 10 = .ok (.aload_n 0, 1) := by decide +kernel
theorem d_M_leads_11 : decode c_M_leads 11 = .ok (.getfield 19, 3) := by decide +kernel
theorem d_M_leads_14 : decode c_M_leads 14 = .ok (.iload_n 2, 1) := by decide +kernel
theorem d_M_leads_15 : decode c_M_leads 15 = .ok (.iaload, 1) := by decide +kernel
theorem d_M_leads_16 : decode c_M_leads 16 = .ok (.iconst 1, 1) := by decide +kernel
theorem d_M_leads_17 : decode c_M_leads 17 = .ok (.if_icmp .ne 42, 3) := by decide +kernel
theorem d_M_leads_20 : decode c_M_leads 20 = .ok (.iload_n 1, 1) := by decide +kernel
theorem d_M_leads_21 : decode c_M_leads 21 = .ok (.aload_n 0, 1) := by decide +kernel
theorem d_M_leads_22 : decode c_M_leads 22 = .ok (.getfield 13, 3) := by decide +kernel
theorem d_M_leads_25 : decode c_M_leads 25 = .ok (.iload_n 2, 1) := by decide +kernel
theorem d_M_leads_26 : decode c_M_leads 26 = .ok (.iaload, 1) := by decide +kernel
theorem d_M_leads_27 : decode c_M_leads 27 = .ok (.if_icmp .eq 30, 3) := by decide +kernel
theorem d_M_leads_30 : decode c_M_leads 30 = .ok (.iload_n 1, 1) := by decide +kernel
theorem d_M_leads_31 : decode c_M_leads 31 = .ok (.aload_n 0, 1) := by decide +kernel
theorem d_M_leads_32 : decode c_M_leads 32 = .ok (.getfield 13, 3) := by decide +kernel
theorem d_M_leads_35 : decode c_M_leads 35 = .ok (.iload_n 2, 1) := by decide +kernel
theorem d_M_leads_36 : decode c_M_leads 36 = .ok (.iaload, 1) := by decide +kernel
theorem d_M_leads_37 : decode c_M_leads 37 = .ok (.if_icmp .lt 22, 3) := by decide +kernel
theorem d_M_leads_40 : decode c_M_leads 40 = .ok (.iload_n 1, 1) := by decide +kernel
theorem d_M_leads_41 : decode c_M_leads 41 = .ok (.aload_n 0, 1) := by decide +kernel
theorem d_M_leads_42 : decode c_M_leads 42 = .ok (.getfield 13, 3) := by decide +kernel
theorem d_M_leads_45 : decode c_M_leads 45 = .ok (.iload_n 2, 1) := by decide +kernel
theorem d_M_leads_46 : decode c_M_leads 46 = .ok (.iaload, 1) := by decide +kernel
theorem d_M_leads_47 : decode c_M_leads 47 = .ok (.aload_n 0, 1) := by decide +kernel
theorem d_M_leads_48 : decode c_M_leads 48 = .ok (.getfield 16, 3) := by decide +kernel
theorem d_M_leads_51 : decode c_M_leads 51 = .ok (.iload_n 2, 1) := by decide +kernel
theorem d_M_leads_52 : decode c_M_leads 52 = .ok (.iaload, 1) := by decide +kernel
theorem d_M_leads_53 : decode c_M_leads 53 = .ok (.iadd, 1) := by decide +kernel
theorem d_M_leads_54 : decode c_M_leads 54 = .ok (.if_icmp .ge 5, 3) := by decide +kernel
theorem d_M_leads_57 : decode c_M_leads 57 = .ok (.iload_n 2, 1) := by decide +kernel
theorem d_M_leads_58 : decode c_M_leads 58 = .ok (.ireturn, 1) := by decide +kernel
theorem d_M_leads_59 : decode c_M_leads 59 = .ok (.iinc 2 1, 3) := by decide +kernel
theorem d_M_leads_62 : decode c_M_leads 62 = .ok (.goto (-60), 3) := by decide +kernel
theorem d_M_leads_65 : decode c_M_leads 65 = .ok (.iconst (-1), 1) := by decide +kernel
theorem d_M_leads_66 : decode c_M_leads 66 = .ok (.ireturn, 1) := by decide +kernel
theorem d_M_lostAt_0 : decode c_M_lostAt 0 = .ok (.aload_n 0, 1) := by decide +kernel
theorem d_M_lostAt_1 : decode c_M_lostAt 1 = .ok (.iload_n 1, 1) := by decide +kernel
theorem d_M_lostAt_2 : decode c_M_lostAt 2 = .ok (.ifCond .lt 11, 3) := by decide +kernel
theorem d_M_lostAt_5 : decode c_M_lostAt 5 = .ok (.iload_n 1, 1) := by decide +kernel
theorem d_M_lostAt_6 : decode c_M_lostAt 6 = .ok (.aload_n 0, 1) := by decide +kernel
theorem d_M_lostAt_7 : decode c_M_lostAt 7 = .ok (.getfield 87, 3) := by decide +kernel
theorem d_M_lostAt_10 : decode c_M_lostAt 10 = .ok (.if_icmp .lt 7, 3) := by decide +kernel
theorem d_M_lostAt_13 : decode c_M_lostAt 13 = .ok (.iconst 1, 1) := by decide +kernel
theorem d_M_lostAt_14 : decode c_M_lostAt 14 = .ok (.goto 4, 3) := by decide +kernel
theorem d_M_lostAt_17 : decode c_M_lostAt 17 = .ok (.iconst 0, 1) := by decide +kernel
theorem d_M_lostAt_18 : decode c_M_lostAt 18 = .ok (.iconst 1, 1) := by decide +kernel
theorem d_M_lostAt_19 : decode c_M_lostAt 19 = .ok (.invokevirtual 56, 3) := by decide +kernel
theorem d_M_lostAt_22 : decode c_M_lostAt 22 = .ok (.ifCond .eq 5, 3) := by decide +kernel
theorem d_M_lostAt_25 : decode c_M_lostAt 25 = .ok (.iconst 0, 1) := by decide +kernel
theorem d_M_lostAt_26 : decode c_M_lostAt 26 = .ok (.ireturn, 1) := by decide +kernel
theorem d_M_lostAt_27 : decode c_M_lostAt 27 = .ok (.aload_n 0, 1) := by decide +kernel
theorem d_M_lostAt_28 : decode c_M_lostAt 28 = .ok (.getfield 29, 3) := by decide +kernel
theorem d_M_lostAt_31 : decode c_M_lostAt 31 = .ok (.iload_n 1, 1) := by decide +kernel
theorem d_M_lostAt_32 : decode c_M_lostAt 32 = .ok (.iaload, 1) := by decide +kernel
theorem d_M_lostAt_33 : decode c_M_lostAt 33 = .ok (.ireturn, 1) := by decide +kernel
theorem d_M_count_0 : decode c_M_count 0 = .ok (.aload_n 0, 1) := by decide +kernel
theorem d_M_count_1 : decode c_M_count 1 = .ok (.iload_n 1, 1) := by decide +kernel
theorem d_M_count_2 : decode c_M_count 2 = .ok (.ifCond .lt 8, 3) := by decide +kernel
theorem d_M_count_5 : decode c_M_count 5 = .ok (.iload_n 1, 1) := by decide +kernel
theorem d_M_count_6 : decode c_M_count 6 = .ok (.iconst 4, 1) := by decide +kernel
theorem d_M_count_7 : decode c_M_count 7 = .ok (.if_icmp .le 7, 3) := by decide +kernel
theorem d_M_count_10 : decode c_M_count 10 = .ok (.iconst 1, 1) := by decide +kernel
theorem d_M_count_11 : decode c_M_count 11 = .ok (.goto 4, 3) := by decide +kernel
theorem d_M_count_14 : decode c_M_count 14 = .ok (.iconst 0, 1) := by decide +kernel
theorem d_M_count_15 : decode c_M_count 15 = .ok (.iconst 1, 1) := by decide +kernel
theorem d_M_count_16 : decode c_M_count 16 = .ok (.invokevirtual 56, 3) := by decide +kernel
theorem d_M_count_19 : decode c_M_count 19 = .ok (.ifCond .eq 5, 3) := by decide +kernel
theorem d_M_count_22 : decode c_M_count 22 = .ok (.iconst 0, 1) := by decide +kernel
theorem d_M_count_23 : decode c_M_count 23 = .ok (.ireturn, 1) := by decide +kernel
theorem d_M_count_24 : decode c_M_count 24 = .ok (.iconst 0, 1) := by decide +kernel
theorem d_M_count_25 : decode c_M_count 25 = .ok (.istore_n 2, 1) := by decide +kernel
theorem d_M_count_26 : decode c_M_count 26 = .ok (.iconst 0, 1) := by decide +kernel
theorem d_M_count_27 : decode c_M_count 27 = .ok (.istore_n 3, 1) := by decide +kernel
theorem d_M_count_28 : decode c_M_count 28 = .ok (.iconst 0, 1) := by decide +kernel
theorem d_M_count_29 : decode c_M_count 29 = .ok (.istore 4, 2) := by decide +kernel
theorem d_M_count_31 : decode c_M_count 31 = .ok (.iload 4, 2) := by decide +kernel
theorem d_M_count_33 : decode c_M_count 33 = .ok (.aload_n 0, 1) := by decide +kernel
theorem d_M_count_34 : decode c_M_count 34 = .ok (.getfield 40, 3) := by decide +kernel
theorem d_M_count_37 : decode c_M_count 37 = .ok (.if_icmp .ge 33, 3) := by decide +kernel
theorem d_M_count_40 : decode c_M_count 40 = .ok (.aload_n 0, 1) := by decide +kernel
theorem d_M_count_41 : decode c_M_count 41 = .ok (.getfield 19, 3) := by decide +kernel
theorem d_M_count_44 : decode c_M_count 44 = .ok (.iload 4, 2) := by decide +kernel
theorem d_M_count_46 : decode c_M_count 46 = .ok (.iaload, 1) := by decide +kernel
theorem d_M_count_47 : decode c_M_count 47 = .ok (.iconst 1, 1) := by decide +kernel
theorem d_M_count_48 : decode c_M_count 48 = .ok (.if_icmp .ne 16, 3) := by decide +kernel
theorem d_M_count_51 : decode c_M_count 51 = .ok (.iinc 2 1, 3) := by decide +kernel
theorem d_M_count_54 : decode c_M_count 54 = .ok (.iload_n 3, 1) := by decide +kernel
theorem d_M_count_55 : decode c_M_count 55 = .ok (.aload_n 0, 1) := by decide +kernel
theorem d_M_count_56 : decode c_M_count 56 = .ok (.getfield 16, 3) := by decide +kernel
theorem d_M_count_59 : decode c_M_count 59 = .ok (.iload 4, 2) := by decide +kernel
theorem d_M_count_61 : decode c_M_count 61 = .ok (.iaload, 1) := by decide +kernel
theorem d_M_count_62 : decode c_M_count 62 = .ok (.iadd, 1) := by decide +kernel
theorem d_M_count_63 : decode c_M_count 63 = .ok (.istore_n 3, 1) := by decide +kernel
theorem d_M_count_64 : decode c_M_count 64 = .ok (.iinc 4 1, 3) := by decide +kernel
theorem d_M_count_67 : decode c_M_count 67 = .ok (.goto (-36), 3) := by decide +kernel
theorem d_M_count_70 : decode c_M_count 70 = .ok (.iload_n 1, 1) := by decide +kernel
theorem d_M_count_71 : decode c_M_count 71 = .ok (.tableswitch 45 0 3 #[29, 31, 33, 40], 29) := by decide +kernel
theorem d_M_count_100 : decode c_M_count 100 = .ok (.iload_n 2, 1) := by decide +kernel
theorem d_M_count_101 : decode c_M_count 101 = .ok (.ireturn, 1) := by decide +kernel
theorem d_M_count_102 : decode c_M_count 102 = .ok (.iload_n 3, 1) := by decide +kernel
theorem d_M_count_103 : decode c_M_count 103 = .ok (.ireturn, 1) := by decide +kernel
theorem d_M_count_104 : decode c_M_count 104 = .ok (.aload_n 0, 1) := by decide +kernel
theorem d_M_count_105 : decode c_M_count 105 = .ok (.getfield 40, 3) := by decide +kernel
theorem d_M_count_108 : decode c_M_count 108 = .ok (.iload_n 2, 1) := by decide +kernel
theorem d_M_count_109 : decode c_M_count 109 = .ok (.isub, 1) := by decide +kernel
theorem d_M_count_110 : decode c_M_count 110 = .ok (.ireturn, 1) := by decide +kernel
theorem d_M_count_111 : decode c_M_count 111 = .ok (.aload_n 0, 1) := by decide +kernel
theorem d_M_count_112 : decode c_M_count 112 = .ok (.invokevirtual 52, 3) := by decide +kernel
theorem d_M_count_115 : decode c_M_count 115 = .ok (.ireturn, 1) := by decide +kernel
theorem d_M_count_116 : decode c_M_count 116 = .ok (.aload_n 0, 1) := by decide +kernel
theorem d_M_count_117 : decode c_M_count 117 = .ok (.getfield 46, 3) := by decide +kernel
theorem d_M_count_120 : decode c_M_count 120 = .ok (.ireturn, 1) := by decide +kernel
end
section
theorem d_A_init_0 : decode c_A_init 0 = .ok (.aload_n 0, 1) := by decide +kernel
theorem d_A_init_1 : decode c_A_init 1 = .ok (.invokespecial 1, 3) := by decide +kernel
theorem d_A_init_4 : decode c_A_init 4 = .ok (.aload_n 0, 1) := by decide +kernel
theorem d_A_init_5 : decode c_A_init 5 = .ok (.getstatic 39, 3) := by decide +kernel
theorem d_A_init_8 : decode c_A_init 8 = .ok (.putfield 9, 3) := by decide +kernel
theorem d_A_init_11 : decode c_A_init 11 = .ok (.return_, 1) := by decide +kernel
theorem d_Al_init_0 : decode c_Al_init 0 = .ok (.aload_n 0, 1) := by decide +kernel
theorem d_Al_init_1 : decode c_Al_init 1 = .ok (.invokespecial 1, 3) := by decide +kernel
theorem d_Al_init_4 : decode c_Al_init 4 = .ok (.aload_n 0, 1) := by decide +kernel
theorem d_Al_init_5 : decode c_Al_init 5 = .ok (.iconst 0, 1) := by decide +kernel
theorem d_Al_init_6 : decode c_Al_init 6 = .ok (.putfield 7, 3) := by decide +kernel
theorem d_Al_init_9 : decode c_Al_init 9 = .ok (.return_, 1) := by decide +kernel
theorem d_Ac_init_0 : decode c_Ac_init 0 = .ok (.aload_n 0, 1) := by decide +kernel
theorem d_Ac_init_1 : decode c_Ac_init 1 = .ok (.invokespecial 1, 3) := by decide +kernel
theorem d_Ac_init_4 : decode c_Ac_init 4 = .ok (.return_, 1) := by decide +kernel
theorem d_A_add_0 : decode c_A_add 0 = .ok (.aload_n 0, 1) := by decide +kernel
theorem d_A_add_1 : decode c_A_add 1 = .ok (.dup, 1) := by decide +kernel
theorem d_A_add_2 : decode c_A_add 2 = .ok (.getfield 63, 3) := by decide +kernel
theorem d_A_add_5 : decode c_A_add 5 = .ok (.iconst 1, 1) := by decide +kernel
theorem d_A_add_6 : decode c_A_add 6 = .ok (.iadd, 1) := by decide +kernel
theorem d_A_add_7 : decode c_A_add 7 = .ok (.putfield 63, 3) := by decide +kernel
theorem d_A_add_10 : decode c_A_add 10 = .ok (.aload_n 0, 1) := by decide +kernel
theorem d_A_add_11 : decode c_A_add 11 = .ok (.aload_n 1, 1) := by decide +kernel
theorem d_A_add_12 : decode c_A_add 12 = .ok (.aload_n 0, 1) := by decide +kernel
theorem d_A_add_13 : decode c_A_add 13 = .ok (.getfield 9, 3) := by decide +kernel
theorem d_A_add_16 : decode c_A_add 16 = .ok (.aload_n 0, 1) := by decide +kernel
theorem d_A_add_17 : decode c_A_add 17 = .ok (.getfield 48, 3) := by decide +kernel
theorem d_A_add_20 : decode c_A_add 20 = .ok (.invokevirtual 131, 3) := by decide +kernel
theorem d_A_add_23 : decode c_A_add 23 = .ok (.iconst 1, 1) := by decide +kernel
theorem d_A_add_24 : decode c_A_add 24 = .ok (.ireturn, 1) := by decide +kernel
theorem d_A_add2_0 : decode c_A_add2 0 = .ok (.iload_n 3, 1) := by decide +kernel
theorem d_A_add2_1 : decode c_A_add2 1 = .ok (.aload_n 2, 1) := by decide +kernel
theorem d_A_add2_2 : decode c_A_add2 2 = .ok (.arraylength, 1) := by decide +kernel
theorem d_A_add2_3 : decode c_A_add2 3 = .ok (.if_icmp .ne 8, 3) := by decide +kernel
theorem d_A_add2_6 : decode c_A_add2 6 = .ok (.aload_n 0, 1) := by decide +kernel
theorem d_A_add2_7 : decode c_A_add2 7 = .ok (.invokevirtual 129, 3) := by decide +kernel
theorem d_A_add2_10 : decode c_A_add2 10 = .ok (.astore_n 2, 1) := by decide +kernel
theorem d_A_add2_11 : decode c_A_add2 11 = .ok (.aload_n 2, 1) := by decide +kernel
theorem d_A_add2_12 : decode c_A_add2 12 = .ok (.iload_n 3, 1) := by decide +kernel
theorem d_A_add2_13 : decode c_A_add2 13 = .ok (.aload_n 1, 1) := by decide +kernel
theorem d_A_add2_14 : decode c_A_add2 14 = .ok (.aastore, 1) := by decide +kernel
theorem d_A_add2_15 : decode c_A_add2 15 = .ok (.aload_n 0, 1) := by decide +kernel
theorem d_A_add2_16 : decode c_A_add2 16 = .ok (.iload_n 3, 1) := by decide +kernel
theorem d_A_add2_17 : decode c_A_add2 17 = .ok (.iconst 1, 1) := by decide +kernel
theorem d_A_add2_18 : decode c_A_add2 18 = .ok (.iadd, 1) := by decide +kernel
theorem d_A_add2_19 : decode c_A_add2 19 = .ok (.putfield 48, 3) := by decide +kernel
theorem d_A_add2_22 : decode c_A_add2 22 = .ok (.return_, 1) := by decide +kernel
theorem d_A_grow_0 : decode c_A_grow 0 = .ok (.aload_n 0, 1) := by decide +kernel
theorem d_A_grow_1 : decode c_A_grow 1 = .ok (.aload_n 0, 1) := by decide +kernel
theorem d_A_grow_2 : decode c_A_grow 2 = .ok (.getfield 48, 3) := by decide +kernel
theorem d_A_grow_5 : decode c_A_grow 5 = .ok (.iconst 1, 1) := by decide +kernel
theorem d_A_grow_6 : decode c_A_grow 6 = .ok (.iadd, 1) := by decide +kernel
theorem d_A_grow_7 : decode c_A_grow 7 = .ok (.invokevirtual 69, 3) := by decide +kernel
theorem d_A_grow_10 : decode c_A_grow 10 = .ok (.areturn, 1) := by decide +kernel
theorem d_A_grow2_0 : decode c_A_grow2 0 = .ok (.aload_n 0, 1) := by decide +kernel
theorem d_A_grow2_1 : decode c_A_grow2 1 = .ok (.getfield 9, 3) := by decide +kernel
theorem d_A_grow2_4 : decode c_A_grow2 4 = .ok (.arraylength, 1) := by decide +kernel
theorem d_A_grow2_5 : decode c_A_grow2 5 = .ok (.istore_n 2, 1) := by decide +kernel
theorem d_A_grow2_6 : decode c_A_grow2 6 = .ok (.iload_n 2, 1) := by decide +kernel
theorem d_A_grow2_7 : decode c_A_grow2 7 = .ok (.ifCond .gt 13, 3) := by decide +kernel
theorem d_A_grow2_10 : decode c_A_grow2 10 = .ok (.aload_n 0, 1) := by decide +kernel
theorem d_A_grow2_11 : decode c_A_grow2 11 = .ok (.getfield 9, 3) := by decide +kernel
theorem d_A_grow2_14 : decode c_A_grow2 14 = .ok (.getstatic 39, 3) := by decide +kernel
theorem d_A_grow2_17 : decode c_A_grow2 17 = .ok (.if_acmp .eq 28, 3) := by decide +kernel
theorem d_A_grow2_20 : decode c_A_grow2 20 = .ok (.iload_n 2, 1) := by decide +kernel
theorem d_A_grow2_21 : decode c_A_grow2 21 = .ok (.iload_n 1, 1) := by decide +kernel
theorem d_A_grow2_22 : decode c_A_grow2 22 = .ok (.iload_n 2, 1) := by decide +kernel
theorem d_A_grow2_23 : decode c_A_grow2 23 = .ok (.isub, 1) := by decide +kernel
theorem d_A_grow2_24 : decode c_A_grow2 24 = .ok (.iload_n 2, 1) := by decide +kernel
theorem d_A_grow2_25 : decode c_A_grow2 25 = .ok (.iconst 1, 1) := by decide +kernel
theorem d_A_grow2_26 : decode c_A_grow2 26 = .ok (.ishr, 1) := by decide +kernel
theorem d_A_grow2_27 : decode c_A_grow2 27 = .ok (.invokestatic 73, 3) := by decide +kernel
theorem d_A_grow2_30 : decode c_A_grow2 30 = .ok (.istore_n 3, 1) := by decide +kernel
theorem d_A_grow2_31 : decode c_A_grow2 31 = .ok (.aload_n 0, 1) := by decide +kernel
theorem d_A_grow2_32 : decode c_A_grow2 32 = .ok (.aload_n 0, 1) := by decide +kernel
theorem d_A_grow2_33 : decode c_A_grow2 33 = .ok (.getfield 9, 3) := by decide +kernel
theorem d_A_grow2_36 : decode c_A_grow2 36 = .ok (.iload_n 3, 1) := by decide +kernel
theorem d_A_grow2_37 : decode c_A_grow2 37 = .ok (.invokestatic 66, 3) := by decide +kernel
theorem d_A_grow2_40 : decode c_A_grow2 40 = .ok (.dup_x1, 1) := by decide +kernel
theorem d_A_grow2_41 : decode c_A_grow2 41 = .ok (.putfield 9, 3) := by decide +kernel
theorem d_A_grow2_44 : decode c_A_grow2 44 = .ok (.areturn, 1) := by decide +kernel
theorem d_A_grow2_45 : decode c_A_grow2 45 = .ok (.aload_n 0, 1) := by decide +kernel
theorem d_A_grow2_46 : decode c_A_grow2 46 = .ok (.bipush 10, 2) := by decide +kernel
theorem d_A_grow2_48 : decode c_A_grow2 48 = .ok (.iload_n 1, 1) := by decide +kernel
theorem d_A_grow2_49 : decode c_A_grow2 49 = .ok (.invokestatic 79, 3) := by decide +kernel
theorem d_A_grow2_52 : decode c_A_grow2 52 = .ok (.anewarray 7, 3) := by decide +kernel
theorem d_A_grow2_55 : decode c_A_grow2 55 = .ok (.dup_x1, 1) := by decide +kernel
theorem d_A_grow2_56 : decode c_A_grow2 56 = .ok (.putfield 9, 3) := by decide +kernel
theorem d_A_grow2_59 : decode c_A_grow2 59 = .ok (.areturn, 1) := by decide +kernel
theorem d_Su_newLength_0 : decode c_Su_newLength 0 = .ok (.iload_n 0, 1) := by decide +kernel
theorem d_Su_newLength_1 : decode c_Su_newLength 1 = .ok (.iload_n 1, 1) := by decide +kernel
theorem d_Su_newLength_2 : decode c_Su_newLength 2 = .ok (.iload_n 2, 1) := by decide +kernel
theorem d_Su_newLength_3 : decode c_Su_newLength 3 = .ok (.invokestatic 194, 3) := by decide +kernel
theorem d_Su_newLength_6 : decode c_Su_newLength 6 = .ok (.iadd, 1) := by decide +kernel
theorem d_Su_newLength_7 : decode c_Su_newLength 7 = .ok (.istore_n 3, 1) := by decide +kernel
theorem d_Su_newLength_8 : decode c_Su_newLength 8 = .ok (.iconst 0, 1) := by decide +kernel
theorem d_Su_newLength_9 : decode c_Su_newLength 9 = .ok (.iload_n 3, 1) := by decide +kernel
theorem d_Su_newLength_10 : decode c_Su_newLength 10 = .ok (.if_icmp .ge 11, 3) := by decide +kernel
theorem d_Su_newLength_13 : decode c_Su_newLength 13 = .ok (.iload_n 3, 1) := by decide +kernel
theorem d_Su_newLength_14 : decode c_Su_newLength 14 = .ok (.ldc 200, 2) := by decide +kernel
theorem d_Su_newLength_16 : decode c_Su_newLength 16 = .ok (.if_icmp .gt 5, 3) := by decide +kernel
theorem d_Su_newLength_19 : decode c_Su_newLength 19 = .ok (.iload_n 3, 1) := by decide +kernel
theorem d_Su_newLength_20 : decode c_Su_newLength 20 = .ok (.ireturn, 1) := by decide +kernel
theorem d_Su_newLength_21 : decode c_Su_newLength 21 = .ok (.iload_n 0, 1) := by decide +kernel
theorem d_Su_newLength_22 : decode c_Su_newLength 22 = .ok (.iload_n 1, 1) := by decide +kernel
theorem d_Su_newLength_23 : decode c_Su_newLength 23 = .ok (.invokestatic 201, 3) := by decide +kernel
theorem d_Su_newLength_26 : decode c_Su_newLength 26 = .ok (.ireturn, 1) := by decide +kernel
theorem d_Su_hugeLength_0 : decode c_Su_hugeLength 0 = .ok (.iload_n 0, 1) := by decide +kernel
theorem d_Su_hugeLength_1 : decode c_Su_hugeLength 1 = .ok (.iload_n 1, 1) := by decide +kernel
theorem d_Su_hugeLength_2 : decode c_Su_hugeLength 2 = .ok (.iadd, 1) := by decide +kernel
theorem d_Su_hugeLength_3 : decode c_Su_hugeLength 3 = .ok (.istore_n 2, 1) := by decide +kernel
theorem d_Su_hugeLength_4 : decode c_Su_hugeLength 4 = .ok (.iload_n 2, 1) := by decide +kernel
theorem d_Su_hugeLength_5 : decode c_Su_hugeLength 5 = .ok (.ifCond .ge 44, 3) := by decide +kernel
theorem d_Su_hugeLength_8 : decode c_Su_hugeLength 8 = .ok (.new 204, 3) := by decide +kernel
theorem d_Su_hugeLength_11 : decode c_Su_hugeLength 11 = .ok (.dup, 1) := by decide +kernel
theorem d_Su_hugeLength_12 : decode c_Su_hugeLength 12 = .ok (.new 89, 3) := by decide +kernel
theorem d_Su_hugeLength_15 : decode c_Su_hugeLength 15 = .ok (.dup, 1) := by decide +kernel
theorem d_Su_hugeLength_16 : decode c_Su_hugeLength 16 = .ok (.invokespecial 91, 3) := by decide +kernel
theorem d_Su_hugeLength_19 : decode c_Su_hugeLength 19 = .ok (.ldc 206, 2) := by decide +kernel
theorem d_Su_hugeLength_21 : decode c_Su_hugeLength 21 = .ok (.invokevirtual 94, 3) := by decide +kernel
theorem d_Su_hugeLength_24 : decode c_Su_hugeLength 24 = .ok (.iload_n 0, 1) := by decide +kernel
theorem d_Su_hugeLength_25 : decode c_Su_hugeLength 25 = .ok (.invokevirtual 98, 3) := by decide +kernel
theorem d_Su_hugeLength_28 : decode c_Su_hugeLength 28 = .ok (.ldc 208, 2) := by decide +kernel
theorem d_Su_hugeLength_30 : decode c_Su_hugeLength 30 = .ok (.invokevirtual 94, 3) := by decide +kernel
theorem d_Su_hugeLength_33 : decode c_Su_hugeLength 33 = .ok (.iload_n 1, 1) := by decide +kernel
theorem d_Su_hugeLength_34 : decode c_Su_hugeLength 34 = .ok (.invokevirtual 98, 3) := by decide +kernel
theorem d_Su_hugeLength_37 : decode c_Su_hugeLength 37 = .ok (.ldc 210, 2) := by decide +kernel
theorem d_Su_hugeLength_39 : decode c_Su_hugeLength 39 = .ok (.invokevirtual 94, 3) := by decide +kernel
theorem d_Su_hugeLength_42 : decode c_Su_hugeLength 42 = .ok (.invokevirtual 101, 3) := by decide +kernel
theorem d_Su_hugeLength_45 : decode c_Su_hugeLength 45 = .ok (.invokespecial 212, 3) := by decide +kernel
theorem d_Su_hugeLength_48 : decode c_Su_hugeLength 48 = .ok (.athrow, 1) := by decide +kernel
theorem d_Su_hugeLength_49 : decode c_Su_hugeLength 49 = .ok (.iload_n 2, 1) := by decide +kernel
theorem d_Su_hugeLength_50 : decode c_Su_hugeLength 50 = .ok (.ldc 200, 2) := by decide +kernel
theorem d_Su_hugeLength_52 : decode c_Su_hugeLength 52 = .ok (.if_icmp .gt 6, 3) := by decide +kernel
theorem d_Su_hugeLength_55 : decode c_Su_hugeLength 55 = .ok (.ldc 200, 2) := by decide +kernel
theorem d_Su_hugeLength_57 : decode c_Su_hugeLength 57 = .ok (.ireturn, 1) := by decide +kernel
theorem d_Su_hugeLength_58 : decode c_Su_hugeLength 58 = .ok (.iload_n 2, 1) := by decide +kernel
theorem d_Su_hugeLength_59 : decode c_Su_hugeLength 59 = .ok (.ireturn, 1) := by decide +kernel
theorem d_As_copyOf_0 : decode c_As_copyOf 0 = .ok (.aload_n 0, 1) := by decide +kernel
theorem d_As_copyOf_1 : decode c_As_copyOf 1 = .ok (.iload_n 1, 1) := by decide +kernel
theorem d_As_copyOf_2 : decode c_As_copyOf 2 = .ok (.aload_n 0, 1) := by decide +kernel
theorem d_As_copyOf_3 : decode c_As_copyOf 3 = .ok (.invokevirtual 86, 3) := by decide +kernel
theorem d_As_copyOf_6 : decode c_As_copyOf 6 = .ok (.invokestatic 300, 3) := by decide +kernel
theorem d_As_copyOf_9 : decode c_As_copyOf 9 = .ok (.areturn, 1) := by decide +kernel
theorem d_As_copyOf2_0 : decode c_As_copyOf2 0 = .ok (.aload_n 2, 1) := by decide +kernel
theorem d_As_copyOf2_1 : decode c_As_copyOf2 1 = .ok (.ldc 110, 2) := by decide +kernel
theorem d_As_copyOf2_3 : decode c_As_copyOf2 3 = .ok (.if_acmp .ne 10, 3) := by decide +kernel
theorem d_As_copyOf2_6 : decode c_As_copyOf2 6 = .ok (.iload_n 1, 1) := by decide +kernel
theorem d_As_copyOf2_7 : decode c_As_copyOf2 7 = .ok (.anewarray 2, 3) := by decide +kernel
theorem d_As_copyOf2_10 : decode c_As_copyOf2 10 = .ok (.goto 14, 3) := by decide +kernel
theorem d_As_copyOf2_13 : decode c_As_copyOf2 13 = .ok (.aload_n 2, 1) := by decide +kernel
theorem d_As_copyOf2_14 : decode c_As_copyOf2 14 = .ok (.invokevirtual 90, 3) := by decide +kernel
theorem d_As_copyOf2_17 : decode c_As_copyOf2 17 = .ok (.iload_n 1, 1) := by decide +kernel
theorem d_As_copyOf2_18 : decode c_As_copyOf2 18 = .ok (.invokestatic 95, 3) := by decide +kernel
theorem d_As_copyOf2_21 : decode c_As_copyOf2 21 = .ok (.checkcast 110, 3) := by decide +kernel
theorem d_As_copyOf2_24 : decode c_As_copyOf2 24 = .ok (.astore_n 3, 1) := by decide +kernel
theorem d_As_copyOf2_25 : decode c_As_copyOf2 25 = .ok (.aload_n 0, 1) := by decide +kernel
theorem d_As_copyOf2_26 : decode c_As_copyOf2 26 = .ok (.iconst 0, 1) := by decide +kernel
theorem d_As_copyOf2_27 : decode c_As_copyOf2 27 = .ok (.aload_n 3, 1) := by decide +kernel
theorem d_As_copyOf2_28 : decode c_As_copyOf2 28 = .ok (.iconst 0, 1) := by decide +kernel
theorem d_As_copyOf2_29 : decode c_As_copyOf2 29 = .ok (.aload_n 0, 1) := by decide +kernel
theorem d_As_copyOf2_30 : decode c_As_copyOf2 30 = .ok (.arraylength, 1) := by decide +kernel
theorem d_As_copyOf2_31 : decode c_As_copyOf2 31 = .ok (.iload_n 1, 1) := by decide +kernel
theorem d_As_copyOf2_32 : decode c_As_copyOf2 32 = .ok (.invokestatic 304, 3) := by decide +kernel
theorem d_As_copyOf2_35 : decode c_As_copyOf2 35 = .ok (.invokestatic 150, 3) := by decide +kernel
theorem d_As_copyOf2_38 : decode c_As_copyOf2 38 = .ok (.aload_n 3, 1) := by decide +kernel
theorem d_As_copyOf2_39 : decode c_As_copyOf2 39 = .ok (.areturn, 1) := by decide +kernel
theorem d_A_size_0 : decode c_A_size 0 = .ok (.aload_n 0, 1) := by decide +kernel
theorem d_A_size_1 : decode c_A_size 1 = .ok (.getfield 48, 3) := by decide +kernel
theorem d_A_size_4 : decode c_A_size 4 = .ok (.ireturn, 1) := by decide +kernel
theorem d_A_isEmpty_0 : decode c_A_isEmpty 0 = .ok (.aload_n 0, 1) := by decide +kernel
theorem d_A_isEmpty_1 : decode c_A_isEmpty 1 = .ok (.getfield 48, 3) := by decide +kernel
theorem d_A_isEmpty_4 : decode c_A_isEmpty 4 = .ok (.ifCond .ne 7, 3) := by decide +kernel
theorem d_A_isEmpty_7 : decode c_A_isEmpty 7 = .ok (.iconst 1, 1) := by decide +kernel
theorem d_A_isEmpty_8 : decode c_A_isEmpty 8 = .ok (.goto 4, 3) := by decide +kernel
theorem d_A_isEmpty_11 : decode c_A_isEmpty 11 = .ok (.iconst 0, 1) := by decide +kernel
theorem d_A_isEmpty_12 : decode c_A_isEmpty 12 = .ok (.ireturn, 1) := by decide +kernel
theorem d_A_remove_0 : decode c_A_remove 0 = .ok (.iload_n 1, 1) := by decide +kernel
theorem d_A_remove_1 : decode c_A_remove 1 = .ok (.aload_n 0, 1) := by decide +kernel
theorem d_A_remove_2 : decode c_A_remove 2 = .ok (.getfield 48, 3) := by decide +kernel
theorem d_A_remove_5 : decode c_A_remove 5 = .ok (.invokestatic 118, 3) := by decide +kernel
theorem d_A_remove_8 : decode c_A_remove 8 = .ok (.pop, 1) := by decide +kernel
theorem d_A_remove_9 : decode c_A_remove 9 = .ok (.aload_n 0, 1) := by decide +kernel
theorem d_A_remove_10 : decode c_A_remove 10 = .ok (.getfield 9, 3) := by decide +kernel
theorem d_A_remove_13 : decode c_A_remove 13 = .ok (.astore_n 2, 1) := by decide +kernel
theorem d_A_remove_14 : decode c_A_remove 14 = .ok (.aload_n 2, 1) := by decide +kernel
theorem d_A_remove_15 : decode c_A_remove 15 = .ok (.iload_n 1, 1) := by decide +kernel
theorem d_A_remove_16 : decode c_A_remove 16 = .ok (.aaload, 1) := by decide +kernel
theorem d_A_remove_17 : decode c_A_remove 17 = .ok (.astore_n 3, 1) := by decide +kernel
theorem d_A_remove_18 : decode c_A_remove 18 = .ok (.aload_n 0, 1) := by decide +kernel
theorem d_A_remove_19 : decode c_A_remove 19 = .ok (.aload_n 2, 1) := by decide +kernel
theorem d_A_remove_20 : decode c_A_remove 20 = .ok (.iload_n 1, 1) := by decide +kernel
theorem d_A_remove_21 : decode c_A_remove 21 = .ok (.invokevirtual 144, 3) := by decide +kernel
theorem d_A_remove_24 : decode c_A_remove 24 = .ok (.aload_n 3, 1) := by decide +kernel
theorem d_A_remove_25 : decode c_A_remove 25 = .ok (.areturn, 1) := by decide +kernel
theorem d_Ob_checkIndex_0 : decode c_Ob_checkIndex 0 = .ok (.iload_n 0, 1) := by decide +kernel
theorem d_Ob_checkIndex_1 : decode c_Ob_checkIndex 1 = .ok (.iload_n 1, 1) := by decide +kernel
theorem d_Ob_checkIndex_2 : decode c_Ob_checkIndex 2 = .ok (.aconst_null, 1) := by decide +kernel
theorem d_Ob_checkIndex_3 : decode c_Ob_checkIndex 3 = .ok (.invokestatic 105, 3) := by decide +kernel
theorem d_Ob_checkIndex_6 : decode c_Ob_checkIndex 6 = .ok (.ireturn, 1) := by decide +kernel
theorem d_Pc_checkIndex_0 : decode c_Pc_checkIndex 0 = .ok (.iload_n 0, 1) := by decide +kernel
theorem d_Pc_checkIndex_1 : decode c_Pc_checkIndex 1 = .ok (.ifCond .lt 8, 3) := by decide +kernel
theorem d_Pc_checkIndex_4 : decode c_Pc_checkIndex 4 = .ok (.iload_n 0, 1) := by decide +kernel
theorem d_Pc_checkIndex_5 : decode c_Pc_checkIndex 5 = .ok (.iload_n 1, 1) := by decide +kernel
theorem d_Pc_checkIndex_6 : decode c_Pc_checkIndex 6 = .ok (.if_icmp .lt 10, 3) := by decide +kernel
theorem d_Pc_checkIndex_9 : decode c_Pc_checkIndex 9 = .ok (.aload_n 2, 1) := by decide +kernel
theorem d_Pc_checkIndex_10 : decode c_Pc_checkIndex 10 = .ok (.iload_n 0, 1) := by decide +kernel
theorem d_Pc_checkIndex_11 : decode c_Pc_checkIndex 11 = .ok (.iload_n 1, 1) := by decide +kernel
theorem d_Pc_checkIndex_12 : decode c_Pc_checkIndex 12 = .ok (.invokestatic 95, 3) := by decide +kernel
theorem d_Pc_checkIndex_15 : decode c_Pc_checkIndex 15 = .ok (.athrow, 1) := by decide +kernel
theorem d_Pc_checkIndex_16 : decode c_Pc_checkIndex 16 = .ok (.iload_n 0, 1) := by decide +kernel
theorem d_Pc_checkIndex_17 : decode c_Pc_checkIndex 17 = .ok (.ireturn, 1) := by decide +kernel
theorem d_A_fastRemove_0 : decode c_A_fastRemove 0 = .ok (.aload_n 0, 1) := by decide +kernel
theorem d_A_fastRemove_1 : decode c_A_fastRemove 1 = .ok (.dup, 1) := by decide +kernel
theorem d_A_fastRemove_2 : decode c_A_fastRemove 2 = .ok (.getfield 63, 3) := by decide +kernel
theorem d_A_fastRemove_5 : decode c_A_fastRemove 5 = .ok (.iconst 1, 1) := by decide +kernel
theorem d_A_fastRemove_6 : decode c_A_fastRemove 6 = .ok (.iadd, 1) := by decide +kernel
theorem d_A_fastRemove_7 : decode c_A_fastRemove 7 = .ok (.putfield 63, 3) := by decide +kernel
theorem d_A_fastRemove_10 : decode c_A_fastRemove 10 = .ok (.aload_n 0, 1) := by decide +kernel
theorem d_A_fastRemove_11 : decode c_A_fastRemove 11 = .ok (.getfield 48, 3) := by decide +kernel
theorem d_A_fastRemove_14 : decode c_A_fastRemove 14 = .ok (.iconst 1, 1) := by decide +kernel
theorem d_A_fastRemove_15 : decode c_A_fastRemove 15 = .ok (.isub, 1) := by decide +kernel
theorem d_A_fastRemove_16 : decode c_A_fastRemove 16 = .ok (.dup, 1) := by decide +kernel
theorem d_A_fastRemove_17 : decode c_A_fastRemove 17 = .ok (.istore_n 3, 1) := by decide +kernel
theorem d_A_fastRemove_18 : decode c_A_fastRemove 18 = .ok (.iload_n 2, 1) := by decide +kernel
theorem d_A_fastRemove_19 : decode c_A_fastRemove 19 = .ok (.if_icmp .le 15, 3) := by decide +kernel
theorem d_A_fastRemove_22 : decode c_A_fastRemove 22 = .ok (.aload_n 1, 1) := by decide +kernel
theorem d_A_fastRemove_23 : decode c_A_fastRemove 23 = .ok (.iload_n 2, 1) := by decide +kernel
theorem d_A_fastRemove_24 : decode c_A_fastRemove 24 = .ok (.iconst 1, 1) := by decide +kernel
theorem d_A_fastRemove_25 : decode c_A_fastRemove 25 = .ok (.iadd, 1) := by decide +kernel
theorem d_A_fastRemove_26 : decode c_A_fastRemove 26 = .ok (.aload_n 1, 1) := by decide +kernel
theorem d_A_fastRemove_27 : decode c_A_fastRemove 27 = .ok (.iload_n 2, 1) := by decide +kernel
theorem d_A_fastRemove_28 : decode c_A_fastRemove 28 = .ok (.iload_n 3, 1) := by decide +kernel
theorem d_A_fastRemove_29 : decode c_A_fastRemove 29 = .ok (.iload_n 2, 1) := by decide +kernel
theorem d_A_fastRemove_30 : decode c_A_fastRemove 30 = .ok (.isub, 1) := by decide +kernel
theorem d_A_fastRemove_31 : decode c_A_fastRemove 31 = .ok (.invokestatic 112, 3) := by decide +kernel
theorem d_A_fastRemove_34 : decode c_A_fastRemove 34 = .ok (.aload_n 1, 1) := by decide +kernel
theorem d_A_fastRemove_35 : decode c_A_fastRemove 35 = .ok (.aload_n 0, 1) := by decide +kernel
theorem d_A_fastRemove_36 : decode c_A_fastRemove 36 = .ok (.iload_n 3, 1) := by decide +kernel
theorem d_A_fastRemove_37 : decode c_A_fastRemove 37 = .ok (.dup_x1, 1) := by decide +kernel
theorem d_A_fastRemove_38 : decode c_A_fastRemove 38 = .ok (.putfield 48, 3) := by decide +kernel
theorem d_A_fastRemove_41 : decode c_A_fastRemove 41 = .ok (.aconst_null, 1) := by decide +kernel
theorem d_A_fastRemove_42 : decode c_A_fastRemove 42 = .ok (.aastore, 1) := by decide +kernel
theorem d_A_fastRemove_43 : decode c_A_fastRemove 43 = .ok (.return_, 1) := by decide +kernel
theorem d_L_get_0 : decode c_L_get 0 = .ok (.aload_n 2, 1) := by decide +kernel
theorem d_L_get_1 : decode c_L_get 1 = .ok (.iconst 0, 1) := by decide +kernel
theorem d_L_get_2 : decode c_L_get 2 = .ok (.aload_n 0, 1) := by decide +kernel
theorem d_L_get_3 : decode c_L_get 3 = .ok (.iload_n 1, 1) := by decide +kernel
theorem d_L_get_4 : decode c_L_get 4 = .ok (.invokevirtual 7, 3) := by decide +kernel
theorem d_L_get_7 : decode c_L_get 7 = .ok (.i2l, 1) := by decide +kernel
theorem d_L_get_8 : decode c_L_get 8 = .ok (.lastore, 1) := by decide +kernel
theorem d_L_get_9 : decode c_L_get 9 = .ok (.goto 6, 3) := by decide +kernel
theorem d_L_get_12 : decode c_L_get 12 = .ok (.astore_n 3, 1) := by decide +kernel
theorem d_L_get_13 : decode c_L_get 13 = .ok (.iconst 1, 1) := by decide +kernel
theorem d_L_get_14 : decode c_L_get 14 = .ok (.ireturn, 1) := by decide +kernel
theorem d_L_get_15 : decode c_L_get 15 = .ok (.iconst 0, 1) := by decide +kernel
theorem d_L_get_16 : decode c_L_get 16 = .ok (.ireturn, 1) := by decide +kernel
theorem d_L_back_0 : decode c_L_back 0 = .ok (.aload_n 2, 1) := by decide +kernel
theorem d_L_back_1 : decode c_L_back 1 = .ok (.iconst 0, 1) := by decide +kernel
theorem d_L_back_2 : decode c_L_back 2 = .ok (.aload_n 0, 1) := by decide +kernel
theorem d_L_back_3 : decode c_L_back 3 = .ok (.iload_n 1, 1) := by decide +kernel
theorem d_L_back_4 : decode c_L_back 4 = .ok (.invokevirtual 15, 3) := by decide +kernel
theorem d_L_back_7 : decode c_L_back 7 = .ok (.i2l, 1) := by decide +kernel
theorem d_L_back_8 : decode c_L_back 8 = .ok (.lastore, 1) := by decide +kernel
theorem d_L_back_9 : decode c_L_back 9 = .ok (.goto 9, 3) := by decide +kernel
theorem d_L_back_12 : decode c_L_back 12 = .ok (.astore_n 3, 1) := by decide +kernel
theorem d_L_back_13 : decode c_L_back 13 = .ok (.iconst 1, 1) := by decide +kernel
theorem d_L_back_14 : decode c_L_back 14 = .ok (.ireturn, 1) := by decide +kernel
theorem d_L_back_15 : decode c_L_back 15 = .ok (.astore_n 3, 1) := by decide +kernel
theorem d_L_back_16 : decode c_L_back 16 = .ok (.iconst 2, 1) := by decide +kernel
theorem d_L_back_17 : decode c_L_back 17 = .ok (.ireturn, 1) := by decide +kernel
theorem d_L_back_18 : decode c_L_back 18 = .ok (.iconst 0, 1) := by decide +kernel
theorem d_L_back_19 : decode c_L_back 19 = .ok (.ireturn, 1) := by decide +kernel
theorem d_L_again_0 : decode c_L_again 0 = .ok (.aload_n 3, 1) := by decide +kernel
theorem d_L_again_1 : decode c_L_again 1 = .ok (.iconst 0, 1) := by decide +kernel
theorem d_L_again_2 : decode c_L_again 2 = .ok (.aload_n 0, 1) := by decide +kernel
theorem d_L_again_3 : decode c_L_again 3 = .ok (.iload_n 1, 1) := by decide +kernel
theorem d_L_again_4 : decode c_L_again 4 = .ok (.iload_n 2, 1) := by decide +kernel
theorem d_L_again_5 : decode c_L_again 5 = .ok (.invokevirtual 20, 3) := by decide +kernel
theorem d_L_again_8 : decode c_L_again 8 = .ok (.i2l, 1) := by decide +kernel
theorem d_L_again_9 : decode c_L_again 9 = .ok (.lastore, 1) := by decide +kernel
theorem d_L_again_10 : decode c_L_again 10 = .ok (.goto 11, 3) := by decide +kernel
theorem d_L_again_13 : decode c_L_again 13 = .ok (.astore 4, 2) := by decide +kernel
theorem d_L_again_15 : decode c_L_again 15 = .ok (.iconst 1, 1) := by decide +kernel
theorem d_L_again_16 : decode c_L_again 16 = .ok (.ireturn, 1) := by decide +kernel
theorem d_L_again_17 : decode c_L_again 17 = .ok (.astore 4, 2) := by decide +kernel
theorem d_L_again_19 : decode c_L_again 19 = .ok (.iconst 2, 1) := by decide +kernel
theorem d_L_again_20 : decode c_L_again 20 = .ok (.ireturn, 1) := by decide +kernel
theorem d_L_again_21 : decode c_L_again 21 = .ok (.iconst 0, 1) := by decide +kernel
theorem d_L_again_22 : decode c_L_again 22 = .ok (.ireturn, 1) := by decide +kernel
theorem d_L_kind_0 : decode c_L_kind 0 = .ok (.aload_n 2, 1) := by decide +kernel
theorem d_L_kind_1 : decode c_L_kind 1 = .ok (.iconst 0, 1) := by decide +kernel
theorem d_L_kind_2 : decode c_L_kind 2 = .ok (.aload_n 0, 1) := by decide +kernel
theorem d_L_kind_3 : decode c_L_kind 3 = .ok (.iload_n 1, 1) := by decide +kernel
theorem d_L_kind_4 : decode c_L_kind 4 = .ok (.invokevirtual 24, 3) := by decide +kernel
theorem d_L_kind_7 : decode c_L_kind 7 = .ok (.i2l, 1) := by decide +kernel
theorem d_L_kind_8 : decode c_L_kind 8 = .ok (.lastore, 1) := by decide +kernel
theorem d_L_kind_9 : decode c_L_kind 9 = .ok (.goto 6, 3) := by decide +kernel
theorem d_L_kind_12 : decode c_L_kind 12 = .ok (.astore_n 3, 1) := by decide +kernel
theorem d_L_kind_13 : decode c_L_kind 13 = .ok (.iconst 1, 1) := by decide +kernel
theorem d_L_kind_14 : decode c_L_kind 14 = .ok (.ireturn, 1) := by decide +kernel
theorem d_L_kind_15 : decode c_L_kind 15 = .ok (.iconst 0, 1) := by decide +kernel
theorem d_L_kind_16 : decode c_L_kind 16 = .ok (.ireturn, 1) := by decide +kernel
theorem d_L_block_0 : decode c_L_block 0 = .ok (.aload_n 2, 1) := by decide +kernel
theorem d_L_block_1 : decode c_L_block 1 = .ok (.iconst 0, 1) := by decide +kernel
theorem d_L_block_2 : decode c_L_block 2 = .ok (.aload_n 0, 1) := by decide +kernel
theorem d_L_block_3 : decode c_L_block 3 = .ok (.iload_n 1, 1) := by decide +kernel
theorem d_L_block_4 : decode c_L_block 4 = .ok (.invokevirtual 29, 3) := by decide +kernel
theorem d_L_block_7 : decode c_L_block 7 = .ok (.i2l, 1) := by decide +kernel
theorem d_L_block_8 : decode c_L_block 8 = .ok (.lastore, 1) := by decide +kernel
theorem d_L_block_9 : decode c_L_block 9 = .ok (.goto 6, 3) := by decide +kernel
theorem d_L_block_12 : decode c_L_block 12 = .ok (.astore_n 3, 1) := by decide +kernel
theorem d_L_block_13 : decode c_L_block 13 = .ok (.iconst 1, 1) := by decide +kernel
theorem d_L_block_14 : decode c_L_block 14 = .ok (.ireturn, 1) := by decide +kernel
theorem d_L_block_15 : decode c_L_block 15 = .ok (.iconst 0, 1) := by decide +kernel
theorem d_L_block_16 : decode c_L_block 16 = .ok (.ireturn, 1) := by decide +kernel
theorem d_L_write_0 : decode c_L_write 0 = .ok (.aload_n 0, 1) := by decide +kernel
theorem d_L_write_1 : decode c_L_write 1 = .ok (.iload_n 1, 1) := by decide +kernel
theorem d_L_write_2 : decode c_L_write 2 = .ok (.iload_n 2, 1) := by decide +kernel
theorem d_L_write_3 : decode c_L_write 3 = .ok (.invokevirtual 32, 3) := by decide +kernel
theorem d_L_write_6 : decode c_L_write 6 = .ok (.goto 9, 3) := by decide +kernel
theorem d_L_write_9 : decode c_L_write 9 = .ok (.astore_n 3, 1) := by decide +kernel
theorem d_L_write_10 : decode c_L_write 10 = .ok (.iconst 1, 1) := by decide +kernel
theorem d_L_write_11 : decode c_L_write 11 = .ok (.ireturn, 1) := by decide +kernel
theorem d_L_write_12 : decode c_L_write 12 = .ok (.astore_n 3, 1) := by decide +kernel
theorem d_L_write_13 : decode c_L_write 13 = .ok (.iconst 2, 1) := by decide +kernel
theorem d_L_write_14 : decode c_L_write 14 = .ok (.ireturn, 1) := by decide +kernel
theorem d_L_write_15 : decode c_L_write 15 = .ok (.iconst 0, 1) := by decide +kernel
theorem d_L_write_16 : decode c_L_write 16 = .ok (.ireturn, 1) := by decide +kernel
theorem d_L_read_0 : decode c_L_read 0 = .ok (.aload_n 2, 1) := by decide +kernel
theorem d_L_read_1 : decode c_L_read 1 = .ok (.iconst 0, 1) := by decide +kernel
theorem d_L_read_2 : decode c_L_read 2 = .ok (.aload_n 0, 1) := by decide +kernel
theorem d_L_read_3 : decode c_L_read 3 = .ok (.iload_n 1, 1) := by decide +kernel
theorem d_L_read_4 : decode c_L_read 4 = .ok (.invokevirtual 36, 3) := by decide +kernel
theorem d_L_read_7 : decode c_L_read 7 = .ok (.i2l, 1) := by decide +kernel
theorem d_L_read_8 : decode c_L_read 8 = .ok (.lastore, 1) := by decide +kernel
theorem d_L_read_9 : decode c_L_read 9 = .ok (.goto 9, 3) := by decide +kernel
theorem d_L_read_12 : decode c_L_read 12 = .ok (.astore_n 3, 1) := by decide +kernel
theorem d_L_read_13 : decode c_L_read 13 = .ok (.iconst 1, 1) := by decide +kernel
theorem d_L_read_14 : decode c_L_read 14 = .ok (.ireturn, 1) := by decide +kernel
theorem d_L_read_15 : decode c_L_read 15 = .ok (.astore_n 3, 1) := by decide +kernel
theorem d_L_read_16 : decode c_L_read 16 = .ok (.iconst 2, 1) := by decide +kernel
theorem d_L_read_17 : decode c_L_read 17 = .ok (.ireturn, 1) := by decide +kernel
theorem d_L_read_18 : decode c_L_read 18 = .ok (.iconst 0, 1) := by decide +kernel
theorem d_L_read_19 : decode c_L_read 19 = .ok (.ireturn, 1) := by decide +kernel
theorem d_L_lostAt_0 : decode c_L_lostAt 0 = .ok (.aload_n 2, 1) := by decide +kernel
theorem d_L_lostAt_1 : decode c_L_lostAt 1 = .ok (.iconst 0, 1) := by decide +kernel
theorem d_L_lostAt_2 : decode c_L_lostAt 2 = .ok (.aload_n 0, 1) := by decide +kernel
theorem d_L_lostAt_3 : decode c_L_lostAt 3 = .ok (.iload_n 1, 1) := by decide +kernel
theorem d_L_lostAt_4 : decode c_L_lostAt 4 = .ok (.invokevirtual 39, 3) := by decide +kernel
theorem d_L_lostAt_7 : decode c_L_lostAt 7 = .ok (.i2l, 1) := by decide +kernel
theorem d_L_lostAt_8 : decode c_L_lostAt 8 = .ok (.lastore, 1) := by decide +kernel
theorem d_L_lostAt_9 : decode c_L_lostAt 9 = .ok (.goto 6, 3) := by decide +kernel
theorem d_L_lostAt_12 : decode c_L_lostAt 12 = .ok (.astore_n 3, 1) := by decide +kernel
theorem d_L_lostAt_13 : decode c_L_lostAt 13 = .ok (.iconst 1, 1) := by decide +kernel
theorem d_L_lostAt_14 : decode c_L_lostAt 14 = .ok (.ireturn, 1) := by decide +kernel
theorem d_L_lostAt_15 : decode c_L_lostAt 15 = .ok (.iconst 0, 1) := by decide +kernel
theorem d_L_lostAt_16 : decode c_L_lostAt 16 = .ok (.ireturn, 1) := by decide +kernel
theorem d_L_count_0 : decode c_L_count 0 = .ok (.aload_n 2, 1) := by decide +kernel
theorem d_L_count_1 : decode c_L_count 1 = .ok (.iconst 0, 1) := by decide +kernel
theorem d_L_count_2 : decode c_L_count 2 = .ok (.aload_n 0, 1) := by decide +kernel
theorem d_L_count_3 : decode c_L_count 3 = .ok (.iload_n 1, 1) := by decide +kernel
theorem d_L_count_4 : decode c_L_count 4 = .ok (.invokevirtual 42, 3) := by decide +kernel
theorem d_L_count_7 : decode c_L_count 7 = .ok (.i2l, 1) := by decide +kernel
theorem d_L_count_8 : decode c_L_count 8 = .ok (.lastore, 1) := by decide +kernel
theorem d_L_count_9 : decode c_L_count 9 = .ok (.goto 6, 3) := by decide +kernel
theorem d_L_count_12 : decode c_L_count 12 = .ok (.astore_n 3, 1) := by decide +kernel
theorem d_L_count_13 : decode c_L_count 13 = .ok (.iconst 1, 1) := by decide +kernel
theorem d_L_count_14 : decode c_L_count 14 = .ok (.ireturn, 1) := by decide +kernel
theorem d_L_count_15 : decode c_L_count 15 = .ok (.iconst 0, 1) := by decide +kernel
theorem d_L_count_16 : decode c_L_count 16 = .ok (.ireturn, 1) := by decide +kernel
end
section
theorem d_L_law_0 : decode c_L_law 0 = .ok (.new 8, 3) := by decide +kernel
theorem d_L_law_3 : decode c_L_law 3 = .ok (.dup, 1) := by decide +kernel
theorem d_L_law_4 : decode c_L_law 4 = .ok (.invokespecial 45, 3) := by decide +kernel
theorem d_L_law_7 : decode c_L_law 7 = .ok (.astore_n 1, 1) := by decide +kernel
theorem d_L_law_8 : decode c_L_law 8 = .ok (.new 46, 3) := by decide +kernel
theorem d_L_law_11 : decode c_L_law 11 = .ok (.dup, 1) := by decide +kernel
theorem d_L_law_12 : decode c_L_law 12 = .ok (.invokespecial 48, 3) := by decide +kernel
theorem d_L_law_15 : decode c_L_law 15 = .ok (.astore_n 2, 1) := by decide +kernel
theorem d_L_law_16 : decode c_L_law 16 = .ok (.iconst 1, 1) := by decide +kernel
theorem d_L_law_17 : decode c_L_law 17 = .ok (.newarray .long, 2) := by decide +kernel
theorem d_L_law_19 : decode c_L_law 19 = .ok (.astore_n 3, 1) := by decide +kernel
theorem d_L_law_20 : decode c_L_law 20 = .ok (.iconst 0, 1) := by decide +kernel
theorem d_L_law_21 : decode c_L_law 21 = .ok (.istore 4, 2) := by decide +kernel
theorem d_L_law_23 : decode c_L_law 23 = .ok (.iload 4, 2) := by decide +kernel
theorem d_L_law_25 : decode c_L_law 25 = .ok (.aload_n 0, 1) := by decide +kernel
theorem d_L_law_26 : decode c_L_law 26 = .ok (.arraylength, 1) := by decide +kernel
theorem d_L_law_27 : decode c_L_law 27 = .ok (.iconst 3, 1) := by decide +kernel
theorem d_L_law_28 : decode c_L_law 28 = .ok (.isub, 1) := by decide +kernel
theorem d_L_law_29 : decode c_L_law 29 = .ok (.if_icmp .gt 614, 3) := by decide +kernel
theorem d_L_law_32 : decode c_L_law 32 = .ok (.aload_n 0, 1) := by decide +kernel
theorem d_L_law_33 : decode c_L_law 33 = .ok (.iload 4, 2) := by decide +kernel
theorem d_L_law_35 : decode c_L_law 35 = .ok (.iaload, 1) := by decide +kernel
theorem d_L_law_36 : decode c_L_law 36 = .ok (.bipush 15, 2) := by decide +kernel
theorem d_L_law_38 : decode c_L_law 38 = .ok (.iand, 1) := by decide +kernel
theorem d_L_law_39 : decode c_L_law 39 = .ok (.tableswitch 598 0 9 #[53, 109, 165, 233, 289, 345, 393, 449, 486, 542], 53) := by decide +kernel
theorem d_L_law_92 : decode c_L_law 92 = .ok (.aload_n 1, 1) := by decide +kernel
theorem d_L_law_93 : decode c_L_law 93 = .ok (.aload_n 0, 1) := by decide +kernel
theorem d_L_law_94 : decode c_L_law 94 = .ok (.iload 4, 2) := by decide +kernel
theorem d_L_law_96 : decode c_L_law 96 = .ok (.iconst 1, 1) := by decide +kernel
theorem d_L_law_97 : decode c_L_law 97 = .ok (.iadd, 1) := by decide +kernel
theorem d_L_law_98 : decode c_L_law 98 = .ok (.iaload, 1) := by decide +kernel
theorem d_L_law_99 : decode c_L_law 99 = .ok (.aload_n 3, 1) := by decide +kernel
theorem d_L_law_100 : decode c_L_law 100 = .ok (.invokestatic 49, 3) := by decide +kernel
theorem d_L_law_103 : decode c_L_law 103 = .ok (.istore 5, 2) := by decide +kernel
theorem d_L_law_105 : decode c_L_law 105 = .ok (.aload_n 2, 1) := by decide +kernel
theorem d_L_law_106 : decode c_L_law 106 = .ok (.aload_n 0, 1) := by decide +kernel
theorem d_L_law_107 : decode c_L_law 107 = .ok (.iload 4, 2) := by decide +kernel
theorem d_L_law_109 : decode c_L_law 109 = .ok (.iconst 1, 1) := by decide +kernel
theorem d_L_law_110 : decode c_L_law 110 = .ok (.iadd, 1) := by decide +kernel
theorem d_L_law_111 : decode c_L_law 111 = .ok (.iaload, 1) := by decide +kernel
theorem d_L_law_112 : decode c_L_law 112 = .ok (.invokevirtual 54, 3) := by decide +kernel
theorem d_L_law_115 : decode c_L_law 115 = .ok (.istore 6, 2) := by decide +kernel
theorem d_L_law_117 : decode c_L_law 117 = .ok (.aload_n 2, 1) := by decide +kernel
theorem d_L_law_118 : decode c_L_law 118 = .ok (.invokevirtual 55, 3) := by decide +kernel
theorem d_L_law_121 : decode c_L_law 121 = .ok (.iload 5, 2) := by decide +kernel
theorem d_L_law_123 : decode c_L_law 123 = .ok (.if_icmp .eq 5, 3) := by decide +kernel
theorem d_L_law_126 : decode c_L_law 126 = .ok (.iconst 0, 1) := by decide +kernel
theorem d_L_law_127 : decode c_L_law 127 = .ok (.ireturn, 1) := by decide +kernel
theorem d_L_law_128 : decode c_L_law 128 = .ok (.iload 5, 2) := by decide +kernel
theorem d_L_law_130 : decode c_L_law 130 = .ok (.ifCond .ne 15, 3) := by decide +kernel
theorem d_L_law_133 : decode c_L_law 133 = .ok (.aload_n 3, 1) := by decide +kernel
theorem d_L_law_134 : decode c_L_law 134 = .ok (.iconst 0, 1) := by decide +kernel
theorem d_L_law_135 : decode c_L_law 135 = .ok (.laload, 1) := by decide +kernel
theorem d_L_law_136 : decode c_L_law 136 = .ok (.iload 6, 2) := by decide +kernel
theorem d_L_law_138 : decode c_L_law 138 = .ok (.i2l, 1) := by decide +kernel
theorem d_L_law_139 : decode c_L_law 139 = .ok (.lcmp, 1) := by decide +kernel
theorem d_L_law_140 : decode c_L_law 140 = .ok (.ifCond .eq 5, 3) := by decide +kernel
theorem d_L_law_143 : decode c_L_law 143 = .ok (.iconst 0, 1) := by decide +kernel
theorem d_L_law_144 : decode c_L_law 144 = .ok (.ireturn, 1) := by decide +kernel
theorem d_L_law_145 : decode c_L_law 145 = .ok (.goto 492, 3) := by decide +kernel
theorem d_L_law_148 : decode c_L_law 148 = .ok (.aload_n 1, 1) := by decide +kernel
theorem d_L_law_149 : decode c_L_law 149 = .ok (.aload_n 0, 1) := by decide +kernel
theorem d_L_law_150 : decode c_L_law 150 = .ok (.iload 4, 2) := by decide +kernel
theorem d_L_law_152 : decode c_L_law 152 = .ok (.iconst 1, 1) := by decide +kernel
end
section
theorem d_L_law_153 : decode c_L_law 153 = .ok (.iadd, 1) := by decide +kernel
theorem d_L_law_154 : decode c_L_law 154 = .ok (.iaload, 1) := by decide +kernel
theorem d_L_law_155 : decode c_L_law 155 = .ok (.aload_n 3, 1) := by decide +kernel
theorem d_L_law_156 : decode c_L_law 156 = .ok (.invokestatic 59, 3) := by decide +kernel
theorem d_L_law_159 : decode c_L_law 159 = .ok (.istore 5, 2) := by decide +kernel
theorem d_L_law_161 : decode c_L_law 161 = .ok (.aload_n 2, 1) := by decide +kernel
theorem d_L_law_162 : decode c_L_law 162 = .ok (.aload_n 0, 1) := by decide +kernel
theorem d_L_law_163 : decode c_L_law 163 = .ok (.iload 4, 2) := by decide +kernel
theorem d_L_law_165 : decode c_L_law 165 = .ok (.iconst 1, 1) := by decide +kernel
theorem d_L_law_166 : decode c_L_law 166 = .ok (.iadd, 1) := by decide +kernel
theorem d_L_law_167 : decode c_L_law 167 = .ok (.iaload, 1) := by decide +kernel
theorem d_L_law_168 : decode c_L_law 168 = .ok (.invokevirtual 61, 3) := by decide +kernel
theorem d_L_law_171 : decode c_L_law 171 = .ok (.istore 6, 2) := by decide +kernel
theorem d_L_law_173 : decode c_L_law 173 = .ok (.aload_n 2, 1) := by decide +kernel
theorem d_L_law_174 : decode c_L_law 174 = .ok (.invokevirtual 55, 3) := by decide +kernel
theorem d_L_law_177 : decode c_L_law 177 = .ok (.iload 5, 2) := by decide +kernel
theorem d_L_law_179 : decode c_L_law 179 = .ok (.if_icmp .eq 5, 3) := by decide +kernel
theorem d_L_law_182 : decode c_L_law 182 = .ok (.iconst 0, 1) := by decide +kernel
theorem d_L_law_183 : decode c_L_law 183 = .ok (.ireturn, 1) := by decide +kernel
theorem d_L_law_184 : decode c_L_law 184 = .ok (.iload 5, 2) := by decide +kernel
theorem d_L_law_186 : decode c_L_law 186 = .ok (.ifCond .ne 15, 3) := by decide +kernel
theorem d_L_law_189 : decode c_L_law 189 = .ok (.aload_n 3, 1) := by decide +kernel
theorem d_L_law_190 : decode c_L_law 190 = .ok (.iconst 0, 1) := by decide +kernel
theorem d_L_law_191 : decode c_L_law 191 = .ok (.laload, 1) := by decide +kernel
theorem d_L_law_192 : decode c_L_law 192 = .ok (.iload 6, 2) := by decide +kernel
theorem d_L_law_194 : decode c_L_law 194 = .ok (.i2l, 1) := by decide +kernel
theorem d_L_law_195 : decode c_L_law 195 = .ok (.lcmp, 1) := by decide +kernel
theorem d_L_law_196 : decode c_L_law 196 = .ok (.ifCond .eq 5, 3) := by decide +kernel
theorem d_L_law_199 : decode c_L_law 199 = .ok (.iconst 0, 1) := by decide +kernel
theorem d_L_law_200 : decode c_L_law 200 = .ok (.ireturn, 1) := by decide +kernel
theorem d_L_law_201 : decode c_L_law 201 = .ok (.goto 436, 3) := by decide +kernel
theorem d_L_law_204 : decode c_L_law 204 = .ok (.aload_n 1, 1) := by decide +kernel
theorem d_L_law_205 : decode c_L_law 205 = .ok (.aload_n 0, 1) := by decide +kernel
theorem d_L_law_206 : decode c_L_law 206 = .ok (.iload 4, 2) := by decide +kernel
theorem d_L_law_208 : decode c_L_law 208 = .ok (.iconst 1, 1) := by decide +kernel
theorem d_L_law_209 : decode c_L_law 209 = .ok (.iadd, 1) := by decide +kernel
theorem d_L_law_210 : decode c_L_law 210 = .ok (.iaload, 1) := by decide +kernel
theorem d_L_law_211 : decode c_L_law 211 = .ok (.aload_n 0, 1) := by decide +kernel
theorem d_L_law_212 : decode c_L_law 212 = .ok (.iload 4, 2) := by decide +kernel
theorem d_L_law_214 : decode c_L_law 214 = .ok (.iconst 2, 1) := by decide +kernel
theorem d_L_law_215 : decode c_L_law 215 = .ok (.iadd, 1) := by decide +kernel
theorem d_L_law_216 : decode c_L_law 216 = .ok (.iaload, 1) := by decide +kernel
theorem d_L_law_217 : decode c_L_law 217 = .ok (.aload_n 3, 1) := by decide +kernel
theorem d_L_law_218 : decode c_L_law 218 = .ok (.invokestatic 62, 3) := by decide +kernel
theorem d_L_law_221 : decode c_L_law 221 = .ok (.istore 5, 2) := by decide +kernel
theorem d_L_law_223 : decode c_L_law 223 = .ok (.aload_n 2, 1) := by decide +kernel
theorem d_L_law_224 : decode c_L_law 224 = .ok (.aload_n 0, 1) := by decide +kernel
theorem d_L_law_225 : decode c_L_law 225 = .ok (.iload 4, 2) := by decide +kernel
theorem d_L_law_227 : decode c_L_law 227 = .ok (.iconst 1, 1) := by decide +kernel
theorem d_L_law_228 : decode c_L_law 228 = .ok (.iadd, 1) := by decide +kernel
theorem d_L_law_229 : decode c_L_law 229 = .ok (.iaload, 1) := by decide +kernel
theorem d_L_law_230 : decode c_L_law 230 = .ok (.aload_n 0, 1) := by decide +kernel
theorem d_L_law_231 : decode c_L_law 231 = .ok (.iload 4, 2) := by decide +kernel
theorem d_L_law_233 : decode c_L_law 233 = .ok (.iconst 2, 1) := by decide +kernel
theorem d_L_law_234 : decode c_L_law 234 = .ok (.iadd, 1) := by decide +kernel
theorem d_L_law_235 : decode c_L_law 235 = .ok (.iaload, 1) := by decide +kernel
theorem d_L_law_236 : decode c_L_law 236 = .ok (.invokevirtual 65, 3) := by decide +kernel
theorem d_L_law_239 : decode c_L_law 239 = .ok (.istore 6, 2) := by decide +kernel
theorem d_L_law_241 : decode c_L_law 241 = .ok (.aload_n 2, 1) := by decide +kernel
theorem d_L_law_242 : decode c_L_law 242 = .ok (.invokevirtual 55, 3) := by decide +kernel
theorem d_L_law_245 : decode c_L_law 245 = .ok (.iload 5, 2) := by decide +kernel
theorem d_L_law_247 : decode c_L_law 247 = .ok (.if_icmp .eq 5, 3) := by decide +kernel
theorem d_L_law_250 : decode c_L_law 250 = .ok (.iconst 0, 1) := by decide +kernel
theorem d_L_law_251 : decode c_L_law 251 = .ok (.ireturn, 1) := by decide +kernel
end
section
theorem d_L_law_252 : decode c_L_law 252 = .ok (.iload 5, 2) := by decide +kernel
theorem d_L_law_254 : decode c_L_law 254 = .ok (.ifCond .ne 15, 3) := by decide +kernel
theorem d_L_law_257 : decode c_L_law 257 = .ok (.aload_n 3, 1) := by decide +kernel
theorem d_L_law_258 : decode c_L_law 258 = .ok (.iconst 0, 1) := by decide +kernel
theorem d_L_law_259 : decode c_L_law 259 = .ok (.laload, 1) := by decide +kernel
theorem d_L_law_260 : decode c_L_law 260 = .ok (.iload 6, 2) := by decide +kernel
theorem d_L_law_262 : decode c_L_law 262 = .ok (.i2l, 1) := by decide +kernel
theorem d_L_law_263 : decode c_L_law 263 = .ok (.lcmp, 1) := by decide +kernel
theorem d_L_law_264 : decode c_L_law 264 = .ok (.ifCond .eq 5, 3) := by decide +kernel
theorem d_L_law_267 : decode c_L_law 267 = .ok (.iconst 0, 1) := by decide +kernel
theorem d_L_law_268 : decode c_L_law 268 = .ok (.ireturn, 1) := by decide +kernel
theorem d_L_law_269 : decode c_L_law 269 = .ok (.goto 368, 3) := by decide +kernel
theorem d_L_law_272 : decode c_L_law 272 = .ok (.aload_n 1, 1) := by decide +kernel
theorem d_L_law_273 : decode c_L_law 273 = .ok (.aload_n 0, 1) := by decide +kernel
theorem d_L_law_274 : decode c_L_law 274 = .ok (.iload 4, 2) := by decide +kernel
theorem d_L_law_276 : decode c_L_law 276 = .ok (.iconst 1, 1) := by decide +kernel
theorem d_L_law_277 : decode c_L_law 277 = .ok (.iadd, 1) := by decide +kernel
theorem d_L_law_278 : decode c_L_law 278 = .ok (.iaload, 1) := by decide +kernel
theorem d_L_law_279 : decode c_L_law 279 = .ok (.aload_n 3, 1) := by decide +kernel
theorem d_L_law_280 : decode c_L_law 280 = .ok (.invokestatic 66, 3) := by decide +kernel
theorem d_L_law_283 : decode c_L_law 283 = .ok (.istore 5, 2) := by decide +kernel
theorem d_L_law_285 : decode c_L_law 285 = .ok (.aload_n 2, 1) := by decide +kernel
theorem d_L_law_286 : decode c_L_law 286 = .ok (.aload_n 0, 1) := by decide +kernel
theorem d_L_law_287 : decode c_L_law 287 = .ok (.iload 4, 2) := by decide +kernel
theorem d_L_law_289 : decode c_L_law 289 = .ok (.iconst 1, 1) := by decide +kernel
theorem d_L_law_290 : decode c_L_law 290 = .ok (.iadd, 1) := by decide +kernel
theorem d_L_law_291 : decode c_L_law 291 = .ok (.iaload, 1) := by decide +kernel
theorem d_L_law_292 : decode c_L_law 292 = .ok (.invokevirtual 68, 3) := by decide +kernel
theorem d_L_law_295 : decode c_L_law 295 = .ok (.istore 6, 2) := by decide +kernel
theorem d_L_law_297 : decode c_L_law 297 = .ok (.aload_n 2, 1) := by decide +kernel
theorem d_L_law_298 : decode c_L_law 298 = .ok (.invokevirtual 55, 3) := by decide +kernel
theorem d_L_law_301 : decode c_L_law 301 = .ok (.iload 5, 2) := by decide +kernel
theorem d_L_law_303 : decode c_L_law 303 = .ok (.if_icmp .eq 5, 3) := by decide +kernel
theorem d_L_law_306 : decode c_L_law 306 = .ok (.iconst 0, 1) := by decide +kernel
theorem d_L_law_307 : decode c_L_law 307 = .ok (.ireturn, 1) := by decide +kernel
theorem d_L_law_308 : decode c_L_law 308 = .ok (.iload 5, 2) := by decide +kernel
theorem d_L_law_310 : decode c_L_law 310 = .ok (.ifCond .ne 15, 3) := by decide +kernel
theorem d_L_law_313 : decode c_L_law 313 = .ok (.aload_n 3, 1) := by decide +kernel
theorem d_L_law_314 : decode c_L_law 314 = .ok (.iconst 0, 1) := by decide +kernel
theorem d_L_law_315 : decode c_L_law 315 = .ok (.laload, 1) := by decide +kernel
theorem d_L_law_316 : decode c_L_law 316 = .ok (.iload 6, 2) := by decide +kernel
theorem d_L_law_318 : decode c_L_law 318 = .ok (.i2l, 1) := by decide +kernel
theorem d_L_law_319 : decode c_L_law 319 = .ok (.lcmp, 1) := by decide +kernel
theorem d_L_law_320 : decode c_L_law 320 = .ok (.ifCond .eq 5, 3) := by decide +kernel
theorem d_L_law_323 : decode c_L_law 323 = .ok (.iconst 0, 1) := by decide +kernel
theorem d_L_law_324 : decode c_L_law 324 = .ok (.ireturn, 1) := by decide +kernel
theorem d_L_law_325 : decode c_L_law 325 = .ok (.goto 312, 3) := by decide +kernel
theorem d_L_law_328 : decode c_L_law 328 = .ok (.aload_n 1, 1) := by decide +kernel
theorem d_L_law_329 : decode c_L_law 329 = .ok (.aload_n 0, 1) := by decide +kernel
theorem d_L_law_330 : decode c_L_law 330 = .ok (.iload 4, 2) := by decide +kernel
theorem d_L_law_332 : decode c_L_law 332 = .ok (.iconst 1, 1) := by decide +kernel
theorem d_L_law_333 : decode c_L_law 333 = .ok (.iadd, 1) := by decide +kernel
theorem d_L_law_334 : decode c_L_law 334 = .ok (.iaload, 1) := by decide +kernel
theorem d_L_law_335 : decode c_L_law 335 = .ok (.aload_n 3, 1) := by decide +kernel
theorem d_L_law_336 : decode c_L_law 336 = .ok (.invokestatic 69, 3) := by decide +kernel
theorem d_L_law_339 : decode c_L_law 339 = .ok (.istore 5, 2) := by decide +kernel
theorem d_L_law_341 : decode c_L_law 341 = .ok (.aload_n 2, 1) := by decide +kernel
theorem d_L_law_342 : decode c_L_law 342 = .ok (.aload_n 0, 1) := by decide +kernel
theorem d_L_law_343 : decode c_L_law 343 = .ok (.iload 4, 2) := by decide +kernel
theorem d_L_law_345 : decode c_L_law 345 = .ok (.iconst 1, 1) := by decide +kernel
theorem d_L_law_346 : decode c_L_law 346 = .ok (.iadd, 1) := by decide +kernel
theorem d_L_law_347 : decode c_L_law 347 = .ok (.iaload, 1) := by decide +kernel
theorem d_L_law_348 : decode c_L_law 348 = .ok (.invokevirtual 71, 3) := by decide +kernel
theorem d_L_law_351 : decode c_L_law 351 = .ok (.istore 6, 2) := by decide +kernel
end
section
theorem d_L_law_353 : decode c_L_law 353 = .ok (.aload_n 2, 1) := by decide +kernel
theorem d_L_law_354 : decode c_L_law 354 = .ok (.invokevirtual 55, 3) := by decide +kernel
theorem d_L_law_357 : decode c_L_law 357 = .ok (.iload 5, 2) := by decide +kernel
theorem d_L_law_359 : decode c_L_law 359 = .ok (.if_icmp .eq 5, 3) := by decide +kernel
theorem d_L_law_362 : decode c_L_law 362 = .ok (.iconst 0, 1) := by decide +kernel
theorem d_L_law_363 : decode c_L_law 363 = .ok (.ireturn, 1) := by decide +kernel
theorem d_L_law_364 : decode c_L_law 364 = .ok (.iload 5, 2) := by decide +kernel
theorem d_L_law_366 : decode c_L_law 366 = .ok (.ifCond .ne 15, 3) := by decide +kernel
theorem d_L_law_369 : decode c_L_law 369 = .ok (.aload_n 3, 1) := by decide +kernel
theorem d_L_law_370 : decode c_L_law 370 = .ok (.iconst 0, 1) := by decide +kernel
theorem d_L_law_371 : decode c_L_law 371 = .ok (.laload, 1) := by decide +kernel
theorem d_L_law_372 : decode c_L_law 372 = .ok (.iload 6, 2) := by decide +kernel
theorem d_L_law_374 : decode c_L_law 374 = .ok (.i2l, 1) := by decide +kernel
theorem d_L_law_375 : decode c_L_law 375 = .ok (.lcmp, 1) := by decide +kernel
theorem d_L_law_376 : decode c_L_law 376 = .ok (.ifCond .eq 5, 3) := by decide +kernel
theorem d_L_law_379 : decode c_L_law 379 = .ok (.iconst 0, 1) := by decide +kernel
theorem d_L_law_380 : decode c_L_law 380 = .ok (.ireturn, 1) := by decide +kernel
theorem d_L_law_381 : decode c_L_law 381 = .ok (.goto 256, 3) := by decide +kernel
theorem d_L_law_384 : decode c_L_law 384 = .ok (.aload_n 1, 1) := by decide +kernel
theorem d_L_law_385 : decode c_L_law 385 = .ok (.aload_n 0, 1) := by decide +kernel
theorem d_L_law_386 : decode c_L_law 386 = .ok (.iload 4, 2) := by decide +kernel
theorem d_L_law_388 : decode c_L_law 388 = .ok (.iconst 1, 1) := by decide +kernel
theorem d_L_law_389 : decode c_L_law 389 = .ok (.iadd, 1) := by decide +kernel
theorem d_L_law_390 : decode c_L_law 390 = .ok (.iaload, 1) := by decide +kernel
theorem d_L_law_391 : decode c_L_law 391 = .ok (.aload_n 0, 1) := by decide +kernel
theorem d_L_law_392 : decode c_L_law 392 = .ok (.iload 4, 2) := by decide +kernel
theorem d_L_law_394 : decode c_L_law 394 = .ok (.iconst 2, 1) := by decide +kernel
theorem d_L_law_395 : decode c_L_law 395 = .ok (.iadd, 1) := by decide +kernel
theorem d_L_law_396 : decode c_L_law 396 = .ok (.iaload, 1) := by decide +kernel
theorem d_L_law_397 : decode c_L_law 397 = .ok (.invokestatic 72, 3) := by decide +kernel
theorem d_L_law_400 : decode c_L_law 400 = .ok (.istore 5, 2) := by decide +kernel
theorem d_L_law_402 : decode c_L_law 402 = .ok (.aload_n 2, 1) := by decide +kernel
theorem d_L_law_403 : decode c_L_law 403 = .ok (.aload_n 0, 1) := by decide +kernel
theorem d_L_law_404 : decode c_L_law 404 = .ok (.iload 4, 2) := by decide +kernel
theorem d_L_law_406 : decode c_L_law 406 = .ok (.iconst 1, 1) := by decide +kernel
theorem d_L_law_407 : decode c_L_law 407 = .ok (.iadd, 1) := by decide +kernel
theorem d_L_law_408 : decode c_L_law 408 = .ok (.iaload, 1) := by decide +kernel
theorem d_L_law_409 : decode c_L_law 409 = .ok (.aload_n 0, 1) := by decide +kernel
theorem d_L_law_410 : decode c_L_law 410 = .ok (.iload 4, 2) := by decide +kernel
theorem d_L_law_412 : decode c_L_law 412 = .ok (.iconst 2, 1) := by decide +kernel
theorem d_L_law_413 : decode c_L_law 413 = .ok (.iadd, 1) := by decide +kernel
theorem d_L_law_414 : decode c_L_law 414 = .ok (.iaload, 1) := by decide +kernel
theorem d_L_law_415 : decode c_L_law 415 = .ok (.invokevirtual 75, 3) := by decide +kernel
theorem d_L_law_418 : decode c_L_law 418 = .ok (.aload_n 2, 1) := by decide +kernel
theorem d_L_law_419 : decode c_L_law 419 = .ok (.invokevirtual 55, 3) := by decide +kernel
theorem d_L_law_422 : decode c_L_law 422 = .ok (.iload 5, 2) := by decide +kernel
theorem d_L_law_424 : decode c_L_law 424 = .ok (.if_icmp .eq 5, 3) := by decide +kernel
theorem d_L_law_427 : decode c_L_law 427 = .ok (.iconst 0, 1) := by decide +kernel
theorem d_L_law_428 : decode c_L_law 428 = .ok (.ireturn, 1) := by decide +kernel
theorem d_L_law_429 : decode c_L_law 429 = .ok (.goto 208, 3) := by decide +kernel
theorem d_L_law_432 : decode c_L_law 432 = .ok (.aload_n 1, 1) := by decide +kernel
theorem d_L_law_433 : decode c_L_law 433 = .ok (.aload_n 0, 1) := by decide +kernel
theorem d_L_law_434 : decode c_L_law 434 = .ok (.iload 4, 2) := by decide +kernel
theorem d_L_law_436 : decode c_L_law 436 = .ok (.iconst 1, 1) := by decide +kernel
theorem d_L_law_437 : decode c_L_law 437 = .ok (.iadd, 1) := by decide +kernel
theorem d_L_law_438 : decode c_L_law 438 = .ok (.iaload, 1) := by decide +kernel
theorem d_L_law_439 : decode c_L_law 439 = .ok (.aload_n 3, 1) := by decide +kernel
theorem d_L_law_440 : decode c_L_law 440 = .ok (.invokestatic 76, 3) := by decide +kernel
theorem d_L_law_443 : decode c_L_law 443 = .ok (.istore 5, 2) := by decide +kernel
theorem d_L_law_445 : decode c_L_law 445 = .ok (.aload_n 2, 1) := by decide +kernel
theorem d_L_law_446 : decode c_L_law 446 = .ok (.aload_n 0, 1) := by decide +kernel
theorem d_L_law_447 : decode c_L_law 447 = .ok (.iload 4, 2) := by decide +kernel
theorem d_L_law_449 : decode c_L_law 449 = .ok (.iconst 1, 1) := by decide +kernel
theorem d_L_law_450 : decode c_L_law 450 = .ok (.iadd, 1) := by decide +kernel
end
section
theorem d_L_law_451 : decode c_L_law 451 = .ok (.iaload, 1) := by decide +kernel
theorem d_L_law_452 : decode c_L_law 452 = .ok (.invokevirtual 78, 3) := by decide +kernel
theorem d_L_law_455 : decode c_L_law 455 = .ok (.istore 6, 2) := by decide +kernel
theorem d_L_law_457 : decode c_L_law 457 = .ok (.aload_n 2, 1) := by decide +kernel
theorem d_L_law_458 : decode c_L_law 458 = .ok (.invokevirtual 55, 3) := by decide +kernel
theorem d_L_law_461 : decode c_L_law 461 = .ok (.iload 5, 2) := by decide +kernel
theorem d_L_law_463 : decode c_L_law 463 = .ok (.if_icmp .eq 5, 3) := by decide +kernel
theorem d_L_law_466 : decode c_L_law 466 = .ok (.iconst 0, 1) := by decide +kernel
theorem d_L_law_467 : decode c_L_law 467 = .ok (.ireturn, 1) := by decide +kernel
theorem d_L_law_468 : decode c_L_law 468 = .ok (.iload 5, 2) := by decide +kernel
theorem d_L_law_470 : decode c_L_law 470 = .ok (.ifCond .ne 15, 3) := by decide +kernel
theorem d_L_law_473 : decode c_L_law 473 = .ok (.aload_n 3, 1) := by decide +kernel
theorem d_L_law_474 : decode c_L_law 474 = .ok (.iconst 0, 1) := by decide +kernel
theorem d_L_law_475 : decode c_L_law 475 = .ok (.laload, 1) := by decide +kernel
theorem d_L_law_476 : decode c_L_law 476 = .ok (.iload 6, 2) := by decide +kernel
theorem d_L_law_478 : decode c_L_law 478 = .ok (.i2l, 1) := by decide +kernel
theorem d_L_law_479 : decode c_L_law 479 = .ok (.lcmp, 1) := by decide +kernel
theorem d_L_law_480 : decode c_L_law 480 = .ok (.ifCond .eq 5, 3) := by decide +kernel
theorem d_L_law_483 : decode c_L_law 483 = .ok (.iconst 0, 1) := by decide +kernel
theorem d_L_law_484 : decode c_L_law 484 = .ok (.ireturn, 1) := by decide +kernel
theorem d_L_law_485 : decode c_L_law 485 = .ok (.goto 152, 3) := by decide +kernel
theorem d_L_law_488 : decode c_L_law 488 = .ok (.aload_n 1, 1) := by decide +kernel
theorem d_L_law_489 : decode c_L_law 489 = .ok (.aload_n 0, 1) := by decide +kernel
theorem d_L_law_490 : decode c_L_law 490 = .ok (.iload 4, 2) := by decide +kernel
theorem d_L_law_492 : decode c_L_law 492 = .ok (.iconst 1, 1) := by decide +kernel
theorem d_L_law_493 : decode c_L_law 493 = .ok (.iadd, 1) := by decide +kernel
theorem d_L_law_494 : decode c_L_law 494 = .ok (.iaload, 1) := by decide +kernel
theorem d_L_law_495 : decode c_L_law 495 = .ok (.aload_n 0, 1) := by decide +kernel
theorem d_L_law_496 : decode c_L_law 496 = .ok (.iload 4, 2) := by decide +kernel
theorem d_L_law_498 : decode c_L_law 498 = .ok (.iconst 2, 1) := by decide +kernel
theorem d_L_law_499 : decode c_L_law 499 = .ok (.iadd, 1) := by decide +kernel
theorem d_L_law_500 : decode c_L_law 500 = .ok (.iaload, 1) := by decide +kernel
theorem d_L_law_501 : decode c_L_law 501 = .ok (.invokevirtual 79, 3) := by decide +kernel
theorem d_L_law_504 : decode c_L_law 504 = .ok (.aload_n 2, 1) := by decide +kernel
theorem d_L_law_505 : decode c_L_law 505 = .ok (.aload_n 0, 1) := by decide +kernel
theorem d_L_law_506 : decode c_L_law 506 = .ok (.iload 4, 2) := by decide +kernel
theorem d_L_law_508 : decode c_L_law 508 = .ok (.iconst 1, 1) := by decide +kernel
theorem d_L_law_509 : decode c_L_law 509 = .ok (.iadd, 1) := by decide +kernel
theorem d_L_law_510 : decode c_L_law 510 = .ok (.iaload, 1) := by decide +kernel
theorem d_L_law_511 : decode c_L_law 511 = .ok (.aload_n 0, 1) := by decide +kernel
theorem d_L_law_512 : decode c_L_law 512 = .ok (.iload 4, 2) := by decide +kernel
theorem d_L_law_514 : decode c_L_law 514 = .ok (.iconst 2, 1) := by decide +kernel
theorem d_L_law_515 : decode c_L_law 515 = .ok (.iadd, 1) := by decide +kernel
theorem d_L_law_516 : decode c_L_law 516 = .ok (.iaload, 1) := by decide +kernel
theorem d_L_law_517 : decode c_L_law 517 = .ok (.invokevirtual 82, 3) := by decide +kernel
theorem d_L_law_520 : decode c_L_law 520 = .ok (.if_icmp .eq 117, 3) := by decide +kernel
theorem d_L_law_523 : decode c_L_law 523 = .ok (.iconst 0, 1) := by decide +kernel
theorem d_L_law_524 : decode c_L_law 524 = .ok (.ireturn, 1) := by decide +kernel
theorem d_L_law_525 : decode c_L_law 525 = .ok (.aload_n 1, 1) := by decide +kernel
theorem d_L_law_526 : decode c_L_law 526 = .ok (.aload_n 0, 1) := by decide +kernel
theorem d_L_law_527 : decode c_L_law 527 = .ok (.iload 4, 2) := by decide +kernel
theorem d_L_law_529 : decode c_L_law 529 = .ok (.iconst 1, 1) := by decide +kernel
theorem d_L_law_530 : decode c_L_law 530 = .ok (.iadd, 1) := by decide +kernel
theorem d_L_law_531 : decode c_L_law 531 = .ok (.iaload, 1) := by decide +kernel
theorem d_L_law_532 : decode c_L_law 532 = .ok (.aload_n 3, 1) := by decide +kernel
theorem d_L_law_533 : decode c_L_law 533 = .ok (.invokestatic 83, 3) := by decide +kernel
theorem d_L_law_536 : decode c_L_law 536 = .ok (.istore 5, 2) := by decide +kernel
theorem d_L_law_538 : decode c_L_law 538 = .ok (.aload_n 2, 1) := by decide +kernel
theorem d_L_law_539 : decode c_L_law 539 = .ok (.aload_n 0, 1) := by decide +kernel
theorem d_L_law_540 : decode c_L_law 540 = .ok (.iload 4, 2) := by decide +kernel
theorem d_L_law_542 : decode c_L_law 542 = .ok (.iconst 1, 1) := by decide +kernel
theorem d_L_law_543 : decode c_L_law 543 = .ok (.iadd, 1) := by decide +kernel
theorem d_L_law_544 : decode c_L_law 544 = .ok (.iaload, 1) := by decide +kernel
theorem d_L_law_545 : decode c_L_law 545 = .ok (.invokevirtual 85, 3) := by decide +kernel
end
section
theorem d_L_law_548 : decode c_L_law 548 = .ok (.istore 6, 2) := by decide +kernel
theorem d_L_law_550 : decode c_L_law 550 = .ok (.aload_n 2, 1) := by decide +kernel
theorem d_L_law_551 : decode c_L_law 551 = .ok (.invokevirtual 55, 3) := by decide +kernel
theorem d_L_law_554 : decode c_L_law 554 = .ok (.iload 5, 2) := by decide +kernel
theorem d_L_law_556 : decode c_L_law 556 = .ok (.if_icmp .eq 5, 3) := by decide +kernel
theorem d_L_law_559 : decode c_L_law 559 = .ok (.iconst 0, 1) := by decide +kernel
theorem d_L_law_560 : decode c_L_law 560 = .ok (.ireturn, 1) := by decide +kernel
theorem d_L_law_561 : decode c_L_law 561 = .ok (.iload 5, 2) := by decide +kernel
theorem d_L_law_563 : decode c_L_law 563 = .ok (.ifCond .ne 15, 3) := by decide +kernel
theorem d_L_law_566 : decode c_L_law 566 = .ok (.aload_n 3, 1) := by decide +kernel
theorem d_L_law_567 : decode c_L_law 567 = .ok (.iconst 0, 1) := by decide +kernel
theorem d_L_law_568 : decode c_L_law 568 = .ok (.laload, 1) := by decide +kernel
theorem d_L_law_569 : decode c_L_law 569 = .ok (.iload 6, 2) := by decide +kernel
theorem d_L_law_571 : decode c_L_law 571 = .ok (.i2l, 1) := by decide +kernel
theorem d_L_law_572 : decode c_L_law 572 = .ok (.lcmp, 1) := by decide +kernel
theorem d_L_law_573 : decode c_L_law 573 = .ok (.ifCond .eq 5, 3) := by decide +kernel
theorem d_L_law_576 : decode c_L_law 576 = .ok (.iconst 0, 1) := by decide +kernel
theorem d_L_law_577 : decode c_L_law 577 = .ok (.ireturn, 1) := by decide +kernel
theorem d_L_law_578 : decode c_L_law 578 = .ok (.goto 59, 3) := by decide +kernel
theorem d_L_law_581 : decode c_L_law 581 = .ok (.aload_n 1, 1) := by decide +kernel
theorem d_L_law_582 : decode c_L_law 582 = .ok (.aload_n 0, 1) := by decide +kernel
theorem d_L_law_583 : decode c_L_law 583 = .ok (.iload 4, 2) := by decide +kernel
theorem d_L_law_585 : decode c_L_law 585 = .ok (.iconst 1, 1) := by decide +kernel
theorem d_L_law_586 : decode c_L_law 586 = .ok (.iadd, 1) := by decide +kernel
theorem d_L_law_587 : decode c_L_law 587 = .ok (.iaload, 1) := by decide +kernel
theorem d_L_law_588 : decode c_L_law 588 = .ok (.aload_n 3, 1) := by decide +kernel
theorem d_L_law_589 : decode c_L_law 589 = .ok (.invokestatic 86, 3) := by decide +kernel
theorem d_L_law_592 : decode c_L_law 592 = .ok (.istore 5, 2) := by decide +kernel
theorem d_L_law_594 : decode c_L_law 594 = .ok (.aload_n 2, 1) := by decide +kernel
theorem d_L_law_595 : decode c_L_law 595 = .ok (.aload_n 0, 1) := by decide +kernel
theorem d_L_law_596 : decode c_L_law 596 = .ok (.iload 4, 2) := by decide +kernel
theorem d_L_law_598 : decode c_L_law 598 = .ok (.iconst 1, 1) := by decide +kernel
theorem d_L_law_599 : decode c_L_law 599 = .ok (.iadd, 1) := by decide +kernel
theorem d_L_law_600 : decode c_L_law 600 = .ok (.iaload, 1) := by decide +kernel
theorem d_L_law_601 : decode c_L_law 601 = .ok (.invokevirtual 88, 3) := by decide +kernel
theorem d_L_law_604 : decode c_L_law 604 = .ok (.istore 6, 2) := by decide +kernel
theorem d_L_law_606 : decode c_L_law 606 = .ok (.aload_n 2, 1) := by decide +kernel
theorem d_L_law_607 : decode c_L_law 607 = .ok (.invokevirtual 55, 3) := by decide +kernel
theorem d_L_law_610 : decode c_L_law 610 = .ok (.iload 5, 2) := by decide +kernel
theorem d_L_law_612 : decode c_L_law 612 = .ok (.if_icmp .eq 5, 3) := by decide +kernel
theorem d_L_law_615 : decode c_L_law 615 = .ok (.iconst 0, 1) := by decide +kernel
theorem d_L_law_616 : decode c_L_law 616 = .ok (.ireturn, 1) := by decide +kernel
theorem d_L_law_617 : decode c_L_law 617 = .ok (.iload 5, 2) := by decide +kernel
theorem d_L_law_619 : decode c_L_law 619 = .ok (.ifCond .ne 15, 3) := by decide +kernel
theorem d_L_law_622 : decode c_L_law 622 = .ok (.aload_n 3, 1) := by decide +kernel
theorem d_L_law_623 : decode c_L_law 623 = .ok (.iconst 0, 1) := by decide +kernel
theorem d_L_law_624 : decode c_L_law 624 = .ok (.laload, 1) := by decide +kernel
theorem d_L_law_625 : decode c_L_law 625 = .ok (.iload 6, 2) := by decide +kernel
theorem d_L_law_627 : decode c_L_law 627 = .ok (.i2l, 1) := by decide +kernel
theorem d_L_law_628 : decode c_L_law 628 = .ok (.lcmp, 1) := by decide +kernel
theorem d_L_law_629 : decode c_L_law 629 = .ok (.ifCond .eq 5, 3) := by decide +kernel
theorem d_L_law_632 : decode c_L_law 632 = .ok (.iconst 0, 1) := by decide +kernel
theorem d_L_law_633 : decode c_L_law 633 = .ok (.ireturn, 1) := by decide +kernel
theorem d_L_law_634 : decode c_L_law 634 = .ok (.goto 3, 3) := by decide +kernel
theorem d_L_law_637 : decode c_L_law 637 = .ok (.iinc 4 3, 3) := by decide +kernel
theorem d_L_law_640 : decode c_L_law 640 = .ok (.goto (-617), 3) := by decide +kernel
theorem d_L_law_643 : decode c_L_law 643 = .ok (.iconst 1, 1) := by decide +kernel
theorem d_L_law_644 : decode c_L_law 644 = .ok (.ireturn, 1) := by decide +kernel
end
section
-- rows of walking that the kit lacks: a number renamed on the stack, loops
section
variable {p : Program} {l : Launch} {e : Env} {R : Room} {s : State} {m : MethodId} {args : Array Value} {below : List Frame} {meth : Method} {c : Code} {H : Heap} {locs : List Loc} {cells slots : Nat} {Q : State → Prop} {pc : Nat} {ls : Array Slot} {rest : List Value}
theorem zh_t {x y : Int32} (h : x = y) (k : W p l e R s m args below meth c H locs cells slots Q (F0 m pc ls (.int y :: rest))) : W p l e R s m args below meth c H locs cells slots Q (F0 m pc ls (.int x :: rest)) := by
  subst h
  exact k
theorem zh_v {x y : Value} (h : x = y) (k : W p l e R s m args below meth c H locs cells slots Q (F0 m pc ls (y :: rest))) : W p l e R s m args below meth c H locs cells slots Q (F0 m pc ls (x :: rest)) := by
  subst h
  exact k
theorem zh_loop0 {A : Type} (St : A → Array Slot → Prop) (μ : A → Nat)
    (hs : ∀ (a : A) (ls : Array Slot), St a ls → (∀ (b : A) (ls' : Array Slot), St b ls' → μ b < μ a → W p l e R s m args below meth c H locs cells slots Q (F0 m pc ls' rest)) → W p l e R s m args below meth c H locs cells slots Q (F0 m pc ls rest))
    (a : A) (h : St a ls) : W p l e R s m args below meth c H locs cells slots Q (F0 m pc ls rest) := by
  have key : ∀ (n : Nat) (a : A) (ls : Array Slot), μ a = n → St a ls → W p l e R s m args below meth c H locs cells slots Q (F0 m pc ls rest) := by
    intro n
    induction n using Nat.strongRecOn with
    | _ n ih =>
      intro a ls hn h
      exact hs a ls h (fun b ls' hb hlt => ih (μ b) (by rw [← hn]; exact hlt) b ls' rfl hb)
  exact key (μ a) a ls rfl h
theorem zh_loopH {A : Type} (St : A → Heap → List Loc → Array Slot → Prop) (μ : A → Nat)
    (hs : ∀ (a : A) (H : Heap) (locs : List Loc) (ls : Array Slot), St a H locs ls → (∀ (b : A) (H' : Heap) (locs' : List Loc) (ls' : Array Slot), St b H' locs' ls' → μ b < μ a → W p l e R s m args below meth c H' locs' cells slots Q (F0 m pc ls' rest)) → W p l e R s m args below meth c H locs cells slots Q (F0 m pc ls rest))
    (a : A) (h : St a H locs ls) : W p l e R s m args below meth c H locs cells slots Q (F0 m pc ls rest) := by
  have key : ∀ (n : Nat) (a : A) (H : Heap) (locs : List Loc) (ls : Array Slot), μ a = n → St a H locs ls → W p l e R s m args below meth c H locs cells slots Q (F0 m pc ls rest) := by
    intro n
    induction n using Nat.strongRecOn with
    | _ n ih =>
      intro a H locs ls hn h
      exact hs a H locs ls h (fun b H' locs' ls' hb hlt => ih (μ b) (by rw [← hn]; exact hlt) b H' locs' ls' rfl hb)
  exact key (μ a) a H locs ls rfl h
theorem zh_loopC {A : Type} (St : A → Heap → List Loc → Nat → Nat → Array Slot → Prop) (μ : A → Nat)
    (hs : ∀ (a : A) (H : Heap) (locs : List Loc) (cells slots : Nat) (ls : Array Slot), St a H locs cells slots ls → (∀ (b : A) (H' : Heap) (locs' : List Loc) (cells' slots' : Nat) (ls' : Array Slot), St b H' locs' cells' slots' ls' → μ b < μ a → W p l e R s m args below meth c H' locs' cells' slots' Q (F0 m pc ls' rest)) → W p l e R s m args below meth c H locs cells slots Q (F0 m pc ls rest))
    (a : A) (h : St a H locs cells slots ls) : W p l e R s m args below meth c H locs cells slots Q (F0 m pc ls rest) := by
  have key : ∀ (n : Nat) (a : A) (H : Heap) (locs : List Loc) (cells slots : Nat) (ls : Array Slot), μ a = n → St a H locs cells slots ls → W p l e R s m args below meth c H locs cells slots Q (F0 m pc ls rest) := by
    intro n
    induction n using Nat.strongRecOn with
    | _ n ih =>
      intro a H locs cells slots ls hn h
      exact hs a H locs cells slots ls h (fun b H' locs' cells' slots' ls' hb hlt => ih (μ b) (by rw [← hn]; exact hlt) b H' locs' cells' slots' ls' rfl hb)
  exact key (μ a) a H locs cells slots ls rfl h
end
-- what a method may take as given beside the tables' good words: links of nest mates, casts, the launch's Strings and statics
def zNw : List Cond := [Jvm.Cond.methodLinkNest "ZoneHeap" (92 : Nat) ({ cls := "ZoneHeap$Block", name := "has", desc := "(I)Z" } : Jvm.MethodName) "ZoneHeap", Jvm.Cond.castable "java/lang/IllegalArgumentException" "java/lang/IllegalArgumentException", Jvm.Cond.declares ({ cls := "java/lang/RuntimeException", name := "<init>", desc := "()V" } : Jvm.MethodName), Jvm.Cond.declares ({ cls := "java/lang/RuntimeException", name := "<init>", desc := "(Ljava/lang/String;)V" } : Jvm.MethodName), Jvm.Cond.declares ({ cls := "java/lang/Exception", name := "<init>", desc := "()V" } : Jvm.MethodName), Jvm.Cond.declares ({ cls := "java/lang/Exception", name := "<init>", desc := "(Ljava/lang/String;)V" } : Jvm.MethodName), Jvm.Cond.declares ({ cls := "java/lang/Throwable", name := "<init>", desc := "()V" } : Jvm.MethodName), Jvm.Cond.declares ({ cls := "java/lang/Throwable", name := "<init>", desc := "(Ljava/lang/String;)V" } : Jvm.MethodName), Jvm.Cond.methodLinkNest "ZoneHeap" (163 : Nat) ({ cls := "ZoneHeap$Block", name := "<init>", desc := "(II)V" } : Jvm.MethodName) "ZoneHeap", Jvm.Cond.fieldLinkNest "ZoneHeap" (60 : Nat) "ZoneHeap$Block" "start" "I" "ZoneHeap", Jvm.Cond.fieldLinkNest "ZoneHeap" (70 : Nat) "ZoneHeap$Block" "size" "I" "ZoneHeap", Jvm.Cond.fieldLinkNest "ZoneHeap" (95 : Nat) "ZoneHeap$Block" "kept" "Z" "ZoneHeap", Jvm.Cond.fieldLinkNest "ZoneHeap" (188 : Nat) "ZoneHeap$Block" "reached" "Z" "ZoneHeap", Jvm.Cond.castable "java/lang/IllegalStateException" "java/lang/IllegalStateException", Jvm.Cond.castable "java/lang/IndexOutOfBoundsException" "java/lang/IndexOutOfBoundsException", Jvm.Cond.castable "ZoneHeap$Block" "ZoneHeap$Block", Jvm.Cond.declares ({ cls := "java/lang/Object", name := "getClass", desc := "()Ljava/lang/Class;" } : Jvm.MethodName), Jvm.Cond.castable "ZoneHeap" "java/lang/Object", Jvm.Cond.castable "ZoneHeapModel" "java/lang/Object", Jvm.Cond.castable "ZoneHeap$Block" "java/lang/Object", Jvm.Cond.castable "java/lang/String" "java/lang/Object"]
theorem zn118 : (Jvm.Cond.methodLinkNest "ZoneHeap" (92 : Nat) ({ cls := "ZoneHeap$Block", name := "has", desc := "(I)Z" } : Jvm.MethodName) "ZoneHeap") ∈ zNw := by decide +kernel
theorem zn148 : (Jvm.Cond.castable "java/lang/IllegalArgumentException" "java/lang/IllegalArgumentException") ∈ zNw := by decide +kernel
theorem zn149 : (Jvm.Cond.declares ({ cls := "java/lang/RuntimeException", name := "<init>", desc := "()V" } : Jvm.MethodName)) ∈ zNw := by decide +kernel
theorem zn150 : (Jvm.Cond.declares ({ cls := "java/lang/RuntimeException", name := "<init>", desc := "(Ljava/lang/String;)V" } : Jvm.MethodName)) ∈ zNw := by decide +kernel
theorem zn151 : (Jvm.Cond.declares ({ cls := "java/lang/Exception", name := "<init>", desc := "()V" } : Jvm.MethodName)) ∈ zNw := by decide +kernel
theorem zn152 : (Jvm.Cond.declares ({ cls := "java/lang/Exception", name := "<init>", desc := "(Ljava/lang/String;)V" } : Jvm.MethodName)) ∈ zNw := by decide +kernel
theorem zn153 : (Jvm.Cond.declares ({ cls := "java/lang/Throwable", name := "<init>", desc := "()V" } : Jvm.MethodName)) ∈ zNw := by decide +kernel
theorem zn154 : (Jvm.Cond.declares ({ cls := "java/lang/Throwable", name := "<init>", desc := "(Ljava/lang/String;)V" } : Jvm.MethodName)) ∈ zNw := by decide +kernel
theorem zn227 : (Jvm.Cond.methodLinkNest "ZoneHeap" (163 : Nat) ({ cls := "ZoneHeap$Block", name := "<init>", desc := "(II)V" } : Jvm.MethodName) "ZoneHeap") ∈ zNw := by decide +kernel
theorem zn232 : (Jvm.Cond.fieldLinkNest "ZoneHeap" (60 : Nat) "ZoneHeap$Block" "start" "I" "ZoneHeap") ∈ zNw := by decide +kernel
theorem zn234 : (Jvm.Cond.fieldLinkNest "ZoneHeap" (70 : Nat) "ZoneHeap$Block" "size" "I" "ZoneHeap") ∈ zNw := by decide +kernel
theorem zn236 : (Jvm.Cond.fieldLinkNest "ZoneHeap" (95 : Nat) "ZoneHeap$Block" "kept" "Z" "ZoneHeap") ∈ zNw := by decide +kernel
theorem zn238 : (Jvm.Cond.fieldLinkNest "ZoneHeap" (188 : Nat) "ZoneHeap$Block" "reached" "Z" "ZoneHeap") ∈ zNw := by decide +kernel
theorem zn267 : (Jvm.Cond.castable "java/lang/IllegalStateException" "java/lang/IllegalStateException") ∈ zNw := by decide +kernel
theorem zn386 : (Jvm.Cond.castable "java/lang/IndexOutOfBoundsException" "java/lang/IndexOutOfBoundsException") ∈ zNw := by decide +kernel
theorem zn584 : (Jvm.Cond.castable "ZoneHeap$Block" "ZoneHeap$Block") ∈ zNw := by decide +kernel
theorem zn587 : (Jvm.Cond.declares ({ cls := "java/lang/Object", name := "getClass", desc := "()Ljava/lang/Class;" } : Jvm.MethodName)) ∈ zNw := by decide +kernel
theorem zn588 : (Jvm.Cond.castable "ZoneHeap" "java/lang/Object") ∈ zNw := by decide +kernel
theorem zn589 : (Jvm.Cond.castable "ZoneHeapModel" "java/lang/Object") ∈ zNw := by decide +kernel
theorem zn590 : (Jvm.Cond.castable "ZoneHeap$Block" "java/lang/Object") ∈ zNw := by decide +kernel
theorem zn591 : (Jvm.Cond.castable "java/lang/String" "java/lang/Object") ∈ zNw := by decide +kernel
theorem zNw_tab : ∀ w ∈ zNw, w.onTables = true := by decide +kernel
theorem zNw_warm {s U : State} (hW : s.WarmedH U.vm) : ∀ w ∈ zNw, va_Nw w s → va_Nw w U := by
  intro w hw h
  simp only [zNw, List.mem_cons, List.not_mem_nil, or_false] at hw
  rcases hw with rfl | rfl | rfl | rfl | rfl | rfl | rfl | rfl | rfl | rfl | rfl | rfl | rfl | rfl | rfl | rfl | rfl | rfl | rfl | rfl | rfl
  · exact va_Nw.warmM hW h
  · exact va_Nw.warmC hW h
  · exact va_Nw.warmD hW h
  · exact va_Nw.warmD hW h
  · exact va_Nw.warmD hW h
  · exact va_Nw.warmD hW h
  · exact va_Nw.warmD hW h
  · exact va_Nw.warmD hW h
  · exact va_Nw.warmM hW h
  · exact va_Nw.warmF hW h
  · exact va_Nw.warmF hW h
  · exact va_Nw.warmF hW h
  · exact va_Nw.warmF hW h
  · exact va_Nw.warmC hW h
  · exact va_Nw.warmC hW h
  · exact va_Nw.warmC hW h
  · exact va_Nw.warmD hW h
  · exact va_Nw.warmC hW h
  · exact va_Nw.warmC hW h
  · exact va_Nw.warmC hW h
  · exact va_Nw.warmC hW h
def zTx : List (Nat × String) := [(136, "no block has so many octets"), (153, "no block stands there"), (155, "the block was given back"), (141, "no such octet"), (143, "no such four octets"), (147, "not all four are live"), (123, "no such lost block"), (133, "no such count")]
def zE1 (U : State) : Prop := (∀ w ∈ zNw, va_Nw w U) ∧ va_AO "java/lang/Object" U ∧ va_AO "ZoneHeap$Block" U ∧ ∀ q ∈ zTx, ∃ a, vk_R "ZoneHeap" q.1 q.2 a U
def zE2 (t0 : Nat) (A : Nat → Prop) (U : State) (H : Heap) : Prop := vx_Zq Bundle.tN "UNASSIGNED_STACK" Bundle.steD A U H ∧ vx_Zq Bundle.tN "SUPPRESSED_SENTINEL" Bundle.listD A U H ∧ va_Z "java/util/ArrayList" "DEFAULTCAPACITY_EMPTY_ELEMENTDATA" "[Ljava/lang/Object;" (.ref t0) A U H ∧ va_T (.object "java/lang/Object") t0 0 (fun _ => .null) A U H
def zE (t0 : Nat) (A : Nat → Prop) (U : State) : Prop := zE1 U ∧ zE2 t0 A U U.heap
theorem zE1.warm {s U : State} (hW : s.WarmedH U.vm) (h : zE1 s) : zE1 U :=
  ⟨fun w hw => zNw_warm hW w hw (h.1 w hw), va_AO.moved hW.alike h.2.1, va_AO.moved hW.alike h.2.2.1, fun q hq => by
    obtain ⟨a, ha⟩ := h.2.2.2 q hq
    exact ⟨a, ha.warm hW⟩⟩
theorem zE1.same {s U : State} (hv : U.vm = s.vm) (h : zE1 s) : zE1 U :=
  ⟨fun w hw => va_Nw.same (zNw_tab w hw) hv.symm (h.1 w hw), va_AO.moved (hv ▸ Vm.Alike.refl s.vm) h.2.1, va_AO.moved (hv ▸ Vm.Alike.refl s.vm) h.2.2.1, fun q hq => by
    obtain ⟨a, ha⟩ := h.2.2.2 q hq
    exact ⟨a, ha.same hv⟩⟩
theorem zE2.moved {t0 : Nat} {A : Nat → Prop} {u U : State} {H : Heap} (hvm : u.vm.Alike U.vm) (h : zE2 t0 A u H) : zE2 t0 A U H :=
  ⟨h.1.moved hvm, h.2.1.moved hvm, h.2.2.1.moved hvm, h.2.2.2.moved hvm⟩
theorem zE2.kept {t0 : Nat} {A : Nat → Prop} {U : State} {H H1 : Heap} (h : zE2 t0 A U H) (hq : ∀ a : Nat, a < H.size → ¬ A a → H1[a]? = H[a]?) : zE2 t0 A U H1 :=
  ⟨h.1.kept hq, h.2.1.kept hq, h.2.2.1.kept hq, h.2.2.2.kept hq⟩
theorem zE2.narrow {t0 : Nat} {A B : Nat → Prop} {U : State} {H : Heap} (h : zE2 t0 A U H) (hAB : ∀ q, B q → A q) : zE2 t0 B U H :=
  ⟨h.1.narrow hAB, h.2.1.narrow hAB, h.2.2.1.narrow hAB, h.2.2.2.narrow hAB⟩
theorem zE.call {t0 : Nat} {A B : Nat → Prop} {s U : State} {H : Heap} {locs : List Loc} (h : zE t0 A s) (hS : va_S A s.heap H locs) (hAB : ∀ q, B q → A q) (hU : U.heap = H) (hW : s.WarmedH U.vm) : zE t0 B U := by
  refine ⟨h.1.warm hW, ?_⟩
  rw [hU]
  exact ((h.2.kept (fun a h1 h2 => hS.2.1 a h1 h2)).narrow hAB).moved hW.alike
-- the one form of a contract's start, and of a world behind it
def zPre (D : va_G) (t0 : Nat) (tys : List (ClassId × FieldType)) (w : va_W) (sz : Nat) (av : List Value) : Array Value → State → Prop :=
  va_Pc av (fun U => U.heap.size = sz ∧ va_P D zcl w U.heap ∧ va_K D zcl tys U ∧ va_D (fun _ => True) w ∧ zE t0 (va_A w sz) U)
def zPost (D : va_G) (tys : List (ClassId × FieldType)) (A : Nat → Prop) (w : va_W) (t : State) : Prop := va_P D zcl w t.heap ∧ va_K D zcl tys t ∧ va_D A w
def zHere (D : va_G) (t0 : Nat) (tys : List (ClassId × FieldType)) (w : va_W) (A : Nat → Prop) (s : State) (H : Heap) (locs : List Loc) : Prop :=
  va_P D zcl w H ∧ va_K D zcl tys s ∧ va_D A w ∧ va_S A s.heap H locs ∧ (∀ q, s.heap.size ≤ q → A q) ∧ zE t0 A s
theorem zHere.free {D : va_G} {t0 : Nat} {tys : List (ClassId × FieldType)} {w : va_W} {A : Nat → Prop} {s : State} {H : Heap} {locs : List Loc} (h : zHere D t0 tys w A s H locs) : ∀ q, va_A w H.size q → A q := by
  rintro q (⟨k, e, hk⟩ | hq)
  · exact h.2.2.1.2 k (q, e) hk
  · exact h.2.2.2.2.1 q (Nat.le_trans h.2.2.2.1.1 hq)
theorem zPre_blind {D : va_G} {t0 : Nat} {tys : List (ClassId × FieldType)} {w : va_W} {sz : Nat} {av : List Value} : FrameBlind (zPre D t0 tys w sz av) := fun a U g mk q =>
  ⟨q.1, q.2.1, q.2.2.1, va_K.moved (u := U) (U := U.calling g mk a) (Vm.Alike.refl U.vm) q.2.2.2.1, q.2.2.2.2.1, zE1.same (s := U) (U := U.calling g mk a) rfl q.2.2.2.2.2.1, zE2.moved (u := U) (U := U.calling g mk a) (Vm.Alike.refl U.vm) q.2.2.2.2.2.2⟩
theorem zPre_of {D : va_G} {t0 : Nat} {tys : List (ClassId × FieldType)} {w : va_W} {A : Nat → Prop} {s : State} {H : Heap} {locs : List Loc} {av : List Value} (h : zHere D t0 tys w A s H locs) (U : State) (hU : U.heap = H) (hW : s.WarmedH U.vm) : zPre D t0 tys w H.size av av.toArray U :=
  ⟨rfl, by rw [hU], by rw [hU]; exact h.1, va_K.moved hW.alike h.2.1, h.2.2.1.weaken (fun _ _ _ _ => trivial), h.2.2.2.2.2.call h.2.2.2.1 h.free hU hW⟩
section
variable {p : Program} {l : Launch} {e : Env} {R : Room} {s : State} {m : MethodId} {args : Array Value} {below : List Frame} {meth : Method} {c : Code} {H : Heap} {locs : List Loc} {cells slots : Nat} {Q : State → Prop} {pc : Nat} {ls : Array Slot} {st0 rest : List Value}
variable {D : va_G} {t0 : Nat} {tys : List (ClassId × FieldType)} {w : va_W} {A : Nat → Prop} {y : MethodName} {bytes cc : ByteArray} {maxL nL mc ms n index : Nat} {ret : Option FieldType} {rm : Room} {Qc : Array Value → State → Outcome → State → Prop} {XC : String → State → State → Prop} {free : Addr → Prop} {own C host : String} {b : Nat} {As : List Value}
theorem zgW {L : List Cond} (h : ∀ x ∈ L, x ∈ zB) (h5 : Cond.code y bytes maxL ret ∈ zB) : GoodIn zB (L ++ (Cond.code y bytes maxL ret :: zB)) := fun x hx => by
  have hm : x ∈ zB := by
    rcases List.mem_append.mp hx with h1 | h1
    · exact h x h1
    · rcases List.mem_cons.mp h1 with rfl | h2
      · exact h5
      · exact h2
  exact ⟨hm, zB_good hm⟩
theorem zm2 {a b : Cond} (ha : a ∈ zB) (hb : b ∈ zB) : ∀ x ∈ [a, b], x ∈ zB := by
  intro x hx
  simp only [List.mem_cons, List.not_mem_nil, or_false] at hx
  rcases hx with rfl | rfl <;> assumption
theorem zm3 {a b d : Cond} (ha : a ∈ zB) (hb : b ∈ zB) (hd : d ∈ zB) : ∀ x ∈ [a, b, d], x ∈ zB := by
  intro x hx
  simp only [List.mem_cons, List.not_mem_nil, or_false] at hx
  rcases hx with rfl | rfl | rfl <;> assumption
theorem zm4 {a b d f : Cond} (ha : a ∈ zB) (hb : b ∈ zB) (hd : d ∈ zB) (hf : f ∈ zB) : ∀ x ∈ [a, b, d, f], x ∈ zB := by
  intro x hx
  simp only [List.mem_cons, List.not_mem_nil, or_false] at hx
  rcases hx with rfl | rfl | rfl | rfl <;> assumption
abbrev zDs (y : MethodName) (n : Nat) : Prop := y.cls ≠ "java/lang/invoke/MethodHandle" ∧ y.cls ≠ "java/lang/invoke/VarHandle" ∧ (parseMethodDescriptor y.desc).map (fun d => d.parameters.length) = some n
/-- invokevirtual of a method of the receiver's own class -/
theorem zrV (S : CallFix p m c cc nL s args zB own) (hM : Met l y (Cond.code y bytes maxL ret :: zB) rm (zPre D t0 tys w H.size (.ref b :: As)) Qc mc ms free)
    (h1 : Cond.methodLink own index y ∈ zB) (h2 : Cond.instanceMethod y ∈ zB) (h3 : Cond.selects C y y ∈ zB) (h4 : Cond.initialized C ∈ zB) (h5 : Cond.code y bytes maxL ret ∈ zB) (hd : y.cls = C ∧ zDs y n) (hrc : rm.cells = mc) (hrs : rm.slots = ms) (hR : rm.frames + 1 ≤ R.frames ∧ 8 + (maxL + 11) + rm.locals ≤ R.locals)
    (hw : zHere D t0 tys w A s H locs) (hrv : ∃ cellB : Cell, H[b]? = some cellB ∧ cellB.vm.isStatics = false ∧ s.vm.findClass C = some cellB.cls)
    (hn : As.length = n) (hsize : ls.size = nL) (hst : st0 = As.reverse ++ .ref b :: rest) (hW : (rest.map fun v => v.category).sum ≤ 8) (hdg : decode cc pc = .ok (.invokevirtual index, 3)) (hf : cells + mc ≤ R.cells ∧ slots + ms ≤ R.slots) :
    va_Run p l e R s m args below meth c H locs cells slots mc ms (F0 m pc ls st0) rest (Qc (Value.ref b :: As).toArray) free :=
  va_runV (g := F0 m pc ls st0) S hM (cwV (bytes := bytes) (maxL := maxL) (ret := ret) n S.2.2.2.2 (zgW (zm4 h1 h2 h3 h4) h5) rfl hrc hrs hd hR) ⟨zPre_blind, hrv, fun U hU hW9 => zPre_of hw U hU hW9⟩ rfl hn hsize hst (lv_room hW) hdg hf
theorem zrS (S : CallFix p m c cc nL s args zB own) (hM : Met l y (Cond.code y bytes maxL ret :: zB) rm (zPre D t0 tys w H.size As) Qc mc ms free)
    (h1 : Cond.methodLink own index y ∈ zB) (h2 : Cond.static y ∈ zB) (h4 : Cond.initialized y.cls ∈ zB) (h5 : Cond.code y bytes maxL ret ∈ zB) (hd : zDs y n) (hrc : rm.cells = mc) (hrs : rm.slots = ms) (hR : rm.frames + 1 ≤ R.frames ∧ 8 + (maxL + 11) + rm.locals ≤ R.locals)
    (hw : zHere D t0 tys w A s H locs) (hn : As.length = n) (hsize : ls.size = nL) (hst : st0 = As.reverse ++ rest) (hW : (rest.map fun v => v.category).sum ≤ 8) (hdg : decode cc pc = .ok (.invokestatic index, 3)) (hf : cells + mc ≤ R.cells ∧ slots + ms ≤ R.slots) :
    va_Run p l e R s m args below meth c H locs cells slots mc ms (F0 m pc ls st0) rest (Qc As.toArray) free :=
  va_runS (g := F0 m pc ls st0) S hM (va_cwS (bytes := bytes) (maxL := maxL) (ret := ret) n S.2.2.2.2 (zgW (zm3 h1 h2 h4) h5) rfl hrc hrs hd hR) ⟨zPre_blind, fun U hU hW9 => zPre_of hw U hU hW9⟩ rfl hn hsize hst (lv_room hW) hdg hf
/-- invokevirtual of a nest mate's private method -/
theorem zrVN (S : CallFix p m c cc nL s args zB own) (hM : Met l y (Cond.code y bytes maxL ret :: zB) rm (zPre D t0 tys w H.size (.ref b :: As)) Qc mc ms free)
    (h1 : Cond.methodLinkNest own index y host ∈ zNw) (h2 : Cond.instanceMethod y ∈ zB) (h3 : Cond.selects C y y ∈ zB) (h4 : Cond.initialized y.cls ∈ zB) (h5 : Cond.code y bytes maxL ret ∈ zB) (hd : zDs y n) (hrc : rm.cells = mc) (hrs : rm.slots = ms) (hR : rm.frames + 1 ≤ R.frames ∧ 8 + (maxL + 11) + rm.locals ≤ R.locals)
    (hw : zHere D t0 tys w A s H locs) (hrv : ∃ cellB : Cell, H[b]? = some cellB ∧ cellB.vm.isStatics = false ∧ s.vm.findClass C = some cellB.cls)
    (hn : As.length = n) (hsize : ls.size = nL) (hst : st0 = As.reverse ++ .ref b :: rest) (hW : (rest.map fun v => v.category).sum ≤ 8) (hdg : decode cc pc = .ok (.invokevirtual index, 3)) (hf : cells + mc ≤ R.cells ∧ slots + ms ≤ R.slots) :
    va_Run p l e R s m args below meth c H locs cells slots mc ms (F0 m pc ls st0) rest (Qc (Value.ref b :: As).toArray) free :=
  va_runVN (g := F0 m pc ls st0) (host := host) (C := C) S hM ⟨va_cnB (bytes := bytes) (maxL := maxL) (ret := ret) n S.2.2.2.2 (zgW (L := []) (fun _ h => absurd h List.not_mem_nil) h5) rfl hrc hrs (hw.2.2.2.2.2.1.1 _ h1) (S.2.2.2.2 _ h4) hd hR, S.2.2.2.2 _ h2, S.2.2.2.2 _ h3⟩ ⟨zPre_blind, hrv, fun U hU hW9 => zPre_of hw U hU hW9⟩ rfl hn hsize hst (lv_room hW) hdg hf
theorem zrIN (S : CallFix p m c cc nL s args zB own) (hM : Met l y (Cond.code y bytes maxL none :: zB) rm (zPre D t0 tys w H.size (.ref b :: As)) Qc mc ms free)
    (h1 : Cond.methodLinkNest own index y host ∈ zNw) (h2 : Cond.instanceMethod y ∈ zB) (h4 : Cond.initialized y.cls ∈ zB) (h5 : Cond.code y bytes maxL none ∈ zB) (hi : y.name = "<init>") (hd : zDs y n) (hrc : rm.cells = mc) (hrs : rm.slots = ms) (hR : rm.frames + 1 ≤ R.frames ∧ 8 + (maxL + 11) + rm.locals ≤ R.locals)
    (hw : zHere D t0 tys w A s H locs)
    (hn : As.length = n) (hsize : ls.size = nL) (hst : st0 = As.reverse ++ .ref b :: rest) (hW : (rest.map fun v => v.category).sum ≤ 8) (hdg : decode cc pc = .ok (.invokespecial index, 3)) (hf : cells + mc ≤ R.cells ∧ slots + ms ≤ R.slots) :
    va_Run p l e R s m args below meth c H locs cells slots mc ms (F0 m pc ls st0) rest (Qc (Value.ref b :: As).toArray) free :=
  va_runIN (g := F0 m pc ls st0) (host := host) S hM ⟨va_cnB (bytes := bytes) (maxL := maxL) (ret := none) n S.2.2.2.2 (zgW (L := []) (fun _ h => absurd h List.not_mem_nil) h5) rfl hrc hrs (hw.2.2.2.2.2.1.1 _ h1) (S.2.2.2.2 _ h4) hd hR, hi, S.2.2.2.2 _ h2⟩ ⟨zPre_blind, fun U hU hW9 => zPre_of hw U hU hW9⟩ rfl hn hsize hst (lv_room hW) hdg hf
/-- callees that may throw -/
theorem zxV (S : CallFix p m c cc nL s args zB own) (hM : vx_Met l y (Cond.code y bytes maxL ret :: zB) rm (zPre D t0 tys w H.size (.ref b :: As)) Qc XC mc ms free)
    (h1 : Cond.methodLink own index y ∈ zB) (h2 : Cond.instanceMethod y ∈ zB) (h3 : Cond.selects C y y ∈ zB) (h4 : Cond.initialized C ∈ zB) (h5 : Cond.code y bytes maxL ret ∈ zB) (hd : y.cls = C ∧ zDs y n) (hrc : rm.cells = mc) (hrs : rm.slots = ms) (hR : rm.frames + 1 ≤ R.frames ∧ 8 + (maxL + 11) + rm.locals ≤ R.locals)
    (hw : zHere D t0 tys w A s H locs) (hrv : ∃ cellB : Cell, H[b]? = some cellB ∧ cellB.vm.isStatics = false ∧ s.vm.findClass C = some cellB.cls)
    (hn : As.length = n) (hsize : ls.size = nL) (hst : st0 = As.reverse ++ .ref b :: rest) (hW : (rest.map fun v => v.category).sum ≤ 8) (hdg : decode cc pc = .ok (.invokevirtual index, 3)) (hf : cells + mc ≤ R.cells ∧ slots + ms ≤ R.slots) :
    vx_Run p l e R s m args below meth c H locs cells slots mc ms (F0 m pc ls st0) rest (Qc (Value.ref b :: As).toArray) XC free :=
  vx_runV (g := F0 m pc ls st0) S hM (cwV (bytes := bytes) (maxL := maxL) (ret := ret) n S.2.2.2.2 (zgW (zm4 h1 h2 h3 h4) h5) rfl hrc hrs hd hR) ⟨zPre_blind, hrv, fun U hU hW9 => zPre_of hw U hU hW9⟩ rfl hn hsize hst (lv_room hW) hdg hf
theorem zxS (S : CallFix p m c cc nL s args zB own) (hM : vx_Met l y (Cond.code y bytes maxL ret :: zB) rm (zPre D t0 tys w H.size As) Qc XC mc ms free)
    (h1 : Cond.methodLink own index y ∈ zB) (h2 : Cond.static y ∈ zB) (h4 : Cond.initialized y.cls ∈ zB) (h5 : Cond.code y bytes maxL ret ∈ zB) (hd : zDs y n) (hrc : rm.cells = mc) (hrs : rm.slots = ms) (hR : rm.frames + 1 ≤ R.frames ∧ 8 + (maxL + 11) + rm.locals ≤ R.locals)
    (hw : zHere D t0 tys w A s H locs) (hn : As.length = n) (hsize : ls.size = nL) (hst : st0 = As.reverse ++ rest) (hW : (rest.map fun v => v.category).sum ≤ 8) (hdg : decode cc pc = .ok (.invokestatic index, 3)) (hf : cells + mc ≤ R.cells ∧ slots + ms ≤ R.slots) :
    vx_Run p l e R s m args below meth c H locs cells slots mc ms (F0 m pc ls st0) rest (Qc As.toArray) XC free :=
  vx_runS (g := F0 m pc ls st0) S hM (va_cwS (bytes := bytes) (maxL := maxL) (ret := ret) n S.2.2.2.2 (zgW (zm3 h1 h2 h4) h5) rfl hrc hrs hd hR) ⟨zPre_blind, fun U hU hW9 => zPre_of hw U hU hW9⟩ rfl hn hsize hst (lv_room hW) hdg hf
end
end
section
-- sums over a table, cells of a block, first places
def zc (n : Nat) : Nat := if n = 0 then 1 else (n + 15) / 16
theorem zc_pos (n : Nat) : 1 ≤ zc n := by
  unfold zc
  split <;> omega
theorem zc_le {n : Nat} (h : n ≤ 2048) : zc n ≤ 128 := by
  unfold zc
  split <;> omega
theorem zc_ge (n : Nat) : n ≤ 16 * zc n := by
  unfold zc
  split <;> omega
def zsum (f : Nat → Nat) : Nat → Nat
  | 0 => 0
  | n + 1 => zsum f n + f n
theorem zsum_congr {f g : Nat → Nat} : ∀ {n : Nat}, (∀ k, k < n → f k = g k) → zsum f n = zsum g n
  | 0, _ => rfl
  | n + 1, h => by
    show zsum f n + f n = zsum g n + g n
    rw [zsum_congr (n := n) (fun k hk => h k (by omega)), h n (by omega)]
theorem zsum_up {f : Nat → Nat} {k v : Nat} : ∀ {n : Nat}, k < n → zsum (va_up f k v) n + f k = zsum f n + v
  | 0, h => by omega
  | n + 1, h => by
    show zsum (va_up f k v) n + va_up f k v n + f k = zsum f n + f n + v
    by_cases e : n = k
    · subst e
      rw [va_up_self, zsum_congr (f := va_up f n v) (g := f) (n := n) (fun j hj => va_up_ne f v (by omega))]
      omega
    · have := zsum_up (f := f) (k := k) (v := v) (n := n) (by omega)
      rw [va_up_ne f v e]
      omega
theorem zsum_at {f : Nat → Nat} {k : Nat} : ∀ {n : Nat}, k < n → f k ≤ zsum f n
  | 0, h => by omega
  | n + 1, h => by
    show f k ≤ zsum f n + f n
    by_cases e : k = n
    · subst e
      omega
    · have := zsum_at (f := f) (k := k) (n := n) (by omega)
      omega
theorem zsum_mono {f g : Nat → Nat} : ∀ {n : Nat}, (∀ k, k < n → f k ≤ g k) → zsum f n ≤ zsum g n
  | 0, _ => Nat.le_refl _
  | n + 1, h => by
    show zsum f n + f n ≤ zsum g n + g n
    have h1 := zsum_mono (f := f) (g := g) (n := n) (fun k hk => h k (by omega))
    have h2 := h n (by omega)
    omega
theorem zsum_const {c : Nat} : ∀ {n : Nat}, zsum (fun _ => c) n = n * c
  | 0 => by simp [zsum]
  | n + 1 => by
    show zsum (fun _ => c) n + c = (n + 1) * c
    rw [zsum_const (n := n), Nat.succ_mul]
/-- no more than n different numbers lie below n -/
theorem zpig : ∀ {n m : Nat} {f : Nat → Nat}, (∀ i, i < m → f i < n) → (∀ i j, i < m → j < m → f i = f j → i = j) → m ≤ n
  | 0, m, f, h, _ => by
    cases m with
    | zero => exact Nat.le_refl _
    | succ m => exact absurd (h 0 (by omega)) (by omega)
  | n + 1, 0, f, _, _ => by omega
  | n + 1, m + 1, f, h, hi => by
    have key : m ≤ n := by
      refine zpig (n := n) (m := m) (f := fun i => if f i = n then f m else f i) (fun i hi' => ?_) (fun i j h1 h2 he => ?_)
      · show (if f i = n then f m else f i) < n
        split
        · rename_i e
          have h3 := h m (by omega)
          have h4 : f m ≠ n := fun q => absurd (hi i m (by omega) (by omega) (by omega)) (by omega)
          omega
        · rename_i e
          have h3 := h i (by omega)
          omega
      · have he : (if f i = n then f m else f i) = (if f j = n then f m else f j) := he
        by_cases e1 : f i = n
        · by_cases e2 : f j = n
          · exact hi i j (by omega) (by omega) (by omega)
          · rw [if_pos e1, if_neg e2] at he
            exact absurd (hi m j (by omega) (by omega) he) (by omega)
        · by_cases e2 : f j = n
          · rw [if_neg e1, if_pos e2] at he
            exact absurd (hi i m (by omega) (by omega) he) (by omega)
          · rw [if_neg e1, if_neg e2] at he
            exact hi i j (by omega) (by omega) he
    omega
/-- the first place below n with P, or -1 -/
def zfst (P : Nat → Prop) (n : Nat) (r : Int32) : Prop := (r = -1 ∧ ∀ k, k < n → ¬ P k) ∨ ∃ k, k < n ∧ r = nI k ∧ P k ∧ ∀ j, j < k → ¬ P j
-- the table of blocks (the reference's), the first room in it
def zr_ok (many : Nat) (pc sz sta : Nat → Nat) : Prop :=
  (∀ k, k < many → 1 ≤ pc k ∧ pc k + zc (sz k) + 1 ≤ 512 ∧ sz k ≤ 2048 ∧ (sta k = 1 ∨ sta k = 2)) ∧
  ∀ j k, j < many → k < many → j ≠ k → pc j + zc (sz j) + 1 ≤ pc k ∨ pc k + zc (sz k) + 1 ≤ pc j
theorem zr_ok.many {many : Nat} {pc sz sta : Nat → Nat} (h : zr_ok many pc sz sta) : many ≤ 255 := by
  refine zpig (f := fun k => (pc k - 1) / 2) (fun i hi => ?_) (fun i j h1 h2 he => ?_)
  · have a := h.1 i hi
    have b := zc_pos (sz i)
    show (pc i - 1) / 2 < 255
    omega
  · by_cases e : i = j
    · exact e
    · have a := h.2 i j h1 h2 e
      have b := zc_pos (sz i)
      have d := zc_pos (sz j)
      have f := (h.1 i h1).1
      have g := (h.1 j h2).1
      have he : (pc i - 1) / 2 = (pc j - 1) / 2 := he
      omega
def zr_fit (many : Nat) (pc sz : Nat → Nat) (c d : Nat) : Prop := ∀ k, k < many → ¬ (c < pc k + zc (sz k) + 1 ∧ pc k < c + d + 1)
/-- r is the first cell with room for d cells and a zone on either side, or 0 -/
def zr_room (P : Nat → Prop) (d r : Nat) : Prop :=
  (r = 0 ∧ ∀ c, 1 ≤ c → c + d + 1 ≤ 512 → ¬ P c) ∨ (1 ≤ r ∧ r + d + 1 ≤ 512 ∧ P r ∧ ∀ c, 1 ≤ c → c < r → ¬ P c)
theorem zr_room.uniq {P P' : Nat → Prop} {d r r' : Nat} (hp : ∀ c, 1 ≤ c → c + d + 1 ≤ 512 → (P c ↔ P' c)) (h : zr_room P d r) (h' : zr_room P' d r') : r = r' := by
  rcases h with ⟨e, a⟩ | ⟨a1, a2, a3, a4⟩
  · rcases h' with ⟨e', b⟩ | ⟨b1, b2, b3, b4⟩
    · omega
    · exact absurd ((hp r' b1 b2).mpr b3) (a r' b1 b2)
  · rcases h' with ⟨e', b⟩ | ⟨b1, b2, b3, b4⟩
    · exact absurd ((hp r a1 a2).mp a3) (b r a1 a2)
    · by_cases q : r < r'
      · exact absurd ((hp r a1 a2).mp a3) (b4 r a1 q)
      · by_cases q2 : r' < r
        · exact absurd ((hp r' b1 b2).mpr b3) (a4 r' b1 q2)
        · omega
-- the class's cells
def zt_gap (tk : Nat → Option Nat) (d c : Nat) : Prop := ∀ k, c ≤ k + 1 → k ≤ c + d → tk k = none
def zt_set (tk : Nat → Option Nat) (c d : Nat) (v : Option Nat) : Nat → Option Nat := fun k => if c ≤ k ∧ k < c + d then v else tk k
def zt_tk (ad : Nat → Nat) (many : Nat) (pc sz : Nat → Nat) (tk : Nat → Option Nat) : Prop := ∀ c, c < 512 → ∀ a, tk c = some a ↔ ∃ k, k < many ∧ a = ad k ∧ pc k ≤ c ∧ c < pc k + zc (sz k)
theorem zt_gap_iff {ad : Nat → Nat} {many : Nat} {pc sz : Nat → Nat} {tk : Nat → Option Nat} {d : Nat} (h : zt_tk ad many pc sz tk) (c : Nat) (h1 : 1 ≤ c) (h2 : c + d + 1 ≤ 512) : zt_gap tk d c ↔ zr_fit many pc sz c d := by
  constructor
  · intro g k hk ⟨q1, q2⟩
    have hz := zc_pos (sz k)
    by_cases e : c ≤ pc k + 1
    · have a := (h (pc k) (by omega) (ad k)).mpr ⟨k, hk, rfl, by omega, by omega⟩
      rw [g (pc k) (by omega) (by omega)] at a
      cases a
    · have a := (h (c - 1) (by omega) (ad k)).mpr ⟨k, hk, rfl, by omega, by omega⟩
      rw [g (c - 1) (by omega) (by omega)] at a
      cases a
  · intro f k h3 h4
    cases e : tk k with
    | none => rfl
    | some a =>
      obtain ⟨j, hj, -, q1, q2⟩ := (h k (by omega) a).mp e
      exact absurd ⟨by omega, by omega⟩ (f j hj)
-- the relation of the class's blocks to the reference's table
def zt_kl (ad : Nat → Nat) (many backs : Nat) (sta sin : Nat → Nat) (kl : List Nat) : Prop :=
  (∀ (i a : Nat), kl[i]? = some a → ∃ k, k < many ∧ sta k = 2 ∧ a = ad k) ∧
  (∀ k, k < many → sta k = 2 → ∃ i : Nat, kl[i]? = some (ad k)) ∧
  (∀ i j k k' : Nat, i < j → k < many → k' < many → kl[i]? = some (ad k) → kl[j]? = some (ad k') → sin k < sin k') ∧
  (∀ k, k < many → sta k = 2 → sin k ≤ backs)
def zt_R (ad : Nat → Nat) (tk : Nat → Option Nat) (ko lb lo : Nat) (kl LB : List Nat) (bc bz : Nat → Nat) (kp : Nat → Bool) (many backs : Nat) (pc sz sta sin : Nat → Nat) : Prop :=
  zr_ok many pc sz sta ∧ (∀ j k, j < many → k < many → ad j = ad k → j = k) ∧
  (∀ k, k < many → ad k ∈ LB ∧ bc (ad k) = pc k ∧ bz (ad k) = sz k ∧ kp (ad k) = decide (sta k = 2)) ∧
  zt_tk ad many pc sz tk ∧ zt_kl ad many backs sta sin kl ∧
  lb = zsum (fun k => if sta k = 1 then 1 else 0) many ∧ lo = zsum (fun k => if sta k = 1 then sz k else 0) many ∧
  ko = zsum (fun k => if sta k = 2 then sz k else 0) many ∧ kl.length = zsum (fun k => if sta k = 2 then 1 else 0) many
/-- a block is made -/
theorem zt_R.make {ad : Nat → Nat} {tk : Nat → Option Nat} {ko lb lo : Nat} {kl LB : List Nat} {bc bz : Nat → Nat} {kp : Nat → Bool} {many backs : Nat} {pc sz sta sin : Nat → Nat} {n r q : Nat}
    (h : zt_R ad tk ko lb lo kl LB bc bz kp many backs pc sz sta sin) (hn : n ≤ 2048) (h1 : 1 ≤ r) (h2 : r + zc n + 1 ≤ 512) (hf : zr_fit many pc sz r (zc n)) (hq : q ∉ LB) :
    zt_R (va_up ad many q) (zt_set tk r (zc n) (some q)) ko (lb + 1) (lo + n) kl (LB ++ [q]) (va_up bc q r) (va_up bz q n) (va_up kp q false) (many + 1) backs (va_up pc many r) (va_up sz many n) (va_up sta many 1) sin := by
  obtain ⟨⟨o1, o2⟩, hi, hb, ht, ⟨k1, k2, k3, k4⟩, e1, e2, e3, e4⟩ := h
  have up : ∀ {α : Type} (f : Nat → α) (v : α) {k : Nat}, k < many → va_up f many v k = f k := by
    intro α f v k hk
    exact va_up_ne f v (by omega)
  have hqa : ∀ k, k < many → ad k ≠ q := fun k hk e => hq (e ▸ (hb k hk).1)
  refine ⟨⟨fun k hk => ?_, fun j k hj hk hjk => ?_⟩, fun j k hj hk e => ?_, fun k hk => ?_, fun c hc a => ?_, ⟨fun i a e => ?_, fun k hk e => ?_, fun i j k k' hij hk hk' ei ej => ?_, fun k hk e => ?_⟩, ?_, ?_, ?_, ?_⟩
  · by_cases e : k = many
    · subst e
      rw [va_up_self, va_up_self, va_up_self]
      exact ⟨h1, h2, hn, Or.inl rfl⟩
    · rw [up pc r (by omega), up sz n (by omega), up sta 1 (by omega)]
      exact o1 k (by omega)
  · by_cases e : j = many
    · subst e
      rw [va_up_self, va_up_self, up pc r (by omega), up sz n (by omega)]
      have := hf k (by omega)
      omega
    · by_cases e' : k = many
      · subst e'
        rw [va_up_self, va_up_self, up pc r (by omega), up sz n (by omega)]
        have := hf j (by omega)
        omega
      · rw [up pc r (by omega), up sz n (by omega), up pc r (by omega), up sz n (by omega)]
        exact o2 j k (by omega) (by omega) hjk
  · by_cases e1 : j = many
    · by_cases e2 : k = many
      · omega
      · subst e1
        rw [va_up_self, up ad q (by omega)] at e
        exact absurd e.symm (hqa k (by omega))
    · by_cases e2 : k = many
      · subst e2
        rw [va_up_self, up ad q (by omega)] at e
        exact absurd e (hqa j (by omega))
      · rw [up ad q (by omega), up ad q (by omega)] at e
        exact hi j k (by omega) (by omega) e
  · by_cases e : k = many
    · subst e
      simp only [va_up_self]
      exact ⟨by simp, trivial, trivial, by decide⟩
    · have hk' : k < many := by omega
      obtain ⟨a1, a2, a3, a4⟩ := hb k hk'
      rw [up ad q hk', up pc r hk', up sz n hk', up sta 1 hk', va_up_ne bc r (hqa k hk'), va_up_ne bz n (hqa k hk'), va_up_ne kp false (hqa k hk')]
      exact ⟨List.mem_append_left _ a1, a2, a3, a4⟩
  · unfold zt_set
    constructor
    · intro e
      split at e
      · rename_i hc2
        cases e
        exact ⟨many, by omega, by rw [va_up_self], by rw [va_up_self]; exact hc2.1, by rw [va_up_self, va_up_self]; exact hc2.2⟩
      · obtain ⟨k, hk, ea, q1, q2⟩ := (ht c hc a).mp e
        exact ⟨k, by omega, by rw [up ad q hk]; exact ea, by rw [up pc r hk]; exact q1, by rw [up pc r hk, up sz n hk]; exact q2⟩
    · rintro ⟨k, hk, ea, q1, q2⟩
      by_cases e : k = many
      · subst e
        rw [va_up_self] at ea q1 q2
        rw [va_up_self] at q2
        rw [if_pos ⟨q1, q2⟩, ea]
      · have hk' : k < many := by omega
        rw [up ad q hk'] at ea
        rw [up pc r hk'] at q1 q2
        rw [up sz n hk'] at q2
        have := hf k hk'
        rw [if_neg (by omega)]
        exact (ht c hc a).mpr ⟨k, hk', ea, q1, q2⟩
  · obtain ⟨k, hk, ek, ea⟩ := k1 i a e
    exact ⟨k, by omega, by rw [up sta 1 hk]; exact ek, by rw [up ad q hk]; exact ea⟩
  · by_cases e' : k = many
    · subst e'
      rw [va_up_self] at e
      omega
    · have hk' : k < many := by omega
      rw [up sta 1 hk'] at e
      rw [up ad q hk']
      exact k2 k hk' e
  · obtain ⟨x, hx, ex, eax⟩ := k1 i _ ei
    obtain ⟨y, hy, ey, eay⟩ := k1 j _ ej
    have h5 : k ≠ many := fun z => by
      subst z
      rw [va_up_self] at eax
      exact hqa x hx eax.symm
    have h6 : k' ≠ many := fun z => by
      subst z
      rw [va_up_self] at eay
      exact hqa y hy eay.symm
    rw [up ad q (by omega)] at ei
    rw [up ad q (by omega)] at ej
    exact k3 i j k k' hij (by omega) (by omega) ei ej
  · by_cases e' : k = many
    · subst e'
      rw [va_up_self] at e
      omega
    · have hk' : k < many := by omega
      rw [up sta 1 hk'] at e
      exact k4 k hk' e
  · show lb + 1 = zsum _ many + (if va_up sta many 1 many = 1 then 1 else 0)
    rw [va_up_self, if_pos rfl, e1]
    exact congrArg (· + 1) (zsum_congr fun k hk => by rw [up sta 1 hk])
  · show lo + n = zsum _ many + (if va_up sta many 1 many = 1 then va_up sz many n many else 0)
    rw [va_up_self, va_up_self, if_pos rfl, e2]
    exact congrArg (· + n) (zsum_congr fun k hk => by rw [up sta 1 hk, up sz n hk])
  · show ko = zsum _ many + (if va_up sta many 1 many = 2 then va_up sz many n many else 0)
    rw [va_up_self, if_neg (by decide), e3]
    exact (zsum_congr fun k hk => by rw [up sta 1 hk, up sz n hk])
  · show kl.length = zsum _ many + (if va_up sta many 1 many = 2 then 1 else 0)
    rw [va_up_self, if_neg (by decide), e4]
    exact (zsum_congr fun k hk => by rw [up sta 1 hk])
/-- a live block is given back -/
theorem zt_R.give {ad : Nat → Nat} {tk : Nat → Option Nat} {ko lb lo : Nat} {kl LB : List Nat} {bc bz : Nat → Nat} {kp : Nat → Bool} {many backs : Nat} {pc sz sta sin : Nat → Nat} {b : Nat}
    (h : zt_R ad tk ko lb lo kl LB bc bz kp many backs pc sz sta sin) (hb0 : b < many) (hs : sta b = 1) :
    zt_R ad tk (ko + sz b) (lb - 1) (lo - sz b) (kl ++ [ad b]) LB bc bz (va_up kp (ad b) true) many (backs + 1) pc sz (va_up sta b 2) (va_up sin b (backs + 1)) ∧ 1 ≤ lb ∧ sz b ≤ lo := by
  obtain ⟨⟨o1, o2⟩, hi, hb, ht, ⟨k1, k2, k3, k4⟩, e1, e2, e3, e4⟩ := h
  have f1 := zsum_up (f := fun k => if sta k = 1 then 1 else 0) (k := b) (v := 0) hb0
  have f2 := zsum_up (f := fun k => if sta k = 1 then sz k else 0) (k := b) (v := 0) hb0
  have f3 := zsum_up (f := fun k => if sta k = 2 then sz k else 0) (k := b) (v := sz b) hb0
  have f4 := zsum_up (f := fun k => if sta k = 2 then 1 else 0) (k := b) (v := 1) hb0
  simp only [hs, if_pos, if_neg (show ¬ (1 : Nat) = 2 by decide)] at f1 f2 f3 f4
  have g1 : (fun k => if va_up sta b 2 k = 1 then 1 else 0) = va_up (fun k => if sta k = 1 then 1 else 0) b 0 := by
    funext k
    by_cases e : k = b
    · subst e; simp [va_up_self]
    · rw [va_up_ne _ _ e, va_up_ne _ _ e]
  have g2 : (fun k => if va_up sta b 2 k = 1 then sz k else 0) = va_up (fun k => if sta k = 1 then sz k else 0) b 0 := by
    funext k
    by_cases e : k = b
    · subst e; simp [va_up_self]
    · rw [va_up_ne _ _ e, va_up_ne _ _ e]
  have g3 : (fun k => if va_up sta b 2 k = 2 then sz k else 0) = va_up (fun k => if sta k = 2 then sz k else 0) b (sz b) := by
    funext k
    by_cases e : k = b
    · subst e; simp [va_up_self]
    · rw [va_up_ne _ _ e, va_up_ne _ _ e]
  have g4 : (fun k => if va_up sta b 2 k = 2 then 1 else 0) = va_up (fun k => if sta k = 2 then 1 else 0) b 1 := by
    funext k
    by_cases e : k = b
    · subst e; simp [va_up_self]
    · rw [va_up_ne _ _ e, va_up_ne _ _ e]
  have nk : ∀ k, sta k = 2 → k ≠ b := fun k e z => by subst z; omega
  refine ⟨⟨⟨fun k hk => ?_, o2⟩, hi, fun k hk => ?_, ht, ⟨fun i a e => ?_, fun k hk e => ?_, fun i j k k' hij hk hk' ei ej => ?_, fun k hk e => ?_⟩, ?_, ?_, ?_, ?_⟩, by omega, by omega⟩
  · obtain ⟨a1, a2, a3, a4⟩ := o1 k hk
    refine ⟨a1, a2, a3, ?_⟩
    by_cases e : k = b
    · subst e; rw [va_up_self]; exact Or.inr rfl
    · rw [va_up_ne _ _ e]; exact a4
  · obtain ⟨a1, a2, a3, a4⟩ := hb k hk
    refine ⟨a1, a2, a3, ?_⟩
    by_cases e : k = b
    · subst e; rw [va_up_self, va_up_self]; rfl
    · rw [va_up_ne kp true (fun z => e (hi k b hk hb0 z)), va_up_ne _ _ e]; exact a4
  · by_cases q : i < kl.length
    · rw [List.getElem?_append_left q] at e
      obtain ⟨k, hk, ek, ea⟩ := k1 i a e
      exact ⟨k, hk, by rw [va_up_ne _ _ (nk k ek)]; exact ek, ea⟩
    · rw [List.getElem?_append_right (by omega)] at e
      have h9 : i - kl.length = 0 := by
        cases h8 : i - kl.length with
        | zero => rfl
        | succ z => rw [h8] at e; simp at e
      rw [h9] at e
      cases e
      exact ⟨b, hb0, by rw [va_up_self], rfl⟩
  · by_cases q : k = b
    · subst q
      exact ⟨kl.length, by simp⟩
    · rw [va_up_ne _ _ q] at e
      obtain ⟨i, ei⟩ := k2 k hk e
      have hl : i < kl.length := (List.getElem?_eq_some_iff.mp ei).1
      exact ⟨i, by rw [List.getElem?_append_left hl]; exact ei⟩
  · have hl : ∀ {i x}, (kl ++ [ad b])[i]? = some x → i < kl.length ∨ (i = kl.length ∧ x = ad b) := by
      intro i x e
      by_cases q : i < kl.length
      · exact Or.inl q
      · rw [List.getElem?_append_right (by omega)] at e
        cases h8 : i - kl.length with
        | zero =>
          rw [h8] at e
          cases e
          exact Or.inr ⟨by omega, rfl⟩
        | succ z => rw [h8] at e; simp at e
    have st2 : ∀ i k, i < kl.length → k < many → (kl ++ [ad b])[i]? = some (ad k) → sta k = 2 ∧ kl[i]? = some (ad k) := by
      intro i k hl hk e
      rw [List.getElem?_append_left hl] at e
      obtain ⟨x, hx, ex, ea⟩ := k1 i _ e
      have := hi k x hk hx ea
      subst this
      exact ⟨ex, e⟩
    rcases hl ei with qi | ⟨qi, ai⟩
    · obtain ⟨s1, t1⟩ := st2 i k qi hk ei
      rw [va_up_ne sin _ (nk k s1)]
      rcases hl ej with qj | ⟨qj, aj⟩
      · obtain ⟨s2, t2⟩ := st2 j k' qj hk' ej
        rw [va_up_ne sin _ (nk k' s2)]
        exact k3 i j k k' hij hk hk' t1 t2
      · have := hi k' b hk' hb0 aj
        subst this
        rw [va_up_self]
        have := k4 k hk s1
        omega
    · rcases hl ej with qj | ⟨qj, aj⟩
      · omega
      · omega
  · by_cases q : k = b
    · subst q; rw [va_up_self]; omega
    · rw [va_up_ne _ _ q] at e
      rw [va_up_ne _ _ q]
      have := k4 k hk e
      omega
  · rw [g1]; omega
  · rw [g2]; omega
  · rw [g3]; omega
  · rw [g4, List.length_append, List.length_singleton]; omega
/-- the oldest kept block of the table -/
def zr_old (many : Nat) (sta sin : Nat → Nat) (o : Nat) : Prop := o < many ∧ sta o = 2 ∧ ∀ k, k < many → sta k = 2 → sin o ≤ sin k
theorem zt_mv {α : Type} (f : Nat → α) {o L k : Nat} : va_up f o (f L) k = f (if k = o then L else k) := by
  by_cases e : k = o
  · subst e; rw [va_up_self, if_pos rfl]
  · rw [va_up_ne _ _ e, if_neg e]
theorem zsum_mv {f : Nat → Nat} {o L : Nat} (ho : o ≤ L) : zsum (va_up f o (f L)) L + f o = zsum f (L + 1) := by
  show _ = zsum f L + f L
  by_cases e : o = L
  · subst e
    rw [zsum_congr (f := va_up f o (f o)) (g := f) (fun k hk => va_up_ne _ _ (by omega))]
  · exact zsum_up (by omega)
theorem zt_R.head {ad : Nat → Nat} {tk : Nat → Option Nat} {ko lb lo : Nat} {kl LB : List Nat} {bc bz : Nat → Nat} {kp : Nat → Bool} {many backs : Nat} {pc sz sta sin : Nat → Nat} {o a : Nat} {kr : List Nat}
    (h : zt_R ad tk ko lb lo kl LB bc bz kp many backs pc sz sta sin) (ho : zr_old many sta sin o) (hk : kl = a :: kr) : a = ad o := by
  obtain ⟨-, hi, -, -, ⟨k1, k2, k3, k4⟩, -⟩ := h
  obtain ⟨o1, o2, o3⟩ := ho
  obtain ⟨x, hx, ex, ea⟩ := k1 0 a (by rw [hk]; rfl)
  obtain ⟨i, ei⟩ := k2 o o1 o2
  cases i with
  | zero =>
    rw [hk] at ei
    cases ei
    rfl
  | succ i =>
    have h1 := k3 0 (i + 1) x o (by omega) hx o1 (by rw [hk, ← ea]; rfl) ei
    have h2 := o3 x hx ex
    omega
/-- the oldest kept block goes -/
theorem zt_R.drop {ad : Nat → Nat} {tk : Nat → Option Nat} {ko lb lo : Nat} {kl LB : List Nat} {bc bz : Nat → Nat} {kp : Nat → Bool} {L backs : Nat} {pc sz sta sin : Nat → Nat} {o a : Nat} {kr : List Nat}
    (h : zt_R ad tk ko lb lo kl LB bc bz kp (L + 1) backs pc sz sta sin) (ho : zr_old (L + 1) sta sin o) (hkl : kl = a :: kr) :
    zt_R (va_up ad o (ad L)) (zt_set tk (bc a) (zc (bz a)) none) (ko - bz a) lb lo kr LB bc bz kp L backs (va_up pc o (pc L)) (va_up sz o (sz L)) (va_up sta o (sta L)) (va_up sin o (sin L)) ∧ bz a ≤ ko ∧ bz a = sz o := by
  have ha := h.head ho hkl
  obtain ⟨⟨o1, o2⟩, hi, hb, ht, ⟨k1, k2, k3, k4⟩, e1, e2, e3, e4⟩ := h
  obtain ⟨p1, p2, p3⟩ := ho
  obtain ⟨b1, b2, b3, b4⟩ := hb o p1
  rw [ha, b2, b3]
  have pi : ∀ k, k < L → (if k = o then L else k) < L + 1 ∧ (if k = o then L else k) ≠ o := fun k hk => by
    split <;> omega
  have pj : ∀ j k, j < L → k < L → (if j = o then L else j) = (if k = o then L else k) → j = k := fun j k hj hk e => by
    split at e <;> split at e <;> omega
  have ps : ∀ j, j < L + 1 → j ≠ o → ∃ k, k < L ∧ (if k = o then L else k) = j := fun j hj hne => by
    by_cases q : j = L
    · exact ⟨o, by omega, by rw [if_pos rfl, q]⟩
    · exact ⟨j, by omega, by rw [if_neg hne]⟩
  have f1 := zsum_mv (f := fun k => if sta k = 1 then 1 else 0) (o := o) (L := L) (by omega)
  have f2 := zsum_mv (f := fun k => if sta k = 1 then sz k else 0) (o := o) (L := L) (by omega)
  have f3 := zsum_mv (f := fun k => if sta k = 2 then sz k else 0) (o := o) (L := L) (by omega)
  have f4 := zsum_mv (f := fun k => if sta k = 2 then 1 else 0) (o := o) (L := L) (by omega)
  have g1 : (fun k => if va_up sta o (sta L) k = 1 then 1 else 0) = va_up (fun k => if sta k = 1 then 1 else 0) o (if sta L = 1 then 1 else 0) := by
    funext k
    by_cases e : k = o
    · subst e; rw [va_up_self, va_up_self]
    · rw [va_up_ne _ _ e, va_up_ne _ _ e]
  have g2 : (fun k => if va_up sta o (sta L) k = 1 then va_up sz o (sz L) k else 0) = va_up (fun k => if sta k = 1 then sz k else 0) o (if sta L = 1 then sz L else 0) := by
    funext k
    by_cases e : k = o
    · subst e; rw [va_up_self, va_up_self, va_up_self]
    · rw [va_up_ne _ _ e, va_up_ne _ _ e, va_up_ne _ _ e]
  have g3 : (fun k => if va_up sta o (sta L) k = 2 then va_up sz o (sz L) k else 0) = va_up (fun k => if sta k = 2 then sz k else 0) o (if sta L = 2 then sz L else 0) := by
    funext k
    by_cases e : k = o
    · subst e; rw [va_up_self, va_up_self, va_up_self]
    · rw [va_up_ne _ _ e, va_up_ne _ _ e, va_up_ne _ _ e]
  have g4 : (fun k => if va_up sta o (sta L) k = 2 then 1 else 0) = va_up (fun k => if sta k = 2 then 1 else 0) o (if sta L = 2 then 1 else 0) := by
    funext k
    by_cases e : k = o
    · subst e; rw [va_up_self, va_up_self]
    · rw [va_up_ne _ _ e, va_up_ne _ _ e]
  simp only [p2, if_neg (show ¬ (2 : Nat) = 1 by decide), if_pos] at f1 f2 f3 f4
  have hsub : ∀ (i x : Nat), kr[i]? = some x → kl[i + 1]? = some x := fun i x e => by rw [hkl]; exact e
  have hne : ∀ (i k : Nat), k < L + 1 → kr[i]? = some (ad k) → k ≠ o := fun i k hk e z => by
    subst z
    have := k3 0 (i + 1) k k (by omega) hk hk (by rw [hkl, ha]; rfl) (hsub i _ e)
    omega
  refine ⟨⟨⟨fun k hk => ?_, fun j k hj hk hjk => ?_⟩, fun j k hj hk e => ?_, fun k hk => ?_, fun c hc x => ?_, ⟨fun i x e => ?_, fun k hk e => ?_, fun i j k k' hij hk hk' ei ej => ?_, fun k hk e => ?_⟩, ?_, ?_, ?_, ?_⟩, by omega, rfl⟩
  · rw [zt_mv pc, zt_mv sz, zt_mv sta]
    exact o1 _ (pi k hk).1
  · rw [zt_mv pc, zt_mv sz, zt_mv pc, zt_mv sz]
    exact o2 _ _ (pi j hj).1 (pi k hk).1 (fun z => hjk (pj j k hj hk z))
  · rw [zt_mv ad, zt_mv ad] at e
    exact pj j k hj hk (hi _ _ (pi j hj).1 (pi k hk).1 e)
  · rw [zt_mv ad, zt_mv pc, zt_mv sz, zt_mv sta]
    exact hb _ (pi k hk).1
  · unfold zt_set
    constructor
    · intro e
      split at e
      · cases e
      · rename_i hno
        obtain ⟨j, hj, ea, q1, q2⟩ := (ht c hc x).mp e
        have hjo : j ≠ o := fun z => by
          subst z
          exact hno ⟨q1, q2⟩
        obtain ⟨k, hk, ek⟩ := ps j hj hjo
        exact ⟨k, hk, by rw [zt_mv ad, ek]; exact ea, by rw [zt_mv pc, ek]; exact q1, by rw [zt_mv pc, zt_mv sz, ek]; exact q2⟩
    · rintro ⟨k, hk, ea, q1, q2⟩
      rw [zt_mv ad] at ea
      rw [zt_mv pc] at q1 q2
      rw [zt_mv sz] at q2
      have := o2 _ o (pi k hk).1 p1 (pi k hk).2
      rw [if_neg (by omega)]
      exact (ht c hc x).mpr ⟨_, (pi k hk).1, ea, q1, q2⟩
  · obtain ⟨j, hj, ej, ea⟩ := k1 (i + 1) x (hsub i x e)
    have hjo : j ≠ o := hne i j hj (by rw [← ea]; exact e)
    obtain ⟨k, hk, ek⟩ := ps j hj hjo
    exact ⟨k, hk, by rw [zt_mv sta, ek]; exact ej, by rw [zt_mv ad, ek]; exact ea⟩
  · rw [zt_mv sta] at e
    rw [zt_mv ad]
    obtain ⟨i, ei⟩ := k2 _ (pi k hk).1 e
    cases i with
    | zero =>
      rw [hkl] at ei
      have ei : some a = some (ad (if k = o then L else k)) := ei
      cases ei
      exact absurd (hi _ o (pi k hk).1 p1 (by rw [← ha])) (pi k hk).2
    | succ i =>
      rw [hkl] at ei
      exact ⟨i, ei⟩
  · rw [zt_mv ad] at ei
    rw [zt_mv ad] at ej
    rw [zt_mv sin, zt_mv sin]
    exact k3 (i + 1) (j + 1) _ _ (by omega) (pi k hk).1 (pi k' hk').1 (hsub i _ ei) (hsub j _ ej)
  · rw [zt_mv sta] at e
    rw [zt_mv sin]
    exact k4 _ (pi k hk).1 e
  · rw [g1]; omega
  · rw [g2]; omega
  · rw [g3]; omega
  · rw [g4]
    rw [hkl, List.length_cons] at e4
    omega
end
section
abbrev ZT : Type := ((((((Nat → Nat) × (Nat → Option Nat)) × Nat) × (Nat × Nat)) × (((Nat × (Nat → Option Nat)) × Nat) × ((Nat → Nat) × Nat))) × ((((Int32 × ClassId) × Nat) × (Nat × (List Nat))) × ((((List Nat) × (Nat → Nat)) × (Nat → Nat)) × ((Nat → Bool) × (Nat → Bool)))))
def z_oct (z : ZT) : Nat → Nat := z.1.1.1.1.1
def z_tk (z : ZT) : Nat → Option Nat := z.1.1.1.1.2
def z_ko (z : ZT) : Nat := z.1.1.1.2
def z_lb (z : ZT) : Nat := z.1.1.2.1
def z_lo (z : ZT) : Nat := z.1.1.2.2
def z_mb (z : ZT) : Nat := z.1.2.1.1.1
def z_rb (z : ZT) : Nat → Option Nat := z.1.2.1.1.2
def z_rn (z : ZT) : Nat := z.1.2.1.2
def z_lf (z : ZT) : Nat → Nat := z.1.2.2.1
def z_ln (z : ZT) : Nat := z.1.2.2.2
def z_md (z : ZT) : Int32 := z.2.1.1.1.1
def z_cE (z : ZT) : ClassId := z.2.1.1.1.2
def z_aE (z : ZT) : Nat := z.2.1.1.2
def z_cap (z : ZT) : Nat := z.2.1.2.1
def z_kl (z : ZT) : List Nat := z.2.1.2.2
def z_LB (z : ZT) : List Nat := z.2.2.1.1.1
def z_bs (z : ZT) : Nat → Nat := z.2.2.1.1.2
def z_bz (z : ZT) : Nat → Nat := z.2.2.1.2
def z_kp (z : ZT) : Nat → Bool := z.2.2.2.1
def z_rc (z : ZT) : Nat → Bool := z.2.2.2.2
def zu_oct (z : ZT) (v : Nat → Nat) : ZT := (((((v, z_tk z), z_ko z), (z_lb z, z_lo z)), (((z_mb z, z_rb z), z_rn z), (z_lf z, z_ln z))), ((((z_md z, z_cE z), z_aE z), (z_cap z, z_kl z)), (((z_LB z, z_bs z), z_bz z), (z_kp z, z_rc z))))
def zu_tk (z : ZT) (v : Nat → Option Nat) : ZT := (((((z_oct z, v), z_ko z), (z_lb z, z_lo z)), (((z_mb z, z_rb z), z_rn z), (z_lf z, z_ln z))), ((((z_md z, z_cE z), z_aE z), (z_cap z, z_kl z)), (((z_LB z, z_bs z), z_bz z), (z_kp z, z_rc z))))
def zu_ko (z : ZT) (v : Nat) : ZT := (((((z_oct z, z_tk z), v), (z_lb z, z_lo z)), (((z_mb z, z_rb z), z_rn z), (z_lf z, z_ln z))), ((((z_md z, z_cE z), z_aE z), (z_cap z, z_kl z)), (((z_LB z, z_bs z), z_bz z), (z_kp z, z_rc z))))
def zu_lb (z : ZT) (v : Nat) : ZT := (((((z_oct z, z_tk z), z_ko z), (v, z_lo z)), (((z_mb z, z_rb z), z_rn z), (z_lf z, z_ln z))), ((((z_md z, z_cE z), z_aE z), (z_cap z, z_kl z)), (((z_LB z, z_bs z), z_bz z), (z_kp z, z_rc z))))
def zu_lo (z : ZT) (v : Nat) : ZT := (((((z_oct z, z_tk z), z_ko z), (z_lb z, v)), (((z_mb z, z_rb z), z_rn z), (z_lf z, z_ln z))), ((((z_md z, z_cE z), z_aE z), (z_cap z, z_kl z)), (((z_LB z, z_bs z), z_bz z), (z_kp z, z_rc z))))
def zu_mb (z : ZT) (v : Nat) : ZT := (((((z_oct z, z_tk z), z_ko z), (z_lb z, z_lo z)), (((v, z_rb z), z_rn z), (z_lf z, z_ln z))), ((((z_md z, z_cE z), z_aE z), (z_cap z, z_kl z)), (((z_LB z, z_bs z), z_bz z), (z_kp z, z_rc z))))
def zu_rb (z : ZT) (v : Nat → Option Nat) : ZT := (((((z_oct z, z_tk z), z_ko z), (z_lb z, z_lo z)), (((z_mb z, v), z_rn z), (z_lf z, z_ln z))), ((((z_md z, z_cE z), z_aE z), (z_cap z, z_kl z)), (((z_LB z, z_bs z), z_bz z), (z_kp z, z_rc z))))
def zu_rn (z : ZT) (v : Nat) : ZT := (((((z_oct z, z_tk z), z_ko z), (z_lb z, z_lo z)), (((z_mb z, z_rb z), v), (z_lf z, z_ln z))), ((((z_md z, z_cE z), z_aE z), (z_cap z, z_kl z)), (((z_LB z, z_bs z), z_bz z), (z_kp z, z_rc z))))
def zu_lf (z : ZT) (v : Nat → Nat) : ZT := (((((z_oct z, z_tk z), z_ko z), (z_lb z, z_lo z)), (((z_mb z, z_rb z), z_rn z), (v, z_ln z))), ((((z_md z, z_cE z), z_aE z), (z_cap z, z_kl z)), (((z_LB z, z_bs z), z_bz z), (z_kp z, z_rc z))))
def zu_ln (z : ZT) (v : Nat) : ZT := (((((z_oct z, z_tk z), z_ko z), (z_lb z, z_lo z)), (((z_mb z, z_rb z), z_rn z), (z_lf z, v))), ((((z_md z, z_cE z), z_aE z), (z_cap z, z_kl z)), (((z_LB z, z_bs z), z_bz z), (z_kp z, z_rc z))))
def zu_md (z : ZT) (v : Int32) : ZT := (((((z_oct z, z_tk z), z_ko z), (z_lb z, z_lo z)), (((z_mb z, z_rb z), z_rn z), (z_lf z, z_ln z))), ((((v, z_cE z), z_aE z), (z_cap z, z_kl z)), (((z_LB z, z_bs z), z_bz z), (z_kp z, z_rc z))))
def zu_cE (z : ZT) (v : ClassId) : ZT := (((((z_oct z, z_tk z), z_ko z), (z_lb z, z_lo z)), (((z_mb z, z_rb z), z_rn z), (z_lf z, z_ln z))), ((((z_md z, v), z_aE z), (z_cap z, z_kl z)), (((z_LB z, z_bs z), z_bz z), (z_kp z, z_rc z))))
def zu_aE (z : ZT) (v : Nat) : ZT := (((((z_oct z, z_tk z), z_ko z), (z_lb z, z_lo z)), (((z_mb z, z_rb z), z_rn z), (z_lf z, z_ln z))), ((((z_md z, z_cE z), v), (z_cap z, z_kl z)), (((z_LB z, z_bs z), z_bz z), (z_kp z, z_rc z))))
def zu_cap (z : ZT) (v : Nat) : ZT := (((((z_oct z, z_tk z), z_ko z), (z_lb z, z_lo z)), (((z_mb z, z_rb z), z_rn z), (z_lf z, z_ln z))), ((((z_md z, z_cE z), z_aE z), (v, z_kl z)), (((z_LB z, z_bs z), z_bz z), (z_kp z, z_rc z))))
def zu_kl (z : ZT) (v : List Nat) : ZT := (((((z_oct z, z_tk z), z_ko z), (z_lb z, z_lo z)), (((z_mb z, z_rb z), z_rn z), (z_lf z, z_ln z))), ((((z_md z, z_cE z), z_aE z), (z_cap z, v)), (((z_LB z, z_bs z), z_bz z), (z_kp z, z_rc z))))
def zu_LB (z : ZT) (v : List Nat) : ZT := (((((z_oct z, z_tk z), z_ko z), (z_lb z, z_lo z)), (((z_mb z, z_rb z), z_rn z), (z_lf z, z_ln z))), ((((z_md z, z_cE z), z_aE z), (z_cap z, z_kl z)), (((v, z_bs z), z_bz z), (z_kp z, z_rc z))))
def zu_bs (z : ZT) (v : Nat → Nat) : ZT := (((((z_oct z, z_tk z), z_ko z), (z_lb z, z_lo z)), (((z_mb z, z_rb z), z_rn z), (z_lf z, z_ln z))), ((((z_md z, z_cE z), z_aE z), (z_cap z, z_kl z)), (((z_LB z, v), z_bz z), (z_kp z, z_rc z))))
def zu_bz (z : ZT) (v : Nat → Nat) : ZT := (((((z_oct z, z_tk z), z_ko z), (z_lb z, z_lo z)), (((z_mb z, z_rb z), z_rn z), (z_lf z, z_ln z))), ((((z_md z, z_cE z), z_aE z), (z_cap z, z_kl z)), (((z_LB z, z_bs z), v), (z_kp z, z_rc z))))
def zu_kp (z : ZT) (v : Nat → Bool) : ZT := (((((z_oct z, z_tk z), z_ko z), (z_lb z, z_lo z)), (((z_mb z, z_rb z), z_rn z), (z_lf z, z_ln z))), ((((z_md z, z_cE z), z_aE z), (z_cap z, z_kl z)), (((z_LB z, z_bs z), z_bz z), (v, z_rc z))))
def zu_rc (z : ZT) (v : Nat → Bool) : ZT := (((((z_oct z, z_tk z), z_ko z), (z_lb z, z_lo z)), (((z_mb z, z_rb z), z_rn z), (z_lf z, z_ln z))), ((((z_md z, z_cE z), z_aE z), (z_cap z, z_kl z)), (((z_LB z, z_bs z), z_bz z), (z_kp z, v))))
def zmk (oct : Nat → Nat) (tk : Nat → Option Nat) (ko : Nat) (lb : Nat) (lo : Nat) (mb : Nat) (rb : Nat → Option Nat) (rn : Nat) (lf : Nat → Nat) (ln : Nat) (md : Int32) (cE : ClassId) (aE : Nat) (cap : Nat) (kl : List Nat) (LB : List Nat) (bs : Nat → Nat) (bz : Nat → Nat) (kp : Nat → Bool) (rc : Nat → Bool) : ZT := (((((oct, tk), ko), (lb, lo)), (((mb, rb), rn), (lf, ln))), ((((md, cE), aE), (cap, kl)), (((LB, bs), bz), (kp, rc))))
abbrev MT : Type := ((((Nat × (Nat → Nat)) × (Nat → Nat)) × (((Nat → Nat) × (Nat → Nat)) × (Nat → Nat))) × ((((Nat → Bool) × (Nat → Nat)) × Nat) × ((Nat × Nat) × Nat)))
def m_err (z : MT) : Nat := z.1.1.1.1
def m_oct (z : MT) : Nat → Nat := z.1.1.1.2
def m_pl (z : MT) : Nat → Nat := z.1.1.2
def m_sz (z : MT) : Nat → Nat := z.1.2.1.1
def m_sta (z : MT) : Nat → Nat := z.1.2.1.2
def m_sin (z : MT) : Nat → Nat := z.1.2.2
def m_rea (z : MT) : Nat → Bool := z.2.1.1.1
def m_fnd (z : MT) : Nat → Nat := z.2.1.1.2
def m_many (z : MT) : Nat := z.2.1.2
def m_made (z : MT) : Nat := z.2.2.1.1
def m_backs (z : MT) : Nat := z.2.2.1.2
def m_lm (z : MT) : Nat := z.2.2.2
def mu_err (z : MT) (v : Nat) : MT := ((((v, m_oct z), m_pl z), ((m_sz z, m_sta z), m_sin z)), (((m_rea z, m_fnd z), m_many z), ((m_made z, m_backs z), m_lm z)))
def mu_oct (z : MT) (v : Nat → Nat) : MT := ((((m_err z, v), m_pl z), ((m_sz z, m_sta z), m_sin z)), (((m_rea z, m_fnd z), m_many z), ((m_made z, m_backs z), m_lm z)))
def mu_pl (z : MT) (v : Nat → Nat) : MT := ((((m_err z, m_oct z), v), ((m_sz z, m_sta z), m_sin z)), (((m_rea z, m_fnd z), m_many z), ((m_made z, m_backs z), m_lm z)))
def mu_sz (z : MT) (v : Nat → Nat) : MT := ((((m_err z, m_oct z), m_pl z), ((v, m_sta z), m_sin z)), (((m_rea z, m_fnd z), m_many z), ((m_made z, m_backs z), m_lm z)))
def mu_sta (z : MT) (v : Nat → Nat) : MT := ((((m_err z, m_oct z), m_pl z), ((m_sz z, v), m_sin z)), (((m_rea z, m_fnd z), m_many z), ((m_made z, m_backs z), m_lm z)))
def mu_sin (z : MT) (v : Nat → Nat) : MT := ((((m_err z, m_oct z), m_pl z), ((m_sz z, m_sta z), v)), (((m_rea z, m_fnd z), m_many z), ((m_made z, m_backs z), m_lm z)))
def mu_rea (z : MT) (v : Nat → Bool) : MT := ((((m_err z, m_oct z), m_pl z), ((m_sz z, m_sta z), m_sin z)), (((v, m_fnd z), m_many z), ((m_made z, m_backs z), m_lm z)))
def mu_fnd (z : MT) (v : Nat → Nat) : MT := ((((m_err z, m_oct z), m_pl z), ((m_sz z, m_sta z), m_sin z)), (((m_rea z, v), m_many z), ((m_made z, m_backs z), m_lm z)))
def mu_many (z : MT) (v : Nat) : MT := ((((m_err z, m_oct z), m_pl z), ((m_sz z, m_sta z), m_sin z)), (((m_rea z, m_fnd z), v), ((m_made z, m_backs z), m_lm z)))
def mu_made (z : MT) (v : Nat) : MT := ((((m_err z, m_oct z), m_pl z), ((m_sz z, m_sta z), m_sin z)), (((m_rea z, m_fnd z), m_many z), ((v, m_backs z), m_lm z)))
def mu_backs (z : MT) (v : Nat) : MT := ((((m_err z, m_oct z), m_pl z), ((m_sz z, m_sta z), m_sin z)), (((m_rea z, m_fnd z), m_many z), ((m_made z, v), m_lm z)))
def mu_lm (z : MT) (v : Nat) : MT := ((((m_err z, m_oct z), m_pl z), ((m_sz z, m_sta z), m_sin z)), (((m_rea z, m_fnd z), m_many z), ((m_made z, m_backs z), v)))
def mmk (err : Nat) (oct : Nat → Nat) (pl : Nat → Nat) (sz : Nat → Nat) (sta : Nat → Nat) (sin : Nat → Nat) (rea : Nat → Bool) (fnd : Nat → Nat) (many : Nat) (made : Nat) (backs : Nat) (lm : Nat) : MT := ((((err, oct), pl), ((sz, sta), sin)), (((rea, fnd), many), ((made, backs), lm)))
abbrev ZG : Type := ((((Nat × Nat) × Nat) × (Nat × Nat)) × (((Nat × ClassId) × ClassId) × (ClassId × ClassId)))
def g_h (z : ZG) : Nat := z.1.1.1.1
def g_aO (z : ZG) : Nat := z.1.1.1.2
def g_aT (z : ZG) : Nat := z.1.1.2
def g_aK (z : ZG) : Nat := z.1.2.1
def g_aR (z : ZG) : Nat := z.1.2.2
def g_aL (z : ZG) : Nat := z.2.1.1.1
def g_cB (z : ZG) : ClassId := z.2.1.1.2
def g_cT (z : ZG) : ClassId := z.2.1.2
def g_cR (z : ZG) : ClassId := z.2.2.1
def g_cI (z : ZG) : ClassId := z.2.2.2
def gmk (h : Nat) (aO : Nat) (aT : Nat) (aK : Nat) (aR : Nat) (aL : Nat) (cB : ClassId) (cT : ClassId) (cR : ClassId) (cI : ClassId) : ZG := ((((h, aO), aT), (aK, aR)), (((aL, cB), cT), (cR, cI)))
abbrev MG : Type := ((((Nat × Nat) × (Nat × Nat)) × ((Nat × Nat) × (Nat × Nat))) × (((ClassId × ClassId) × (ClassId × ClassId)) × ((ClassId × ClassId) × ClassId)))
def n_h (z : MG) : Nat := z.1.1.1.1
def n_aO (z : MG) : Nat := z.1.1.1.2
def n_aP (z : MG) : Nat := z.1.1.2.1
def n_aS (z : MG) : Nat := z.1.1.2.2
def n_aT (z : MG) : Nat := z.1.2.1.1
def n_aN (z : MG) : Nat := z.1.2.1.2
def n_aR (z : MG) : Nat := z.1.2.2.1
def n_aF (z : MG) : Nat := z.1.2.2.2
def n_c1 (z : MG) : ClassId := z.2.1.1.1
def n_c2 (z : MG) : ClassId := z.2.1.1.2
def n_c3 (z : MG) : ClassId := z.2.1.2.1
def n_c4 (z : MG) : ClassId := z.2.1.2.2
def n_c5 (z : MG) : ClassId := z.2.2.1.1
def n_c6 (z : MG) : ClassId := z.2.2.1.2
def n_c7 (z : MG) : ClassId := z.2.2.2
def nmk (h : Nat) (aO : Nat) (aP : Nat) (aS : Nat) (aT : Nat) (aN : Nat) (aR : Nat) (aF : Nat) (c1 : ClassId) (c2 : ClassId) (c3 : ClassId) (c4 : ClassId) (c5 : ClassId) (c6 : ClassId) (c7 : ClassId) : MG := ((((h, aO), (aP, aS)), ((aT, aN), (aR, aF))), (((c1, c2), (c3, c4)), ((c5, c6), c7)))
theorem z_eta (z : ZT) : zmk (z_oct z) (z_tk z) (z_ko z) (z_lb z) (z_lo z) (z_mb z) (z_rb z) (z_rn z) (z_lf z) (z_ln z) (z_md z) (z_cE z) (z_aE z) (z_cap z) (z_kl z) (z_LB z) (z_bs z) (z_bz z) (z_kp z) (z_rc z) = z := rfl
theorem m_eta (z : MT) : mmk (m_err z) (m_oct z) (m_pl z) (m_sz z) (m_sta z) (m_sin z) (m_rea z) (m_fnd z) (m_many z) (m_made z) (m_backs z) (m_lm z) = z := rfl
def zb (b : Bool) : Int32 := match b with | true => 1 | false => 0
/-- a block's cell -/
def zF (z : ZT) (a : Nat) : va_E := .inr (1, [.int (nI (z_bs z a)), .int (nI (z_bz z a)), .int (zb (z_kp z a)), .int (zb (z_rc z a))])
/-- the list's own array, once it has one -/
def zwe (z : ZT) : va_W := match z_cap z with
  | 0 => []
  | n + 1 => [(z_aE z, .inl (z_cE z, n + 1, .inr (.inr (.inr (.inr (fun j => (z_kl z)[j]?))))))]
def zwt (z : ZT) : List (ClassId × FieldType) := match z_cap z with
  | 0 => []
  | _ + 1 => [(z_cE z, .object "java/lang/Object")]
def zeR (t0 : Nat) (z : ZT) : Nat := match z_cap z with
  | 0 => t0
  | _ + 1 => z_aE z
def zX (t0 : Nat) (g : ZG) (z : ZT) : va_W := [(g_h g, .inr (0, [.ref (g_aO g), .ref (g_aT g), .ref (g_aK g), .int (nI (z_ko z)), .int (nI (z_lb z)), .int (nI (z_lo z)), .int (nI (z_mb z)), .ref (g_aR g), .int (nI (z_rn z)), .ref (g_aL g), .int (nI (z_ln z))])), (g_aO g, .inl (g_cB g, 8192, .inl (fun j => sb_b (z_oct z j)))), (g_aT g, .inl (g_cT g, 512, .inr (.inr (.inr (.inr (z_tk z)))))), (g_aK g, .inr (3, [.int (z_md z), .ref (zeR t0 z), .int (nI (z_kl z).length)])), (g_aR g, .inl (g_cR g, 255, .inr (.inr (.inr (.inr (z_rb z)))))), (g_aL g, .inl (g_cI g, 255, .inl (fun j => nI (z_lf z j))))]
def zW (t0 : Nat) (g : ZG) (z : ZT) : va_W := (zX t0 g z ++ zwe z) ++ va_pl (z_LB z) (zF z)
def zT (g : ZG) (z : ZT) : List (ClassId × FieldType) := [(g_cB g, .byte), (g_cT g, .object RB), (g_cR g, .object RB), (g_cI g, .int)] ++ zwt z
theorem zpool {t0 : Nat} {g : ZG} {z : ZT} {a : Nat} (h : a ∈ z_LB z) : ∃ k : Nat, (zW t0 g z)[k]? = some (a, zF z a) := va_pl_get h
def mW (g : MG) (z : MT) : va_W := [(n_h g, .inr (2, [.int (nI (m_err z)), .ref (n_aO g), .ref (n_aP g), .ref (n_aS g), .ref (n_aT g), .ref (n_aN g), .ref (n_aR g), .ref (n_aF g), .int (nI (m_many z)), .int (nI (m_made z)), .int (nI (m_backs z)), .int (nI (m_lm z))])), (n_aO g, .inl (n_c1 g, 8192, .inl (fun j => nI (m_oct z j)))), (n_aP g, .inl (n_c2 g, 300, .inl (fun j => nI (m_pl z j)))), (n_aS g, .inl (n_c3 g, 300, .inl (fun j => nI (m_sz z j)))), (n_aT g, .inl (n_c4 g, 300, .inl (fun j => nI (m_sta z j)))), (n_aN g, .inl (n_c5 g, 300, .inl (fun j => nI (m_sin z j)))), (n_aR g, .inl (n_c6 g, 300, .inl (fun j => zb (m_rea z j)))), (n_aF g, .inl (n_c7 g, 300, .inl (fun j => nI (m_fnd z j))))]
def mT (g : MG) : List (ClassId × FieldType) := [(n_c1 g, .int), (n_c2 g, .int), (n_c3 g, .int), (n_c4 g, .int), (n_c5 g, .int), (n_c6 g, .boolean), (n_c7 g, .int)]
theorem zh_upd {e v : Nat} {f : Nat → Nat} (h : e < 2 ^ 31) : upd (fun j => nI (f j)) (nI e).toNatClampNeg (nI v) = fun j => nI (va_up f e v j) := by
  funext j
  rw [nI_clamp h]
  unfold upd va_up
  split <;> rfl
theorem zh_updB {e : Nat} {v : Bool} {f : Nat → Bool} (h : e < 2 ^ 31) : upd (fun j => zb (f j)) (nI e).toNatClampNeg (zb v) = fun j => zb (va_up f e v j) := by
  funext j
  rw [nI_clamp h]
  unfold upd va_up
  split <;> rfl
theorem zh_zb (b : Bool) : zb b = 0 ↔ b = false := by cases b <;> decide
theorem zh_nar (b : Bool) : narrow .boolean (.int (zb b)) = .int (zb b) := by cases b <;> rfl
theorem zh_fit (b : Bool) : fits .boolean (.int (zb b)) = true := by cases b <;> rfl
theorem zh_vnar (b : Bool) : vp_nar .boolean (zb b) = zb b := by cases b <;> rfl
-- what the class's methods answer and do, over its state
def zwd (oct : Nat → Nat) (x : Nat) : Nat := oct x + 256 * oct (x + 1) + 65536 * oct (x + 2) + 16777216 * oct (x + 3)
/-- an octet's number, if it is one -/
def zq_at (v : Int32) : Option Nat := if 0 ≤ v.toInt ∧ v.toInt < 8192 then some v.toInt.toNat else none
theorem zq_at_some {x : Nat} (h : x < 8192) : zq_at (nI x) = some x := by
  unfold zq_at
  rw [nI_toInt (by omega), if_pos ⟨by omega, by omega⟩]
  rfl
theorem zq_at_none {v : Int32} (h : ¬ (0 ≤ v.toInt ∧ v.toInt < 8192)) : zq_at v = none := if_neg h
/-- the block, live or kept, that stands there -/
def zq_st (z : ZT) (v : Int32) : Option Nat := (zq_at v).bind (fun x => (z_tk z (x / 16)).bind (fun a => if z_bs z a = x then some a else none))
/-- the live block that has this octet -/
def zq_hv (z : ZT) (v : Int32) : Option Nat := (zq_at v).bind (fun x => (z_tk z (x / 16)).bind (fun a => if z_kp z a = false ∧ z_bs z a ≤ x ∧ x < z_bs z a + z_bz z a then some a else none))
/-- the live block to which this number leads -/
def zq_led (z : ZT) (v : Int32) : Option Nat := match zq_st z v with
  | some a => if z_kp z a = false then some a else zq_hv z v
  | none => zq_hv z v
/-- what a lost() writes on its way: reached, the blocks reached, how many -/
abbrev T3 : Type := (Nat → Bool) × (Nat → Option Nat) × Nat
def z3 (z : ZT) (t : T3) : ZT := (zmk (z_oct z) (z_tk z) (z_ko z) (z_lb z) (z_lo z) (z_mb z) t.2.1 t.2.2 (z_lf z) (z_ln z) (z_md z) (z_cE z) (z_aE z) (z_cap z) (z_kl z) (z_LB z) (z_bs z) (z_bz z) (z_kp z) t.1)
theorem z3_self (z : ZT) : z3 z (z_rc z, z_rb z, z_rn z) = z := rfl
def zr3 (z : ZT) (v : Int32) (t : T3) : T3 := match zq_led z v with
  | none => t
  | some a => if t.1 a = true ∨ 255 ≤ t.2.2 then t else (va_up t.1 a true, va_up t.2.1 t.2.2 (some a), t.2.2 + 1)
/-- the first n words of the block at a -/
def zw3 (z : ZT) (a : Nat) (t : T3) : Nat → T3
  | 0 => t
  | n + 1 => zr3 z (nI (zwd (z_oct z) (z_bs z a + 4 * n))) (zw3 z a t n)
def zs3 (z : ZT) : Nat → Nat → T3 → T3
  | 0, _, t => t
  | f + 1, i, t => if i < t.2.2 ∧ i < 255 then zs3 z f (i + 1) (match t.2.1 i with | some a => zw3 z a t (z_bz z a / 4) | none => t) else t
def zq_frc (z : ZT) : Nat → Nat → Bool
  | 0 => z_rc z
  | n + 1 => match z_rb z n with
    | some a => va_up (zq_frc z n) a false
    | none => zq_frc z n
def zq_lostP (z : ZT) (c : Nat) : Bool := match zq_st z (nI (16 * c)) with
  | some a => !z_kp z a && !z_rc z a
  | none => false
def zq_nl (z : ZT) : Nat → Nat × (Nat → Nat)
  | 0 => (0, z_lf z)
  | c + 1 => if zq_lostP z c = true ∧ (zq_nl z c).1 < 255 then ((zq_nl z c).1 + 1, va_up (zq_nl z c).2 (zq_nl z c).1 (16 * c)) else zq_nl z c
def zq_note (z : ZT) (c : Nat) : ZT := (zmk (z_oct z) (z_tk z) (z_ko z) (z_lb z) (z_lo z) (z_mb z) (z_rb z) (z_rn z) ((zq_nl z c).2) ((zq_nl z c).1) (z_md z) (z_cE z) (z_aE z) (z_cap z) (z_kl z) (z_LB z) (z_bs z) (z_bz z) (z_kp z) (z_rc z))
end
section
-- what holds of the class's state at every call
def zOK (z : ZT) : Prop :=
  (∀ c a : Nat, c < 512 → z_tk z c = some a → a ∈ z_LB z) ∧
  (∀ a ∈ z_LB z, z_bz z a ≤ 2048 ∧ ∃ c : Nat, z_bs z a = 16 * c ∧ 1 ≤ c ∧ c + zc (z_bz z a) + 1 ≤ 512) ∧
  (∀ x : Nat, z_oct z x < 256) ∧
  z_rn z ≤ 255 ∧ (∀ j : Nat, j < z_rn z → ∃ a, z_rb z j = some a ∧ a ∈ z_LB z) ∧ z_ln z ≤ 255 ∧
  (∀ a ∈ z_kl z, a ∈ z_LB z) ∧ (z_kl z).length ≤ z_cap z ∧ (z_cap z = 0 ∨ 2 ≤ z_cap z) ∧ z_cap z < 1000 ∧ (z_kl z).length ≤ 255
theorem zOK.blk {z : ZT} (h : zOK z) {a : Nat} (ha : a ∈ z_LB z) : z_bs z a + z_bz z a ≤ 8192 ∧ z_bs z a < 8192 ∧ z_bz z a ≤ 2048 ∧ 16 ≤ z_bs z a := by
  obtain ⟨h1, c, h2, h3, h4⟩ := h.2.1 a ha
  have := zc_ge (z_bz z a)
  have := zc_pos (z_bz z a)
  omega
theorem zi_lt0 {v : Int32} (h : v < 0) : v.toInt < 0 := by
  have := Int32.lt_iff_toInt_lt.mp h
  simpa using this
theorem zq_at_neg {v : Int32} (h : v < 0) : zq_at v = none := zq_at_none (by have := zi_lt0 h; omega)
theorem zq_at_big {x : Nat} (hx : x < 2 ^ 31) (h : 8192 ≤ x) : zq_at (nI x) = none := zq_at_none (by rw [nI_toInt hx]; omega)
theorem zq_at_of {v : Int32} {x : Nat} (h : zq_at v = some x) : x < 8192 ∧ v = nI x := by
  unfold zq_at at h
  split at h
  · rename_i q
    cases h
    refine ⟨by omega, Int32.toInt_inj.mp ?_⟩
    rw [nI_toInt (by omega)]
    omega
  · cases h
theorem zh_dec (p : Prop) [Decidable p] : zb (decide p) = if p then 1 else 0 := by
  by_cases h : p <;> simp [h, zb]
theorem zopt (o : Option Nat) : o = none ∨ ∃ a, o = some a := by
  cases o with
  | none => exact Or.inl rfl
  | some a => exact Or.inr ⟨a, rfl⟩
theorem nx_or (a b : Nat) : nI a ||| nI b = nI (a ||| b) := by
  apply Int32.toBitVec_inj.1
  show BitVec.ofNat 32 a ||| BitVec.ofNat 32 b = BitVec.ofNat 32 (a ||| b)
  apply BitVec.eq_of_getLsbD_eq
  intro i hi
  simp [hi]
theorem zh_or {p q k : Nat} (hp : p < 2 ^ k) : nI p ||| nI (q * 2 ^ k) = nI (p + q * 2 ^ k) := by
  rw [nx_or, Nat.or_comm, Nat.mul_comm q, ← Nat.two_pow_add_eq_or_of_lt hp, Nat.add_comm]
theorem zh_word {a b c d : Nat} (ha : a < 256) (hb : b < 256) (hc : c < 256) (hd : d < 256) :
    (((nI 0 ||| ((sb_b a &&& nI 255) <<< (nI (8 * 0) &&& 31))) ||| ((sb_b b &&& nI 255) <<< (nI (8 * 1) &&& 31))) ||| ((sb_b c &&& nI 255) <<< (nI (8 * 2) &&& 31))) ||| ((sb_b d &&& nI 255) <<< (nI (8 * 3) &&& 31)) = nI (a + 256 * b + 65536 * c + 16777216 * d) := by
  have e1 : ∀ x, x < 256 → sb_b x &&& nI 255 = nI x := fun x h => (sb_byte x h).1
  rw [e1 a ha, e1 b hb, e1 c hc, e1 d hd]
  have s0 : nI a <<< (nI (8 * 0) &&& 31) = nI (a * 2 ^ 0) := pk_shlN _ 0 (by decide) (by omega)
  have s1 : nI b <<< (nI (8 * 1) &&& 31) = nI (b * 2 ^ 8) := pk_shlN _ 8 (by decide) (by omega)
  have s2 : nI c <<< (nI (8 * 2) &&& 31) = nI (c * 2 ^ 16) := pk_shlN _ 16 (by decide) (by omega)
  have s3 : nI d <<< (nI (8 * 3) &&& 31) = nI (d * 2 ^ 24) := pk_shlN _ 24 (by decide) (by omega)
  rw [s0, s1, s2, s3, zh_or (p := 0) (by decide), zh_or (by omega), zh_or (by omega), zh_or (by omega)]
  congr 1
  omega
/-- the class's own search for room -/
def zt_run (tk : Nat → Option Nat) (i u : Nat) : Prop := u ≤ i ∧ (∀ k, i ≤ k + u → k < i → tk k = none) ∧ (u < i → tk (i - u - 1) ≠ none)
theorem zt_run_room {tk : Nat → Option Nat} {d i u : Nat} (h : zt_run tk i u) (hn : ∀ c, 1 ≤ c → c + d < i → ¬ zt_gap tk d c) (hu : u = d + 2) : zt_gap tk d (i - 1 - d) := by
  obtain ⟨h1, h2, h3⟩ := h
  intro k q1 q2
  exact h2 k (by omega) (by omega)
theorem ts_nf {x : Bool} (h : ¬ x = false) : x = true := by cases x <;> simp_all
theorem ts_nt {x : Bool} (h : ¬ x = true) : x = false := by cases x <;> simp_all
theorem zq_st_of {z : ZT} {v : Int32} {a : Nat} (h : zq_st z v = some a) : ∃ x : Nat, x < 8192 ∧ v = nI x ∧ z_tk z (x / 16) = some a ∧ z_bs z a = x := by
  unfold zq_st at h
  cases hq : zq_at v with
  | none => rw [hq] at h; cases h
  | some x =>
    rw [hq] at h
    obtain ⟨h1, h2⟩ := zq_at_of hq
    have h : (z_tk z (x / 16)).bind (fun a => if z_bs z a = x then some a else none) = some a := h
    cases ht : z_tk z (x / 16) with
    | none => rw [ht] at h; cases h
    | some b =>
      rw [ht] at h
      have h : (if z_bs z b = x then some b else none) = some a := h
      split at h
      · cases h
        exact ⟨x, h1, h2, ht, by assumption⟩
      · cases h
theorem zq_st_in {z : ZT} {v : Int32} {a : Nat} (hz : zOK z) (h : zq_st z v = some a) : a ∈ z_LB z := by
  obtain ⟨x, h1, -, h3, -⟩ := zq_st_of h
  exact hz.1 _ a (by omega) h3
theorem zq_hv_of {z : ZT} {v : Int32} {a : Nat} (h : zq_hv z v = some a) : ∃ x : Nat, x < 8192 ∧ v = nI x ∧ z_tk z (x / 16) = some a ∧ z_kp z a = false ∧ z_bs z a ≤ x ∧ x < z_bs z a + z_bz z a := by
  unfold zq_hv at h
  cases hq : zq_at v with
  | none => rw [hq] at h; cases h
  | some x =>
    rw [hq] at h
    obtain ⟨h1, h2⟩ := zq_at_of hq
    have h : (z_tk z (x / 16)).bind (fun a => if z_kp z a = false ∧ z_bs z a ≤ x ∧ x < z_bs z a + z_bz z a then some a else none) = some a := h
    cases ht : z_tk z (x / 16) with
    | none => rw [ht] at h; cases h
    | some b =>
      rw [ht] at h
      have h : (if z_kp z b = false ∧ z_bs z b ≤ x ∧ x < z_bs z b + z_bz z b then some b else none) = some a := h
      split at h
      · cases h
        rename_i q
        exact ⟨x, h1, h2, ht, q⟩
      · cases h
theorem zq_hv_in {z : ZT} {v : Int32} {a : Nat} (hz : zOK z) (h : zq_hv z v = some a) : a ∈ z_LB z := by
  obtain ⟨x, h1, -, h3, -⟩ := zq_hv_of h
  exact hz.1 _ a (by omega) h3
theorem zq_led_in {z : ZT} {v : Int32} {a : Nat} (hz : zOK z) (h : zq_led z v = some a) : a ∈ z_LB z := by
  unfold zq_led at h
  split at h
  · rename_i b hb
    split at h
    · cases h
      exact zq_st_in hz hb
    · exact zq_hv_in hz h
  · exact zq_hv_in hz h
theorem zc_max {n : Nat} (h : n ≤ 2048) : (if nI 1 < nI ((n + 16 - 1) / 16) then nI ((n + 16 - 1) / 16) else nI 1) = nI (zc n) := by
  unfold zc
  by_cases q : 1 < (n + 16 - 1) / 16
  · rw [if_pos ((nI_ltI (by omega) (by omega)).mpr q), if_neg (by omega)]
    exact congrArg nI (by omega)
  · rw [if_neg (fun z => q ((nI_ltI (by omega) (by omega)).mp z))]
    by_cases e : n = 0
    · rw [if_pos e]
    · rw [if_neg e]
      exact congrArg nI (by omega)
theorem zt_run0 {tk : Nat → Option Nat} : zt_run tk 0 0 := ⟨Nat.le_refl _, fun k _ h => by omega, fun h => by omega⟩
theorem zt_run_free {tk : Nat → Option Nat} {i u : Nat} (h : zt_run tk i u) (hi : tk i = none) : zt_run tk (i + 1) (u + 1) := by
  obtain ⟨h1, h2, h3⟩ := h
  refine ⟨by omega, fun k q1 q2 => ?_, fun q => ?_⟩
  · by_cases e : k = i
    · rw [e]; exact hi
    · exact h2 k (by omega) (by omega)
  · rw [show i + 1 - (u + 1) - 1 = i - u - 1 by omega]
    exact h3 (by omega)
theorem zt_run_hit {tk : Nat → Option Nat} {i : Nat} (hi : tk i ≠ none) : zt_run tk (i + 1) 0 := ⟨by omega, fun k q1 q2 => by omega, fun _ => hi⟩
theorem zt_run_no {tk : Nat → Option Nat} {d i u : Nat} (h : zt_run tk (i + 1) u) (hu : u < d + 2) (hn : ∀ c, 1 ≤ c → c + d < i → ¬ zt_gap tk d c) : ∀ c, 1 ≤ c → c + d < i + 1 → ¬ zt_gap tk d c := by
  intro c h1 h2 hg
  by_cases e : c + d < i
  · exact hn c h1 e hg
  · exact h.2.2 (by omega) (hg _ (by omega) (by omega))
theorem zt_run_yes {tk : Nat → Option Nat} {d i : Nat} (h : zt_run tk (i + 1) (d + 2)) (hi : i < 512) (hn : ∀ c, 1 ≤ c → c + d < i → ¬ zt_gap tk d c) : zr_room (zt_gap tk d) d (i - d) := by
  have h1 := h.1
  exact Or.inr ⟨by omega, by omega, fun k q1 q2 => h.2.1 k (by omega) (by omega), fun c q1 q2 => hn c q1 (by omega)⟩
def z3ok (z : ZT) (t : T3) : Prop := t.2.2 ≤ 255 ∧ ∀ j : Nat, j < t.2.2 → ∃ a, t.2.1 j = some a ∧ a ∈ z_LB z
theorem zOK.t3 {z : ZT} {t : T3} (h : zOK z) (ht : z3ok z t) : zOK (z3 z t) := ⟨h.1, h.2.1, h.2.2.1, ht.1, ht.2, h.2.2.2.2.2⟩
theorem z3ok.reach {z : ZT} {t : T3} {v : Int32} (hz : zOK z) (h : z3ok z t) : z3ok z (zr3 z v t) := by
  unfold zr3
  split
  · exact h
  · rename_i a ha
    split
    · exact h
    · rename_i q
      refine ⟨by show t.2.2 + 1 ≤ 255; omega, fun j hj => ?_⟩
      have hj : j < t.2.2 + 1 := hj
      show ∃ b, va_up t.2.1 t.2.2 (some a) j = some b ∧ b ∈ z_LB z
      by_cases e : j = t.2.2
      · subst e
        exact ⟨a, va_up_self _ _ _, zq_led_in hz ha⟩
      · rw [va_up_ne _ _ e]
        exact h.2 j (by omega)
theorem z3ok.words {z : ZT} {t : T3} {a : Nat} (hz : zOK z) (h : z3ok z t) : ∀ n : Nat, z3ok z (zw3 z a t n)
  | 0 => h
  | n + 1 => z3ok.reach hz (z3ok.words hz h n)
theorem zne1 {k : Nat} (hk : k < 2 ^ 31) : nI k ≠ (-1 : Int32) := fun h => by
  have h9 := congrArg Int32.toInt h
  rw [nI_toInt hk, show ((-1 : Int32)).toInt = -1 from by decide] at h9
  omega
theorem zq_nl_le {z : ZT} : ∀ c : Nat, (zq_nl z c).1 ≤ 255
  | 0 => Nat.zero_le _
  | c + 1 => by
    show (if zq_lostP z c = true ∧ (zq_nl z c).1 < 255 then ((zq_nl z c).1 + 1, va_up (zq_nl z c).2 (zq_nl z c).1 (16 * c)) else zq_nl z c).1 ≤ 255
    split
    · show (zq_nl z c).1 + 1 ≤ 255
      omega
    · exact zq_nl_le c
theorem zq_frc_s {z : ZT} {n a : Nat} (h : z_rb z n = some a) : zq_frc z (n + 1) = va_up (zq_frc z n) a false := by
  simp only [zq_frc, h]
end
section
set_option maxHeartbeats 1000000 in
set_option maxRecDepth 100000 in
theorem c_Z_isOctet_ok (l : Launch) (D : va_G) (t0 : Nat) (tys : List (ClassId × FieldType)) (w : va_W) (sz : Nat) (v : Int32) : Met l y_Z_isOctet w_Z_isOctet ({ frames := 0, cells := 0, slots := 0, locals := 0 }) (zPre D t0 (tys) (w) sz [.int v]) (vp_Si (fun r => r = zb (zq_at v).isSome)) 0 0 (fun _ => False) := by
  refine Met.ofW (cc := c_Z_isOctet) (maxL := 1) (ret := (some .boolean)) (by decide) rfl ?_
  intro p e s m args below meth c s₁ B hml hv
  obtain ⟨rfl, hsz, hP, hK, hD0, hE⟩ := hv
  have hx := B.exec
  have hb := B.bytes
  have hr := B.returns
  have hts := atoms_spec (ws := w_Z_isOctet) B.pre
  have hk : ∀ w ∈ zB, w.before _ s = true := fun w h => hts w (List.mem_cons_of_mem _ h)
  have hown : s.vm.findClass "ZoneHeap" = some m.cls := findClass_of_methodNamed B.named
  have hlocks := B.notSynchronized
  subst hsz
  have hD := hD0.self (sz := s.heap.size)
  generalize hAe : va_A (w) s.heap.size = A at hD hE
  have hA : ∀ q : Nat, s.heap.size ≤ q → A q := fun q h => by rw [← hAe]; exact Or.inr h
  have hS : va_S A s.heap s.heap [] := va_S.rf
  have hl := lv_entry ([.int v]) (n := 1) (Nat.le_of_ble_eq_true rfl)
  rw [lg_entry_eq]
  generalize (lg_sl ([.int v]) ++ List.replicate (1 - (lg_sl ([.int v])).length) Slot.unset).toArray = ls at hl ⊢
  have hl : lv_has ls 1 [(0, .int v)] := hl
  refine lv_iload_n hx hb d_Z_isOctet_0 rfl (lv_at hl 0 rfl) ?_
  refine lv_if_lt (tgt := 15) hx hb d_Z_isOctet_1 (by decide) (fun h => ?_) (fun h => ?_)
  · refine lv_iconst (v := nI 0) hx hb d_Z_isOctet_15 (by decide) ?_
    exact W.zret hx hb hr rfl (fun t ht hW => ⟨_, rfl, by rw [zq_at_neg h]; rfl, ht⟩) (fun q h => absurd h List.not_mem_nil) d_Z_isOctet_16
  obtain ⟨x, hx31, rfl⟩ := nI_of h
  refine lv_iload_n hx hb d_Z_isOctet_4 rfl (lv_at hl 0 rfl) ?_
  refine lv_sipush (v := nI 8192) hx hb d_Z_isOctet_5 (by decide) ?_
  refine lv_icmp_ge (tgt := 15) hx hb d_Z_isOctet_8 (by decide) (fun h => ?_) (fun h => ?_)
  · rw [nI_leI (by omega) (by omega)] at h
    refine lv_iconst (v := nI 0) hx hb d_Z_isOctet_15 (by decide) ?_
    exact W.zret hx hb hr rfl (fun t ht hW => ⟨_, rfl, by rw [zq_at_big hx31 h]; rfl, ht⟩) (fun q h => absurd h List.not_mem_nil) d_Z_isOctet_16
  rw [nI_leI (by omega) (by omega)] at h
  refine lv_iconst (v := nI 1) hx hb d_Z_isOctet_11 (by decide) ?_
  refine lv_goto (tgt := 16) hx hb d_Z_isOctet_12 (by decide) ?_
  exact W.zret hx hb hr rfl (fun t ht hW => ⟨_, rfl, by rw [zq_at_some (by omega)]; rfl, ht⟩) (fun q h => absurd h List.not_mem_nil) d_Z_isOctet_16
set_option maxHeartbeats 1000000 in
set_option maxRecDepth 100000 in
theorem c_Z_isTaken_ok (l : Launch) (D : va_G) (t0 : Nat) (g : ZG) (z : ZT) (sz : Nat) (v : Int32) : Met l y_Z_isTaken w_Z_isTaken ({ frames := 0, cells := 0, slots := 0, locals := 0 }) (zPre D t0 (zT g z) (zW t0 g z) sz [.ref (g_h g), .int v]) (vp_Si (fun r => r = zb (decide (0 ≤ v.toInt ∧ v.toInt < 512 ∧ z_tk z v.toInt.toNat ≠ none)))) 0 0 (fun _ => False) := by
  refine Met.ofW (cc := c_Z_isTaken) (maxL := 2) (ret := (some .boolean)) (by decide) rfl ?_
  intro p e s m args below meth c s₁ B hml hv
  obtain ⟨rfl, hsz, hP, hK, hD0, hE⟩ := hv
  have hx := B.exec
  have hb := B.bytes
  have hr := B.returns
  have hts := atoms_spec (ws := w_Z_isTaken) B.pre
  have hk : ∀ w ∈ zB, w.before _ s = true := fun w h => hts w (List.mem_cons_of_mem _ h)
  have hown : s.vm.findClass "ZoneHeap" = some m.cls := findClass_of_methodNamed B.named
  have hlocks := B.notSynchronized
  subst hsz
  have hD := hD0.self (sz := s.heap.size)
  generalize hAe : va_A (zW t0 g z) s.heap.size = A at hD hE
  have hA : ∀ q : Nat, s.heap.size ≤ q → A q := fun q h => by rw [← hAe]; exact Or.inr h
  have hS : va_S A s.heap s.heap [] := va_S.rf
  have hl := lv_entry ([.ref (g_h g), .int v]) (n := 2) (Nat.le_of_ble_eq_true rfl)
  rw [lg_entry_eq]
  generalize (lg_sl ([.ref (g_h g), .int v]) ++ List.replicate (2 - (lg_sl ([.ref (g_h g), .int v])).length) Slot.unset).toArray = ls at hl ⊢
  have hl : lv_has ls 2 [(0, .ref (g_h g)), (1, .int v)] := hl
  refine lv_iload_n hx hb d_Z_isTaken_0 rfl (lv_at hl 1 rfl) ?_
  refine lv_if_lt (tgt := 24) hx hb d_Z_isTaken_1 (by decide) (fun h => ?_) (fun h => ?_)
  · refine lv_iconst (v := nI 0) hx hb d_Z_isTaken_24 (by decide) ?_
    exact W.zret hx hb hr rfl (fun t ht hW => ⟨_, rfl, by rw [decide_eq_false (by have := zi_lt0 h; omega)]; rfl, ht⟩) (fun q h => absurd h List.not_mem_nil) d_Z_isTaken_25
  obtain ⟨x, hx31, rfl⟩ := nI_of h
  refine lv_iload_n hx hb d_Z_isTaken_4 rfl (lv_at hl 1 rfl) ?_
  refine lv_sipush (v := nI 512) hx hb d_Z_isTaken_5 (by decide) ?_
  refine lv_icmp_ge (tgt := 24) hx hb d_Z_isTaken_8 (by decide) (fun h => ?_) (fun h => ?_)
  · rw [nI_leI (by omega) (by omega)] at h
    refine lv_iconst (v := nI 0) hx hb d_Z_isTaken_24 (by decide) ?_
    exact W.zret hx hb hr rfl (fun t ht hW => ⟨_, rfl, by rw [decide_eq_false (by rw [nI_toInt hx31]; omega)]; rfl, ht⟩) (fun q h => absurd h List.not_mem_nil) d_Z_isTaken_25
  rw [nI_leI (by omega) (by omega)] at h
  refine lv_aload_n hx hb d_Z_isTaken_11 rfl (lv_at hl 0 rfl) ?_
  refine va_get (D := D) (ci := 0) (v := .ref (g_aT g)) (C := RZ) (T := TZ) (N := 11) hx hb hk inZ hown hK hP 0 rfl rfl 1 (by decide) (hk _ zk57) (fun _ h9 => h9) rfl d_Z_isTaken_12 ?_
  refine lv_iload_n hx hb d_Z_isTaken_15 rfl (lv_at hl 1 rfl) ?_
  refine va_aldq hx hb hK hP 2 1 rfl rfl (vp_in_nI (by omega) (by decide)) d_Z_isTaken_16 ?_
  refine zh_v (show va_rf (z_tk z (nI x).toNatClampNeg) = va_rf (z_tk z x) from by rw [nI_clamp (by omega)]) ?_
  rcases zopt (z_tk z x) with htk | ⟨a, htk⟩
  · refine zh_v (show va_rf (z_tk z x) = .null from by rw [htk]; rfl) ?_
    refine lv_ifnullN (tgt := 24) hx hb d_Z_isTaken_17 (by decide) ?_
    refine lv_iconst (v := nI 0) hx hb d_Z_isTaken_24 (by decide) ?_
    exact W.zret hx hb hr rfl (fun t ht hW => ⟨_, rfl, by rw [decide_eq_false (by rw [nI_toInt hx31]; rintro ⟨-, -, q⟩; exact q htk)]; rfl, ht⟩) (fun q h => absurd h List.not_mem_nil) d_Z_isTaken_25
  refine zh_v (show va_rf (z_tk z x) = .ref a from by rw [htk]; rfl) ?_
  refine lv_ifnull hx hb d_Z_isTaken_17 ?_
  refine lv_iconst (v := nI 1) hx hb d_Z_isTaken_20 (by decide) ?_
  refine lv_goto (tgt := 25) hx hb d_Z_isTaken_21 (by decide) ?_
  exact W.zret hx hb hr rfl (fun t ht hW => ⟨_, rfl, by rw [decide_eq_true (by rw [nI_toInt hx31]; exact ⟨by omega, by omega, fun q => by rw [show ((x : Int)).toNat = x from rfl, htk] at q; cases q⟩)]; rfl, ht⟩) (fun q h => absurd h List.not_mem_nil) d_Z_isTaken_25
set_option maxHeartbeats 1000000 in
set_option maxRecDepth 100000 in
theorem c_B_has_ok (l : Launch) (D : va_G) (t0 : Nat) (g : ZG) (z : ZT) (sz : Nat) (a x : Nat) (ha : a ∈ z_LB z) (hz : zOK z) (hx : x < 8192) : Met l y_B_has w_B_has ({ frames := 0, cells := 0, slots := 0, locals := 0 }) (zPre D t0 (zT g z) (zW t0 g z) sz [.ref a, .int (nI x)]) (vp_Si (fun r => r = zb (decide (z_bs z a ≤ x ∧ x < z_bs z a + z_bz z a)))) 0 0 (fun _ => False) := by
  have hbk := hz.blk ha
  refine Met.ofW (cc := c_B_has) (maxL := 2) (ret := (some .boolean)) (by decide) rfl ?_
  intro p e s m args below meth c s₁ B hml hv
  obtain ⟨rfl, hsz, hP, hK, hD0, hE⟩ := hv
  have hx := B.exec
  have hb := B.bytes
  have hr := B.returns
  have hts := atoms_spec (ws := w_B_has) B.pre
  have hk : ∀ w ∈ zB, w.before _ s = true := fun w h => hts w (List.mem_cons_of_mem _ h)
  have hown : s.vm.findClass "ZoneHeap$Block" = some m.cls := findClass_of_methodNamed B.named
  have hlocks := B.notSynchronized
  subst hsz
  have hD := hD0.self (sz := s.heap.size)
  generalize hAe : va_A (zW t0 g z) s.heap.size = A at hD hE
  have hA : ∀ q : Nat, s.heap.size ≤ q → A q := fun q h => by rw [← hAe]; exact Or.inr h
  have hS : va_S A s.heap s.heap [] := va_S.rf
  have hl := lv_entry ([.ref a, .int (nI x)]) (n := 2) (Nat.le_of_ble_eq_true rfl)
  rw [lg_entry_eq]
  generalize (lg_sl ([.ref a, .int (nI x)]) ++ List.replicate (2 - (lg_sl ([.ref a, .int (nI x)])).length) Slot.unset).toArray = ls at hl ⊢
  have hl : lv_has ls 2 [(0, .ref a), (1, .int (nI x))] := hl
  refine lv_iload_n hx hb d_B_has_0 rfl (lv_at hl 1 rfl) ?_
  refine lv_aload_n hx hb d_B_has_1 rfl (lv_at hl 0 rfl) ?_
  obtain ⟨k9, hk9⟩ := zpool (t0 := t0) (g := g) (z := z) ha
  refine va_get (D := D) (ci := 1) (v := .int (nI (z_bs z a))) (C := RB) (T := TB) (N := 4) hx hb hk inB hown hK hP k9 hk9 rfl 0 (by decide) (hk _ zk231) (fun _ h9 => h9) rfl d_B_has_2 ?_
  refine lv_icmp_lt (tgt := 25) hx hb d_B_has_5 (by decide) (fun h => ?_) (fun h => ?_)
  · rw [nI_ltI (by omega) (by omega)] at h
    refine lv_iconst (v := nI 0) hx hb d_B_has_25 (by decide) ?_
    exact W.zret hx hb hr rfl (fun t ht hW => ⟨_, rfl, by rw [decide_eq_false (by omega)]; rfl, ht⟩) (fun q h => absurd h List.not_mem_nil) d_B_has_26
  rw [nI_ltI (by omega) (by omega)] at h
  refine lv_iload_n hx hb d_B_has_8 rfl (lv_at hl 1 rfl) ?_
  refine lv_aload_n hx hb d_B_has_9 rfl (lv_at hl 0 rfl) ?_
  obtain ⟨k9, hk9⟩ := zpool (t0 := t0) (g := g) (z := z) ha
  refine va_get (D := D) (ci := 1) (v := .int (nI (z_bs z a))) (C := RB) (T := TB) (N := 4) hx hb hk inB hown hK hP k9 hk9 rfl 0 (by decide) (hk _ zk231) (fun _ h9 => h9) rfl d_B_has_10 ?_
  refine lv_isub hx hb d_B_has_13 ?_
  refine zh_t (show (nI x - nI (z_bs z a)) = nI (x - (z_bs z a)) from pk_sub (by omega)) ?_
  refine lv_aload_n hx hb d_B_has_14 rfl (lv_at hl 0 rfl) ?_
  obtain ⟨k9, hk9⟩ := zpool (t0 := t0) (g := g) (z := z) ha
  refine va_get (D := D) (ci := 1) (v := .int (nI (z_bz z a))) (C := RB) (T := TB) (N := 4) hx hb hk inB hown hK hP k9 hk9 rfl 1 (by decide) (hk _ zk233) (fun _ h9 => h9) rfl d_B_has_15 ?_
  refine lv_icmp_ge (tgt := 25) hx hb d_B_has_18 (by decide) (fun h => ?_) (fun h => ?_)
  · rw [nI_leI (by omega) (by omega)] at h
    refine lv_iconst (v := nI 0) hx hb d_B_has_25 (by decide) ?_
    exact W.zret hx hb hr rfl (fun t ht hW => ⟨_, rfl, by rw [decide_eq_false (by omega)]; rfl, ht⟩) (fun q h => absurd h List.not_mem_nil) d_B_has_26
  rw [nI_leI (by omega) (by omega)] at h
  refine lv_iconst (v := nI 1) hx hb d_B_has_21 (by decide) ?_
  refine lv_goto (tgt := 26) hx hb d_B_has_22 (by decide) ?_
  exact W.zret hx hb hr rfl (fun t ht hW => ⟨_, rfl, by rw [decide_eq_true (by omega)]; rfl, ht⟩) (fun q h => absurd h List.not_mem_nil) d_B_has_26
set_option maxHeartbeats 1000000 in
set_option maxRecDepth 100000 in
theorem c_Z_cellsFor_ok (l : Launch) (D : va_G) (t0 : Nat) (tys : List (ClassId × FieldType)) (w : va_W) (sz : Nat) (n : Nat) (hn : n ≤ 2048) : Met l y_Z_cellsFor w_Z_cellsFor ({ frames := 1, cells := 0, slots := 0, locals := 40 }) (zPre D t0 (tys) (w) sz [.int (nI n)]) (vp_Si (fun r => r = nI (zc n))) 0 0 (fun _ => False) := by
  refine Met.ofW (cc := c_Z_cellsFor) (maxL := 1) (ret := (some .int)) (by decide) rfl ?_
  intro p e s m args below meth c s₁ B hml hv
  obtain ⟨rfl, hsz, hP, hK, hD0, hE⟩ := hv
  have hx := B.exec
  have hb := B.bytes
  have hr := B.returns
  have hts := atoms_spec (ws := w_Z_cellsFor) B.pre
  have hk : ∀ w ∈ zB, w.before _ s = true := fun w h => hts w (List.mem_cons_of_mem _ h)
  have hown : s.vm.findClass "ZoneHeap" = some m.cls := findClass_of_methodNamed B.named
  have hlocks := B.notSynchronized
  subst hsz
  have hD := hD0.self (sz := s.heap.size)
  generalize hAe : va_A (w) s.heap.size = A at hD hE
  have hA : ∀ q : Nat, s.heap.size ≤ q → A q := fun q h => by rw [← hAe]; exact Or.inr h
  have hS : va_S A s.heap s.heap [] := va_S.rf
  have hl := lv_entry ([.int (nI n)]) (n := 1) (Nat.le_of_ble_eq_true rfl)
  rw [lg_entry_eq]
  generalize (lg_sl ([.int (nI n)]) ++ List.replicate (1 - (lg_sl ([.int (nI n)])).length) Slot.unset).toArray = ls at hl ⊢
  have hl : lv_has ls 1 [(0, .int (nI n))] := hl
  refine lv_iconst (v := nI 1) hx hb d_Z_cellsFor_0 (by decide) ?_
  refine lv_iload_n hx hb d_Z_cellsFor_1 rfl (lv_at hl 0 rfl) ?_
  refine lv_bipush (v := nI 16) hx hb d_Z_cellsFor_2 (by decide) ?_
  refine lv_iadd hx hb d_Z_cellsFor_4 ?_
  refine zh_t (show (nI n + nI 16) = nI (n + 16) from nI_add _ _) ?_
  refine lv_iconst (v := nI 1) hx hb d_Z_cellsFor_5 (by decide) ?_
  refine lv_isub hx hb d_Z_cellsFor_6 ?_
  refine zh_t (show (nI (n + 16) - nI 1) = nI (n + 16 - 1) from pk_sub (by omega)) ?_
  refine lv_bipush (v := nI 16) hx hb d_Z_cellsFor_7 (by decide) ?_
  refine lv_idiv hx hb d_Z_cellsFor_9 (by decide) ?_
  refine zh_t (show (nI (n + 16 - 1) / nI 16) = nI ((n + 16 - 1) / 16) from pk_div (by omega) (by decide) (by decide)) ?_
  refine va_mmax hx hb (hml.trans hl.1.symm) hown (hk _ zk220) (hk _ zk221) (hk _ zk10) (hk _ kc_Mt_max) (Nat.le_of_ble_eq_true rfl) (Nat.le_of_ble_eq_true rfl) (Nat.le_refl _) (Nat.le_refl _) d_Z_cellsFor_10 ?_
  exact W.iret hx hb hr (fun t ht hW => ⟨_, rfl, zc_max hn, ht⟩) (fun q h => absurd h List.not_mem_nil) d_Z_cellsFor_13
set_option maxHeartbeats 1000000 in
set_option maxRecDepth 100000 in
theorem c_Z_standingAt_ok (l : Launch) (D : va_G) (t0 : Nat) (g : ZG) (z : ZT) (sz : Nat) (v : Int32) (hz : zOK z) : Met l y_Z_standingAt w_Z_standingAt ({ frames := 1, cells := 0, slots := 0, locals := 20 }) (zPre D t0 (zT g z) (zW t0 g z) sz [.ref (g_h g), .int v]) (va_Sq (fun r => r = zq_st z v)) 0 0 (fun _ => False) := by
  refine Met.ofW (cc := c_Z_standingAt) (maxL := 3) (ret := (some (.object "ZoneHeap$Block"))) (by decide) rfl ?_
  intro p e s m args below meth c s₁ B hml hv
  obtain ⟨rfl, hsz, hP, hK, hD0, hE⟩ := hv
  have hx := B.exec
  have hb := B.bytes
  have hr := B.returns
  have hts := atoms_spec (ws := w_Z_standingAt) B.pre
  have hk : ∀ w ∈ zB, w.before _ s = true := fun w h => hts w (List.mem_cons_of_mem _ h)
  have hown : s.vm.findClass "ZoneHeap" = some m.cls := findClass_of_methodNamed B.named
  have hlocks := B.notSynchronized
  subst hsz
  have hD := hD0.self (sz := s.heap.size)
  generalize hAe : va_A (zW t0 g z) s.heap.size = A at hD hE
  have hA : ∀ q : Nat, s.heap.size ≤ q → A q := fun q h => by rw [← hAe]; exact Or.inr h
  have hS : va_S A s.heap s.heap [] := va_S.rf
  have hl := lv_entry ([.ref (g_h g), .int v]) (n := 3) (Nat.le_of_ble_eq_true rfl)
  rw [lg_entry_eq]
  generalize (lg_sl ([.ref (g_h g), .int v]) ++ List.replicate (3 - (lg_sl ([.ref (g_h g), .int v])).length) Slot.unset).toArray = ls at hl ⊢
  have hl : lv_has ls 3 [(0, .ref (g_h g)), (1, .int v)] := hl
  refine lv_iload_n hx hb d_Z_standingAt_0 rfl (lv_at hl 1 rfl) ?_
  refine vp_callSi (zrS (n := 1) (As := [.int v]) (rest := []) ⟨hx, hb, hml, hown, hk⟩ (c_Z_isOctet_ok l D t0 (zT g z) (zW t0 g z) s.heap.size v) zk111 zk112 zk1 kc_Z_isOctet ⟨by decide, by decide, by decide⟩ rfl rfl ⟨Nat.le_of_ble_eq_true rfl, Nat.le_of_ble_eq_true rfl⟩ ⟨hP, hK, hD, hS, hA, hE⟩ rfl hl.1 rfl (Nat.le_of_ble_eq_true rfl) d_Z_standingAt_1 ⟨Nat.le_of_ble_eq_true rfl, Nat.le_of_ble_eq_true rfl⟩).run (fun r hr => ?_)
  subst hr
  refine lv_if_ne (tgt := 9) hx hb d_Z_standingAt_4 (by decide) (fun h => ?_) (fun h => ?_)
  rotate_left 1
  · rw [zh_zb] at h
    refine lv_null hx hb d_Z_standingAt_7 ?_
    rcases hq : zq_at v with _ | x
    · exact W.aret (v := va_rf (none)) hx hb hr (Or.inl ⟨_, rfl⟩) (va_rf_or _) (fun t ht hW => ⟨none, rfl, by unfold zq_st; rw [hq]; rfl, ht⟩) (fun q h => absurd h List.not_mem_nil) d_Z_standingAt_8
    rw [hq] at h
    cases h
  rw [zh_zb] at h
  rcases hq : zq_at v with _ | x
  · rw [hq] at h
    exact absurd rfl h
  obtain ⟨hx8, rfl⟩ := zq_at_of hq
  refine lv_aload_n hx hb d_Z_standingAt_9 rfl (lv_at hl 0 rfl) ?_
  refine va_get (D := D) (ci := 0) (v := .ref (g_aT g)) (C := RZ) (T := TZ) (N := 11) hx hb hk inZ hown hK hP 0 rfl rfl 1 (by decide) (hk _ zk57) (fun _ h9 => h9) rfl d_Z_standingAt_10 ?_
  refine lv_iload_n hx hb d_Z_standingAt_13 rfl (lv_at hl 1 rfl) ?_
  refine lv_bipush (v := nI 16) hx hb d_Z_standingAt_14 (by decide) ?_
  refine lv_idiv hx hb d_Z_standingAt_16 (by decide) ?_
  refine zh_t (show (nI x / nI 16) = nI (x / 16) from pk_div (by omega) (by decide) (by decide)) ?_
  refine va_aldq hx hb hK hP 2 1 rfl rfl (vp_in_nI (by omega) (by decide)) d_Z_standingAt_17 ?_
  refine zh_v (show va_rf (z_tk z (nI (x / 16)).toNatClampNeg) = va_rf (z_tk z (x / 16)) from by rw [nI_clamp (by omega)]) ?_
  rcases zopt (z_tk z (x / 16)) with htk | ⟨a, htk⟩
  · refine zh_v (show va_rf (z_tk z (x / 16)) = .null from by rw [htk]; rfl) ?_
    refine lv_astore_nN (lv' := [(2, .null), (0, .ref (g_h g)), (1, .int (nI x))]) hx hb d_Z_standingAt_18 rfl hl (by decide) rfl (fun ls hl => ?_)
    refine lv_aload_nN hx hb d_Z_standingAt_19 rfl (lv_at hl 0 rfl) ?_
    refine lv_ifnullN (tgt := 35) hx hb d_Z_standingAt_20 (by decide) ?_
    refine lv_null hx hb d_Z_standingAt_35 ?_
    exact W.aret (v := va_rf (none)) hx hb hr (Or.inl ⟨_, rfl⟩) (va_rf_or _) (fun t ht hW => ⟨none, rfl, by unfold zq_st; rw [hq]; show none = (z_tk z (x / 16)).bind _; rw [htk]; rfl, ht⟩) (fun q h => absurd h List.not_mem_nil) d_Z_standingAt_36
  refine zh_v (show va_rf (z_tk z (x / 16)) = .ref a from by rw [htk]; rfl) ?_
  have ha : a ∈ z_LB z := hz.1 _ a (by omega) htk
  have hbk := hz.blk ha
  refine lv_astore_n (lv' := [(2, .ref a), (0, .ref (g_h g)), (1, .int (nI x))]) hx hb d_Z_standingAt_18 rfl hl (by decide) rfl (fun ls hl => ?_)
  refine lv_aload_n hx hb d_Z_standingAt_19 rfl (lv_at hl 0 rfl) ?_
  refine lv_ifnull hx hb d_Z_standingAt_20 ?_
  refine lv_aload_n hx hb d_Z_standingAt_23 rfl (lv_at hl 0 rfl) ?_
  obtain ⟨k9, hk9⟩ := zpool (t0 := t0) (g := g) (z := z) ha
  refine va_getN (D := D) (ci := 1) (v := .int (nI (z_bs z a))) (C := RB) (T := TB) (N := 4) hx hb hk inB hown hK hP k9 hk9 rfl 0 (by decide) (va_Nw.use rfl (hE.1.1 _ zn232)) (fun _ h9 => h9) rfl d_Z_standingAt_24 ?_
  refine lv_iload_n hx hb d_Z_standingAt_27 rfl (lv_at hl 2 rfl) ?_
  refine lv_icmp_ne (tgt := 35) hx hb d_Z_standingAt_28 (by decide) (fun h => ?_) (fun h => ?_)
  · rw [nI_eq (by omega) (by omega)] at h
    refine lv_null hx hb d_Z_standingAt_35 ?_
    exact W.aret (v := va_rf (none)) hx hb hr (Or.inl ⟨_, rfl⟩) (va_rf_or _) (fun t ht hW => ⟨none, rfl, by unfold zq_st; rw [hq]; show none = (z_tk z (x / 16)).bind _; rw [htk]; show none = if z_bs z a = x then some a else none; rw [if_neg h], ht⟩) (fun q h => absurd h List.not_mem_nil) d_Z_standingAt_36
  rw [nI_eq (by omega) (by omega)] at h
  refine lv_aload_n hx hb d_Z_standingAt_31 rfl (lv_at hl 0 rfl) ?_
  refine lv_goto (tgt := 36) hx hb d_Z_standingAt_32 (by decide) ?_
  exact W.aret (v := va_rf (some a)) hx hb hr (Or.inl ⟨_, rfl⟩) (va_rf_or _) (fun t ht hW => ⟨some a, rfl, by unfold zq_st; rw [hq]; show some a = (z_tk z (x / 16)).bind _; rw [htk]; show some a = if z_bs z a = x then some a else none; rw [if_pos h], ht⟩) (fun q h => absurd h List.not_mem_nil) d_Z_standingAt_36
set_option maxHeartbeats 1000000 in
set_option maxRecDepth 100000 in
theorem c_Z_liveHaving_ok (l : Launch) (D : va_G) (t0 : Nat) (g : ZG) (z : ZT) (sz : Nat) (v : Int32) (hz : zOK z) : Met l y_Z_liveHaving w_Z_liveHaving ({ frames := 1, cells := 0, slots := 0, locals := 24 }) (zPre D t0 (zT g z) (zW t0 g z) sz [.ref (g_h g), .int v]) (va_Sq (fun r => r = zq_hv z v)) 0 0 (fun _ => False) := by
  refine Met.ofW (cc := c_Z_liveHaving) (maxL := 3) (ret := (some (.object "ZoneHeap$Block"))) (by decide) rfl ?_
  intro p e s m args below meth c s₁ B hml hv
  obtain ⟨rfl, hsz, hP, hK, hD0, hE⟩ := hv
  have hx := B.exec
  have hb := B.bytes
  have hr := B.returns
  have hts := atoms_spec (ws := w_Z_liveHaving) B.pre
  have hk : ∀ w ∈ zB, w.before _ s = true := fun w h => hts w (List.mem_cons_of_mem _ h)
  have hown : s.vm.findClass "ZoneHeap" = some m.cls := findClass_of_methodNamed B.named
  have hlocks := B.notSynchronized
  subst hsz
  have hD := hD0.self (sz := s.heap.size)
  generalize hAe : va_A (zW t0 g z) s.heap.size = A at hD hE
  have hA : ∀ q : Nat, s.heap.size ≤ q → A q := fun q h => by rw [← hAe]; exact Or.inr h
  have hS : va_S A s.heap s.heap [] := va_S.rf
  have hl := lv_entry ([.ref (g_h g), .int v]) (n := 3) (Nat.le_of_ble_eq_true rfl)
  rw [lg_entry_eq]
  generalize (lg_sl ([.ref (g_h g), .int v]) ++ List.replicate (3 - (lg_sl ([.ref (g_h g), .int v])).length) Slot.unset).toArray = ls at hl ⊢
  have hl : lv_has ls 3 [(0, .ref (g_h g)), (1, .int v)] := hl
  refine lv_iload_n hx hb d_Z_liveHaving_0 rfl (lv_at hl 1 rfl) ?_
  refine vp_callSi (zrS (n := 1) (As := [.int v]) (rest := []) ⟨hx, hb, hml, hown, hk⟩ (c_Z_isOctet_ok l D t0 (zT g z) (zW t0 g z) s.heap.size v) zk111 zk112 zk1 kc_Z_isOctet ⟨by decide, by decide, by decide⟩ rfl rfl ⟨Nat.le_of_ble_eq_true rfl, Nat.le_of_ble_eq_true rfl⟩ ⟨hP, hK, hD, hS, hA, hE⟩ rfl hl.1 rfl (Nat.le_of_ble_eq_true rfl) d_Z_liveHaving_1 ⟨Nat.le_of_ble_eq_true rfl, Nat.le_of_ble_eq_true rfl⟩).run (fun r hr => ?_)
  subst hr
  refine lv_if_ne (tgt := 9) hx hb d_Z_liveHaving_4 (by decide) (fun h => ?_) (fun h => ?_)
  rotate_left 1
  · rw [zh_zb] at h
    refine lv_null hx hb d_Z_liveHaving_7 ?_
    rcases hq : zq_at v with _ | x
    · exact W.aret (v := va_rf (none)) hx hb hr (Or.inl ⟨_, rfl⟩) (va_rf_or _) (fun t ht hW => ⟨none, rfl, by unfold zq_hv; rw [hq]; rfl, ht⟩) (fun q h => absurd h List.not_mem_nil) d_Z_liveHaving_8
    rw [hq] at h
    cases h
  rw [zh_zb] at h
  rcases hq : zq_at v with _ | x
  · rw [hq] at h
    exact absurd rfl h
  obtain ⟨hx8, rfl⟩ := zq_at_of hq
  refine lv_aload_n hx hb d_Z_liveHaving_9 rfl (lv_at hl 0 rfl) ?_
  refine va_get (D := D) (ci := 0) (v := .ref (g_aT g)) (C := RZ) (T := TZ) (N := 11) hx hb hk inZ hown hK hP 0 rfl rfl 1 (by decide) (hk _ zk57) (fun _ h9 => h9) rfl d_Z_liveHaving_10 ?_
  refine lv_iload_n hx hb d_Z_liveHaving_13 rfl (lv_at hl 1 rfl) ?_
  refine lv_bipush (v := nI 16) hx hb d_Z_liveHaving_14 (by decide) ?_
  refine lv_idiv hx hb d_Z_liveHaving_16 (by decide) ?_
  refine zh_t (show (nI x / nI 16) = nI (x / 16) from pk_div (by omega) (by decide) (by decide)) ?_
  refine va_aldq hx hb hK hP 2 1 rfl rfl (vp_in_nI (by omega) (by decide)) d_Z_liveHaving_17 ?_
  refine zh_v (show va_rf (z_tk z (nI (x / 16)).toNatClampNeg) = va_rf (z_tk z (x / 16)) from by rw [nI_clamp (by omega)]) ?_
  rcases zopt (z_tk z (x / 16)) with htk | ⟨a, htk⟩
  · refine zh_v (show va_rf (z_tk z (x / 16)) = .null from by rw [htk]; rfl) ?_
    refine lv_astore_nN (lv' := [(2, .null), (0, .ref (g_h g)), (1, .int (nI x))]) hx hb d_Z_liveHaving_18 rfl hl (by decide) rfl (fun ls hl => ?_)
    refine lv_aload_nN hx hb d_Z_liveHaving_19 rfl (lv_at hl 0 rfl) ?_
    refine lv_ifnullN (tgt := 42) hx hb d_Z_liveHaving_20 (by decide) ?_
    refine lv_null hx hb d_Z_liveHaving_42 ?_
    exact W.aret (v := va_rf (none)) hx hb hr (Or.inl ⟨_, rfl⟩) (va_rf_or _) (fun t ht hW => ⟨none, rfl, by unfold zq_hv; rw [hq]; show none = (z_tk z (x / 16)).bind _; rw [htk]; rfl, ht⟩) (fun q h => absurd h List.not_mem_nil) d_Z_liveHaving_43
  refine zh_v (show va_rf (z_tk z (x / 16)) = .ref a from by rw [htk]; rfl) ?_
  have ha : a ∈ z_LB z := hz.1 _ a (by omega) htk
  have hbk := hz.blk ha
  refine lv_astore_n (lv' := [(2, .ref a), (0, .ref (g_h g)), (1, .int (nI x))]) hx hb d_Z_liveHaving_18 rfl hl (by decide) rfl (fun ls hl => ?_)
  refine lv_aload_n hx hb d_Z_liveHaving_19 rfl (lv_at hl 0 rfl) ?_
  refine lv_ifnull hx hb d_Z_liveHaving_20 ?_
  refine lv_aload_n hx hb d_Z_liveHaving_23 rfl (lv_at hl 0 rfl) ?_
  obtain ⟨k9, hk9⟩ := zpool (t0 := t0) (g := g) (z := z) ha
  refine va_getN (D := D) (ci := 1) (v := .int (zb (z_kp z a))) (C := RB) (T := TB) (N := 4) hx hb hk inB hown hK hP k9 hk9 rfl 2 (by decide) (va_Nw.use rfl (hE.1.1 _ zn236)) (fun _ h9 => h9) rfl d_Z_liveHaving_24 ?_
  refine lv_if_ne (tgt := 42) hx hb d_Z_liveHaving_27 (by decide) (fun h => ?_) (fun h => ?_)
  · rw [zh_zb] at h
    refine lv_null hx hb d_Z_liveHaving_42 ?_
    exact W.aret (v := va_rf (none)) hx hb hr (Or.inl ⟨_, rfl⟩) (va_rf_or _) (fun t ht hW => ⟨none, rfl, by unfold zq_hv; rw [hq]; show none = (z_tk z (x / 16)).bind _; rw [htk]; show none = if z_kp z a = false ∧ z_bs z a ≤ x ∧ x < z_bs z a + z_bz z a then some a else none; rw [if_neg (fun q => h q.1)], ht⟩) (fun q h => absurd h List.not_mem_nil) d_Z_liveHaving_43
  rw [zh_zb] at h
  have hkp := h
  refine lv_aload_n hx hb d_Z_liveHaving_30 rfl (lv_at hl 0 rfl) ?_
  refine lv_iload_n hx hb d_Z_liveHaving_31 rfl (lv_at hl 2 rfl) ?_
  refine vp_callSi (zrVN (n := 1) (As := [.int (nI x)]) (rest := []) ⟨hx, hb, hml, hown, hk⟩ (c_B_has_ok l D t0 g z s.heap.size a x ha hz hx8) zn118 zk120 ks_B_has zk11 kc_B_has ⟨by decide, by decide, by decide⟩ rfl rfl ⟨Nat.le_of_ble_eq_true rfl, Nat.le_of_ble_eq_true rfl⟩ ⟨hP, hK, hD, hS, hA, hE⟩ (by obtain ⟨k9, hk9⟩ := zpool (t0 := t0) (g := g) (z := z) ha; exact va_recv hK hP (ci := 1) rfl hk9) rfl hl.1 rfl (Nat.le_of_ble_eq_true rfl) d_Z_liveHaving_32 ⟨Nat.le_of_ble_eq_true rfl, Nat.le_of_ble_eq_true rfl⟩).run (fun r hr => ?_)
  subst hr
  refine lv_if_eq (tgt := 42) hx hb d_Z_liveHaving_35 (by decide) (fun h => ?_) (fun h => ?_)
  · rw [zh_zb] at h
    refine lv_null hx hb d_Z_liveHaving_42 ?_
    exact W.aret (v := va_rf (none)) hx hb hr (Or.inl ⟨_, rfl⟩) (va_rf_or _) (fun t ht hW => ⟨none, rfl, by unfold zq_hv; rw [hq]; show none = (z_tk z (x / 16)).bind _; rw [htk]; show none = if z_kp z a = false ∧ z_bs z a ≤ x ∧ x < z_bs z a + z_bz z a then some a else none; rw [if_neg (fun q => (of_decide_eq_false h) q.2)], ht⟩) (fun q h => absurd h List.not_mem_nil) d_Z_liveHaving_43
  rw [zh_zb] at h
  refine lv_aload_n hx hb d_Z_liveHaving_38 rfl (lv_at hl 0 rfl) ?_
  refine lv_goto (tgt := 43) hx hb d_Z_liveHaving_39 (by decide) ?_
  exact W.aret (v := va_rf (some a)) hx hb hr (Or.inl ⟨_, rfl⟩) (va_rf_or _) (fun t ht hW => ⟨some a, rfl, by unfold zq_hv; rw [hq]; show some a = (z_tk z (x / 16)).bind _; rw [htk]; show some a = if z_kp z a = false ∧ z_bs z a ≤ x ∧ x < z_bs z a + z_bz z a then some a else none; rw [if_pos ⟨hkp, of_decide_eq_true (ts_nf h)⟩], ht⟩) (fun q h => absurd h List.not_mem_nil) d_Z_liveHaving_43
set_option maxHeartbeats 1000000 in
set_option maxRecDepth 100000 in
theorem c_Z_ledToBy_ok (l : Launch) (D : va_G) (t0 : Nat) (g : ZG) (z : ZT) (sz : Nat) (v : Int32) (hz : zOK z) : Met l y_Z_ledToBy w_Z_ledToBy ({ frames := 2, cells := 0, slots := 0, locals := 60 }) (zPre D t0 (zT g z) (zW t0 g z) sz [.ref (g_h g), .int v]) (va_Sq (fun r => r = zq_led z v)) 0 0 (fun _ => False) := by
  refine Met.ofW (cc := c_Z_ledToBy) (maxL := 3) (ret := (some (.object "ZoneHeap$Block"))) (by decide) rfl ?_
  intro p e s m args below meth c s₁ B hml hv
  obtain ⟨rfl, hsz, hP, hK, hD0, hE⟩ := hv
  have hx := B.exec
  have hb := B.bytes
  have hr0 := B.returns
  have hts := atoms_spec (ws := w_Z_ledToBy) B.pre
  have hk : ∀ w ∈ zB, w.before _ s = true := fun w h => hts w (List.mem_cons_of_mem _ h)
  have hown : s.vm.findClass "ZoneHeap" = some m.cls := findClass_of_methodNamed B.named
  have hlocks := B.notSynchronized
  subst hsz
  have hD := hD0.self (sz := s.heap.size)
  generalize hAe : va_A (zW t0 g z) s.heap.size = A at hD hE
  have hA : ∀ q : Nat, s.heap.size ≤ q → A q := fun q h => by rw [← hAe]; exact Or.inr h
  have hS : va_S A s.heap s.heap [] := va_S.rf
  have hl := lv_entry ([.ref (g_h g), .int v]) (n := 3) (Nat.le_of_ble_eq_true rfl)
  rw [lg_entry_eq]
  generalize (lg_sl ([.ref (g_h g), .int v]) ++ List.replicate (3 - (lg_sl ([.ref (g_h g), .int v])).length) Slot.unset).toArray = ls at hl ⊢
  have hl : lv_has ls 3 [(0, .ref (g_h g)), (1, .int v)] := hl
  refine lv_aload_n hx hb d_Z_ledToBy_0 rfl (lv_at hl 0 rfl) ?_
  refine lv_iload_n hx hb d_Z_ledToBy_1 rfl (lv_at hl 1 rfl) ?_
  refine va_csq (zrV (n := 1) (As := [.int v]) (rest := []) ⟨hx, hb, hml, hown, hk⟩ (c_Z_standingAt_ok l D t0 g z s.heap.size v hz) zk107 zk109 ks_Z_standingAt zk1 kc_Z_standingAt ⟨rfl, by decide, by decide, by decide⟩ rfl rfl ⟨Nat.le_of_ble_eq_true rfl, Nat.le_of_ble_eq_true rfl⟩ ⟨hP, hK, hD, hS, hA, hE⟩ (va_recv hK hP (ci := 0) (q0 := 0) rfl rfl) rfl hl.1 rfl (Nat.le_of_ble_eq_true rfl) d_Z_ledToBy_2 ⟨Nat.le_of_ble_eq_true rfl, Nat.le_of_ble_eq_true rfl⟩).run (fun r hr => ?_)
  rcases zopt (r) with hro | ⟨a, hro⟩
  · refine zh_v (show va_rf (r) = .null from by rw [hro]; rfl) ?_
    refine lv_astore_nN (lv' := [(2, .null), (0, .ref (g_h g)), (1, .int v)]) hx hb d_Z_ledToBy_5 rfl hl (by decide) rfl (fun ls hl => ?_)
    refine lv_aload_nN hx hb d_Z_ledToBy_6 rfl (lv_at hl 0 rfl) ?_
    refine lv_ifnullN (tgt := 19) hx hb d_Z_ledToBy_7 (by decide) ?_
    refine lv_aload_n hx hb d_Z_ledToBy_19 rfl (lv_at hl 1 rfl) ?_
    refine lv_iload_n hx hb d_Z_ledToBy_20 rfl (lv_at hl 2 rfl) ?_
    refine va_csq (zrV (n := 1) (As := [.int v]) (rest := []) ⟨hx, hb, hml, hown, hk⟩ (c_Z_liveHaving_ok l D t0 g z s.heap.size v hz) zk114 zk116 ks_Z_liveHaving zk1 kc_Z_liveHaving ⟨rfl, by decide, by decide, by decide⟩ rfl rfl ⟨Nat.le_of_ble_eq_true rfl, Nat.le_of_ble_eq_true rfl⟩ ⟨hP, hK, hD, hS, hA, hE⟩ (va_recv hK hP (ci := 0) (q0 := 0) rfl rfl) rfl hl.1 rfl (Nat.le_of_ble_eq_true rfl) d_Z_ledToBy_21 ⟨Nat.le_of_ble_eq_true rfl, Nat.le_of_ble_eq_true rfl⟩).run (fun r2 hr2 => ?_)
    exact W.aret hx hb hr0 (Or.inl ⟨_, rfl⟩) (va_rf_or _) (fun t ht hW => ⟨r2, rfl, by unfold zq_led; rw [← hr, hro]; exact hr2, ht⟩) (fun q h => absurd h List.not_mem_nil) d_Z_ledToBy_24
  refine zh_v (show va_rf (r) = .ref a from by rw [hro]; rfl) ?_
  have ha : a ∈ z_LB z := zq_st_in hz (by rw [← hr, hro])
  refine lv_astore_n (lv' := [(2, .ref a), (0, .ref (g_h g)), (1, .int v)]) hx hb d_Z_ledToBy_5 rfl hl (by decide) rfl (fun ls hl => ?_)
  refine lv_aload_n hx hb d_Z_ledToBy_6 rfl (lv_at hl 0 rfl) ?_
  refine lv_ifnull hx hb d_Z_ledToBy_7 ?_
  refine lv_aload_n hx hb d_Z_ledToBy_10 rfl (lv_at hl 0 rfl) ?_
  obtain ⟨k9, hk9⟩ := zpool (t0 := t0) (g := g) (z := z) ha
  refine va_getN (D := D) (ci := 1) (v := .int (zb (z_kp z a))) (C := RB) (T := TB) (N := 4) hx hb hk inB hown hK hP k9 hk9 rfl 2 (by decide) (va_Nw.use rfl (hE.1.1 _ zn236)) (fun _ h9 => h9) rfl d_Z_ledToBy_11 ?_
  refine lv_if_ne (tgt := 19) hx hb d_Z_ledToBy_14 (by decide) (fun h => ?_) (fun h => ?_)
  · rw [zh_zb] at h
    refine lv_aload_n hx hb d_Z_ledToBy_19 rfl (lv_at hl 1 rfl) ?_
    refine lv_iload_n hx hb d_Z_ledToBy_20 rfl (lv_at hl 2 rfl) ?_
    refine va_csq (zrV (n := 1) (As := [.int v]) (rest := []) ⟨hx, hb, hml, hown, hk⟩ (c_Z_liveHaving_ok l D t0 g z s.heap.size v hz) zk114 zk116 ks_Z_liveHaving zk1 kc_Z_liveHaving ⟨rfl, by decide, by decide, by decide⟩ rfl rfl ⟨Nat.le_of_ble_eq_true rfl, Nat.le_of_ble_eq_true rfl⟩ ⟨hP, hK, hD, hS, hA, hE⟩ (va_recv hK hP (ci := 0) (q0 := 0) rfl rfl) rfl hl.1 rfl (Nat.le_of_ble_eq_true rfl) d_Z_ledToBy_21 ⟨Nat.le_of_ble_eq_true rfl, Nat.le_of_ble_eq_true rfl⟩).run (fun r2 hr2 => ?_)
    exact W.aret hx hb hr0 (Or.inl ⟨_, rfl⟩) (va_rf_or _) (fun t ht hW => ⟨r2, rfl, by unfold zq_led; rw [← hr, hro]; show r2 = if z_kp z a = false then some a else zq_hv z v; rw [if_neg h]; exact hr2, ht⟩) (fun q h => absurd h List.not_mem_nil) d_Z_ledToBy_24
  rw [zh_zb] at h
  refine lv_aload_n hx hb d_Z_ledToBy_17 rfl (lv_at hl 0 rfl) ?_
  exact W.aret (v := va_rf (some a)) hx hb hr0 (Or.inl ⟨_, rfl⟩) (va_rf_or _) (fun t ht hW => ⟨some a, rfl, by unfold zq_led; rw [← hr, hro]; show some a = if z_kp z a = false then some a else zq_hv z v; rw [if_pos h], ht⟩) (fun q h => absurd h List.not_mem_nil) d_Z_ledToBy_18
set_option maxHeartbeats 1000000 in
set_option maxRecDepth 100000 in
theorem c_Z_wordAt_ok (l : Launch) (D : va_G) (t0 : Nat) (g : ZG) (z : ZT) (sz : Nat) (x : Nat) (hz : zOK z) (hx4 : x + 4 ≤ 8192) : Met l y_Z_wordAt w_Z_wordAt ({ frames := 0, cells := 0, slots := 0, locals := 0 }) (zPre D t0 (zT g z) (zW t0 g z) sz [.ref (g_h g), .int (nI x)]) (vp_Si (fun r => r = nI (zwd (z_oct z) x))) 0 0 (fun _ => False) := by
  refine Met.ofW (cc := c_Z_wordAt) (maxL := 4) (ret := (some .int)) (by decide) rfl ?_
  intro p e s m args below meth c s₁ B hml hv
  obtain ⟨rfl, hsz, hP, hK, hD0, hE⟩ := hv
  have hx := B.exec
  have hb := B.bytes
  have hr := B.returns
  have hts := atoms_spec (ws := w_Z_wordAt) B.pre
  have hk : ∀ w ∈ zB, w.before _ s = true := fun w h => hts w (List.mem_cons_of_mem _ h)
  have hown : s.vm.findClass "ZoneHeap" = some m.cls := findClass_of_methodNamed B.named
  have hlocks := B.notSynchronized
  subst hsz
  have hD := hD0.self (sz := s.heap.size)
  generalize hAe : va_A (zW t0 g z) s.heap.size = A at hD hE
  have hA : ∀ q : Nat, s.heap.size ≤ q → A q := fun q h => by rw [← hAe]; exact Or.inr h
  have hS : va_S A s.heap s.heap [] := va_S.rf
  have hl := lv_entry ([.ref (g_h g), .int (nI x)]) (n := 4) (Nat.le_of_ble_eq_true rfl)
  rw [lg_entry_eq]
  generalize (lg_sl ([.ref (g_h g), .int (nI x)]) ++ List.replicate (4 - (lg_sl ([.ref (g_h g), .int (nI x)])).length) Slot.unset).toArray = ls at hl ⊢
  have hl : lv_has ls 4 [(0, .ref (g_h g)), (1, .int (nI x))] := hl
  refine lv_iconst (v := nI 0) hx hb d_Z_wordAt_0 (by decide) ?_
  refine lv_istore_n (lv' := [(2, .int (nI 0)), (0, .ref (g_h g)), (1, .int (nI x))]) hx hb d_Z_wordAt_1 rfl hl (by decide) rfl (fun ls hl => ?_)
  refine lv_iconst (v := nI 0) hx hb d_Z_wordAt_2 (by decide) ?_
  refine lv_istore_n (lv' := [(3, .int (nI 0)), (2, .int (nI 0)), (0, .ref (g_h g)), (1, .int (nI x))]) hx hb d_Z_wordAt_3 rfl hl (by decide) rfl (fun ls hl => ?_)
  refine lv_iload_n hx hb d_Z_wordAt_4 rfl (lv_at hl 0 rfl) ?_
  refine lv_iconst (v := nI 4) hx hb d_Z_wordAt_5 (by decide) ?_
  refine lv_icmp_ge (tgt := 35) hx hb d_Z_wordAt_6 (by decide) (fun h => ?_) (fun h => ?_)
  · rw [nI_leI (by omega) (by omega)] at h
    exact absurd h (by omega)
  rw [nI_leI (by omega) (by omega)] at h
  refine lv_iload_n hx hb d_Z_wordAt_9 rfl (lv_at hl 1 rfl) ?_
  refine lv_aload_n hx hb d_Z_wordAt_10 rfl (lv_at hl 2 rfl) ?_
  refine va_get (D := D) (ci := 0) (v := .ref (g_aO g)) (C := RZ) (T := TZ) (N := 11) hx hb hk inZ hown hK hP 0 rfl rfl 0 (by decide) (hk _ zk56) (fun _ h9 => h9) rfl d_Z_wordAt_11 ?_
  refine lv_iload_n hx hb d_Z_wordAt_14 rfl (lv_at hl 3 rfl) ?_
  refine lv_iload_n hx hb d_Z_wordAt_15 rfl (lv_at hl 0 rfl) ?_
  refine lv_iadd hx hb d_Z_wordAt_16 ?_
  refine zh_t (show (nI x + nI 0) = nI (x + 0) from nI_add _ _) ?_
  refine va_bald hx hb hK hP 1 0 rfl rfl (vp_in_nI (by omega) (by decide)) d_Z_wordAt_17 ?_
  refine zh_t (show sb_b (z_oct z (nI (x + 0)).toNatClampNeg) = (sb_b (z_oct z (x + 0))) from by rw [nI_clamp (by omega)]) ?_
  refine lv_sipush (v := nI 255) hx hb d_Z_wordAt_18 (by decide) ?_
  refine lv_iand hx hb d_Z_wordAt_21 ?_
  refine lv_bipush (v := nI 8) hx hb d_Z_wordAt_22 (by decide) ?_
  refine lv_iload_n hx hb d_Z_wordAt_24 rfl (lv_at hl 0 rfl) ?_
  refine lv_imul hx hb d_Z_wordAt_25 ?_
  refine zh_t (show (nI 8 * nI 0) = nI (8 * 0) from pk_mul _ _) ?_
  refine lv_ishl hx hb d_Z_wordAt_26 ?_
  refine lv_ior hx hb d_Z_wordAt_27 ?_
  refine lv_topi (fun w0 ew0 => ?_)
  refine lv_istore_n (lv' := [(2, .int w0), (3, .int (nI 0)), (0, .ref (g_h g)), (1, .int (nI x))]) hx hb d_Z_wordAt_28 rfl hl (by decide) rfl (fun ls hl => ?_)
  refine lv_iinc (lv' := [(3, .int (nI (0 + 1))), (2, .int w0), (0, .ref (g_h g)), (1, .int (nI x))]) (v := nI (0 + 1)) hx hb d_Z_wordAt_29 hl (k := 1) rfl (nI_add _ _) (by decide) rfl (fun ls hl => ?_)
  have hl : lv_has ls 4 [(3, .int (nI 1)), (2, .int w0), (0, .ref (g_h g)), (1, .int (nI x))] := hl
  refine lv_goto (tgt := 4) hx hb d_Z_wordAt_32 (by decide) ?_
  refine lv_iload_n hx hb d_Z_wordAt_4 rfl (lv_at hl 0 rfl) ?_
  refine lv_iconst (v := nI 4) hx hb d_Z_wordAt_5 (by decide) ?_
  refine lv_icmp_ge (tgt := 35) hx hb d_Z_wordAt_6 (by decide) (fun h => ?_) (fun h => ?_)
  · rw [nI_leI (by omega) (by omega)] at h
    exact absurd h (by omega)
  rw [nI_leI (by omega) (by omega)] at h
  refine lv_iload_n hx hb d_Z_wordAt_9 rfl (lv_at hl 1 rfl) ?_
  refine lv_aload_n hx hb d_Z_wordAt_10 rfl (lv_at hl 2 rfl) ?_
  refine va_get (D := D) (ci := 0) (v := .ref (g_aO g)) (C := RZ) (T := TZ) (N := 11) hx hb hk inZ hown hK hP 0 rfl rfl 0 (by decide) (hk _ zk56) (fun _ h9 => h9) rfl d_Z_wordAt_11 ?_
  refine lv_iload_n hx hb d_Z_wordAt_14 rfl (lv_at hl 3 rfl) ?_
  refine lv_iload_n hx hb d_Z_wordAt_15 rfl (lv_at hl 0 rfl) ?_
  refine lv_iadd hx hb d_Z_wordAt_16 ?_
  refine zh_t (show (nI x + nI 1) = nI (x + 1) from nI_add _ _) ?_
  refine va_bald hx hb hK hP 1 0 rfl rfl (vp_in_nI (by omega) (by decide)) d_Z_wordAt_17 ?_
  refine zh_t (show sb_b (z_oct z (nI (x + 1)).toNatClampNeg) = (sb_b (z_oct z (x + 1))) from by rw [nI_clamp (by omega)]) ?_
  refine lv_sipush (v := nI 255) hx hb d_Z_wordAt_18 (by decide) ?_
  refine lv_iand hx hb d_Z_wordAt_21 ?_
  refine lv_bipush (v := nI 8) hx hb d_Z_wordAt_22 (by decide) ?_
  refine lv_iload_n hx hb d_Z_wordAt_24 rfl (lv_at hl 0 rfl) ?_
  refine lv_imul hx hb d_Z_wordAt_25 ?_
  refine zh_t (show (nI 8 * nI 1) = nI (8 * 1) from pk_mul _ _) ?_
  refine lv_ishl hx hb d_Z_wordAt_26 ?_
  refine lv_ior hx hb d_Z_wordAt_27 ?_
  refine lv_topi (fun w1 ew1 => ?_)
  refine lv_istore_n (lv' := [(2, .int w1), (3, .int (nI 1)), (0, .ref (g_h g)), (1, .int (nI x))]) hx hb d_Z_wordAt_28 rfl hl (by decide) rfl (fun ls hl => ?_)
  refine lv_iinc (lv' := [(3, .int (nI (1 + 1))), (2, .int w1), (0, .ref (g_h g)), (1, .int (nI x))]) (v := nI (1 + 1)) hx hb d_Z_wordAt_29 hl (k := 1) rfl (nI_add _ _) (by decide) rfl (fun ls hl => ?_)
  have hl : lv_has ls 4 [(3, .int (nI 2)), (2, .int w1), (0, .ref (g_h g)), (1, .int (nI x))] := hl
  refine lv_goto (tgt := 4) hx hb d_Z_wordAt_32 (by decide) ?_
  refine lv_iload_n hx hb d_Z_wordAt_4 rfl (lv_at hl 0 rfl) ?_
  refine lv_iconst (v := nI 4) hx hb d_Z_wordAt_5 (by decide) ?_
  refine lv_icmp_ge (tgt := 35) hx hb d_Z_wordAt_6 (by decide) (fun h => ?_) (fun h => ?_)
  · rw [nI_leI (by omega) (by omega)] at h
    exact absurd h (by omega)
  rw [nI_leI (by omega) (by omega)] at h
  refine lv_iload_n hx hb d_Z_wordAt_9 rfl (lv_at hl 1 rfl) ?_
  refine lv_aload_n hx hb d_Z_wordAt_10 rfl (lv_at hl 2 rfl) ?_
  refine va_get (D := D) (ci := 0) (v := .ref (g_aO g)) (C := RZ) (T := TZ) (N := 11) hx hb hk inZ hown hK hP 0 rfl rfl 0 (by decide) (hk _ zk56) (fun _ h9 => h9) rfl d_Z_wordAt_11 ?_
  refine lv_iload_n hx hb d_Z_wordAt_14 rfl (lv_at hl 3 rfl) ?_
  refine lv_iload_n hx hb d_Z_wordAt_15 rfl (lv_at hl 0 rfl) ?_
  refine lv_iadd hx hb d_Z_wordAt_16 ?_
  refine zh_t (show (nI x + nI 2) = nI (x + 2) from nI_add _ _) ?_
  refine va_bald hx hb hK hP 1 0 rfl rfl (vp_in_nI (by omega) (by decide)) d_Z_wordAt_17 ?_
  refine zh_t (show sb_b (z_oct z (nI (x + 2)).toNatClampNeg) = (sb_b (z_oct z (x + 2))) from by rw [nI_clamp (by omega)]) ?_
  refine lv_sipush (v := nI 255) hx hb d_Z_wordAt_18 (by decide) ?_
  refine lv_iand hx hb d_Z_wordAt_21 ?_
  refine lv_bipush (v := nI 8) hx hb d_Z_wordAt_22 (by decide) ?_
  refine lv_iload_n hx hb d_Z_wordAt_24 rfl (lv_at hl 0 rfl) ?_
  refine lv_imul hx hb d_Z_wordAt_25 ?_
  refine zh_t (show (nI 8 * nI 2) = nI (8 * 2) from pk_mul _ _) ?_
  refine lv_ishl hx hb d_Z_wordAt_26 ?_
  refine lv_ior hx hb d_Z_wordAt_27 ?_
  refine lv_topi (fun w2 ew2 => ?_)
  refine lv_istore_n (lv' := [(2, .int w2), (3, .int (nI 2)), (0, .ref (g_h g)), (1, .int (nI x))]) hx hb d_Z_wordAt_28 rfl hl (by decide) rfl (fun ls hl => ?_)
  refine lv_iinc (lv' := [(3, .int (nI (2 + 1))), (2, .int w2), (0, .ref (g_h g)), (1, .int (nI x))]) (v := nI (2 + 1)) hx hb d_Z_wordAt_29 hl (k := 1) rfl (nI_add _ _) (by decide) rfl (fun ls hl => ?_)
  have hl : lv_has ls 4 [(3, .int (nI 3)), (2, .int w2), (0, .ref (g_h g)), (1, .int (nI x))] := hl
  refine lv_goto (tgt := 4) hx hb d_Z_wordAt_32 (by decide) ?_
  refine lv_iload_n hx hb d_Z_wordAt_4 rfl (lv_at hl 0 rfl) ?_
  refine lv_iconst (v := nI 4) hx hb d_Z_wordAt_5 (by decide) ?_
  refine lv_icmp_ge (tgt := 35) hx hb d_Z_wordAt_6 (by decide) (fun h => ?_) (fun h => ?_)
  · rw [nI_leI (by omega) (by omega)] at h
    exact absurd h (by omega)
  rw [nI_leI (by omega) (by omega)] at h
  refine lv_iload_n hx hb d_Z_wordAt_9 rfl (lv_at hl 1 rfl) ?_
  refine lv_aload_n hx hb d_Z_wordAt_10 rfl (lv_at hl 2 rfl) ?_
  refine va_get (D := D) (ci := 0) (v := .ref (g_aO g)) (C := RZ) (T := TZ) (N := 11) hx hb hk inZ hown hK hP 0 rfl rfl 0 (by decide) (hk _ zk56) (fun _ h9 => h9) rfl d_Z_wordAt_11 ?_
  refine lv_iload_n hx hb d_Z_wordAt_14 rfl (lv_at hl 3 rfl) ?_
  refine lv_iload_n hx hb d_Z_wordAt_15 rfl (lv_at hl 0 rfl) ?_
  refine lv_iadd hx hb d_Z_wordAt_16 ?_
  refine zh_t (show (nI x + nI 3) = nI (x + 3) from nI_add _ _) ?_
  refine va_bald hx hb hK hP 1 0 rfl rfl (vp_in_nI (by omega) (by decide)) d_Z_wordAt_17 ?_
  refine zh_t (show sb_b (z_oct z (nI (x + 3)).toNatClampNeg) = (sb_b (z_oct z (x + 3))) from by rw [nI_clamp (by omega)]) ?_
  refine lv_sipush (v := nI 255) hx hb d_Z_wordAt_18 (by decide) ?_
  refine lv_iand hx hb d_Z_wordAt_21 ?_
  refine lv_bipush (v := nI 8) hx hb d_Z_wordAt_22 (by decide) ?_
  refine lv_iload_n hx hb d_Z_wordAt_24 rfl (lv_at hl 0 rfl) ?_
  refine lv_imul hx hb d_Z_wordAt_25 ?_
  refine zh_t (show (nI 8 * nI 3) = nI (8 * 3) from pk_mul _ _) ?_
  refine lv_ishl hx hb d_Z_wordAt_26 ?_
  refine lv_ior hx hb d_Z_wordAt_27 ?_
  refine lv_topi (fun w3 ew3 => ?_)
  refine lv_istore_n (lv' := [(2, .int w3), (3, .int (nI 3)), (0, .ref (g_h g)), (1, .int (nI x))]) hx hb d_Z_wordAt_28 rfl hl (by decide) rfl (fun ls hl => ?_)
  refine lv_iinc (lv' := [(3, .int (nI (3 + 1))), (2, .int w3), (0, .ref (g_h g)), (1, .int (nI x))]) (v := nI (3 + 1)) hx hb d_Z_wordAt_29 hl (k := 1) rfl (nI_add _ _) (by decide) rfl (fun ls hl => ?_)
  have hl : lv_has ls 4 [(3, .int (nI 4)), (2, .int w3), (0, .ref (g_h g)), (1, .int (nI x))] := hl
  refine lv_goto (tgt := 4) hx hb d_Z_wordAt_32 (by decide) ?_
  refine lv_iload_n hx hb d_Z_wordAt_4 rfl (lv_at hl 0 rfl) ?_
  refine lv_iconst (v := nI 4) hx hb d_Z_wordAt_5 (by decide) ?_
  refine lv_icmp_ge (tgt := 35) hx hb d_Z_wordAt_6 (by decide) (fun h => ?_) (fun h => ?_)
  rotate_left 1
  · rw [nI_leI (by omega) (by omega)] at h
    exact absurd h (by omega)
  rw [nI_leI (by omega) (by omega)] at h
  refine lv_iload_n hx hb d_Z_wordAt_35 rfl (lv_at hl 1 rfl) ?_
  exact W.iret hx hb hr (fun t ht hW => ⟨_, rfl, by rw [ew3, ew2, ew1, ew0]; exact zh_word (hz.2.2.1 _) (hz.2.2.1 _) (hz.2.2.1 _) (hz.2.2.1 _), ht⟩) (fun q h => absurd h List.not_mem_nil) d_Z_wordAt_36
end
section
set_option maxHeartbeats 1000000 in
set_option maxRecDepth 100000 in
theorem c_Z_firstRoomFor_ok (l : Launch) (D : va_G) (t0 : Nat) (g : ZG) (z : ZT) (sz : Nat) (d : Nat) (hd : d ≤ 128) : Met l y_Z_firstRoomFor w_Z_firstRoomFor ({ frames := 0, cells := 0, slots := 0, locals := 0 }) (zPre D t0 (zT g z) (zW t0 g z) sz [.ref (g_h g), .int (nI d)]) (vp_Si (fun r => ∃ k : Nat, zr_room (zt_gap (z_tk z) d) d k ∧ r = if k = 0 then -1 else nI k)) 0 0 (fun _ => False) := by
  refine Met.ofW (cc := c_Z_firstRoomFor) (maxL := 4) (ret := (some .int)) (by decide) rfl ?_
  intro p e s m args below meth c s₁ B hml hv
  obtain ⟨rfl, hsz, hP, hK, hD0, hE⟩ := hv
  have hx := B.exec
  have hb := B.bytes
  have hr := B.returns
  have hts := atoms_spec (ws := w_Z_firstRoomFor) B.pre
  have hk : ∀ w ∈ zB, w.before _ s = true := fun w h => hts w (List.mem_cons_of_mem _ h)
  have hown : s.vm.findClass "ZoneHeap" = some m.cls := findClass_of_methodNamed B.named
  have hlocks := B.notSynchronized
  subst hsz
  have hD := hD0.self (sz := s.heap.size)
  generalize hAe : va_A (zW t0 g z) s.heap.size = A at hD hE
  have hA : ∀ q : Nat, s.heap.size ≤ q → A q := fun q h => by rw [← hAe]; exact Or.inr h
  have hS : va_S A s.heap s.heap [] := va_S.rf
  have hl := lv_entry ([.ref (g_h g), .int (nI d)]) (n := 4) (Nat.le_of_ble_eq_true rfl)
  rw [lg_entry_eq]
  generalize (lg_sl ([.ref (g_h g), .int (nI d)]) ++ List.replicate (4 - (lg_sl ([.ref (g_h g), .int (nI d)])).length) Slot.unset).toArray = ls at hl ⊢
  have hl : lv_has ls 4 [(0, .ref (g_h g)), (1, .int (nI d))] := hl
  refine lv_iconst (v := nI 0) hx hb d_Z_firstRoomFor_0 (by decide) ?_
  refine lv_istore_n (lv' := [(2, .int (nI 0)), (0, .ref (g_h g)), (1, .int (nI d))]) hx hb d_Z_firstRoomFor_1 rfl hl (by decide) rfl (fun ls hl => ?_)
  refine lv_iconst (v := nI 0) hx hb d_Z_firstRoomFor_2 (by decide) ?_
  refine lv_istore_n (lv' := [(3, .int (nI 0)), (2, .int (nI 0)), (0, .ref (g_h g)), (1, .int (nI d))]) hx hb d_Z_firstRoomFor_3 rfl hl (by decide) rfl (fun ls hl => ?_)
  refine zh_loop0 (A := Nat × Nat) (fun q ls => lv_has ls 4 [(0, .ref (g_h g)), (1, .int (nI d)), (2, .int (nI q.2)), (3, .int (nI q.1))] ∧ q.1 ≤ 512 ∧ q.2 < d + 2 ∧ zt_run (z_tk z) q.1 q.2 ∧ ∀ c : Nat, 1 ≤ c → c + d < q.1 → ¬ zt_gap (z_tk z) d c) (fun q => 512 - q.1) ?_ (0, 0) ⟨lv_sub hl [2, 3, 1, 0] rfl, by dsimp only; omega, by dsimp only; omega, zt_run0, fun c h1 h2 => by dsimp only at h2; omega⟩
  rintro ⟨i, u⟩ ls ⟨hl, hi, hu, hrun, hno⟩ ih
  have hl : lv_has ls 4 [(0, .ref (g_h g)), (1, .int (nI d)), (2, .int (nI u)), (3, .int (nI i))] := hl
  have hi : i ≤ 512 := hi
  have hu : u < d + 2 := hu
  have hrun : zt_run (z_tk z) i u := hrun
  have hno : ∀ c : Nat, 1 ≤ c → c + d < i → ¬ zt_gap (z_tk z) d c := hno
  refine lv_iload_n hx hb d_Z_firstRoomFor_4 rfl (lv_at hl 3 rfl) ?_
  refine lv_sipush (v := nI 512) hx hb d_Z_firstRoomFor_5 (by decide) ?_
  refine lv_icmp_ge (tgt := 45) hx hb d_Z_firstRoomFor_8 (by decide) (fun h => ?_) (fun h => ?_)
  · rw [nI_leI (by omega) (by omega)] at h
    refine lv_iconst (v := ((-1))) hx hb d_Z_firstRoomFor_45 (by decide) ?_
    exact W.iret hx hb hr (fun t ht hW => ⟨_, rfl, ⟨0, Or.inl ⟨rfl, fun c q1 q2 => hno c q1 (by omega)⟩, rfl⟩, ht⟩) (fun q h => absurd h List.not_mem_nil) d_Z_firstRoomFor_46
  rw [nI_leI (by omega) (by omega)] at h
  refine lv_aload_n hx hb d_Z_firstRoomFor_11 rfl (lv_at hl 0 rfl) ?_
  refine va_get (D := D) (ci := 0) (v := .ref (g_aT g)) (C := RZ) (T := TZ) (N := 11) hx hb hk inZ hown hK hP 0 rfl rfl 1 (by decide) (hk _ zk57) (fun _ h9 => h9) rfl d_Z_firstRoomFor_12 ?_
  refine lv_iload_n hx hb d_Z_firstRoomFor_15 rfl (lv_at hl 3 rfl) ?_
  refine va_aldq hx hb hK hP 2 1 rfl rfl (vp_in_nI (by omega) (by decide)) d_Z_firstRoomFor_16 ?_
  refine zh_v (show va_rf (z_tk z (nI i).toNatClampNeg) = va_rf (z_tk z i) from by rw [nI_clamp (by omega)]) ?_
  rcases zopt (z_tk z i) with htk | ⟨a, htk⟩
  · refine zh_v (show va_rf (z_tk z i) = .null from by rw [htk]; rfl) ?_
    refine lv_ifnonnullN hx hb d_Z_firstRoomFor_17 ?_
    refine lv_iload_n hx hb d_Z_firstRoomFor_20 rfl (lv_at hl 2 rfl) ?_
    refine lv_iconst (v := nI 1) hx hb d_Z_firstRoomFor_21 (by decide) ?_
    refine lv_iadd hx hb d_Z_firstRoomFor_22 ?_
    refine zh_t (show (nI u + nI 1) = nI (u + 1) from nI_add _ _) ?_
    refine lv_goto (tgt := 27) hx hb d_Z_firstRoomFor_23 (by decide) ?_
    refine lv_istore_n (lv' := [(2, .int (nI (u + 1))), (0, .ref (g_h g)), (1, .int (nI d)), (3, .int (nI i))]) hx hb d_Z_firstRoomFor_27 rfl hl (by decide) rfl (fun ls hl => ?_)
    have hr2 := zt_run_free hrun htk
    refine lv_iload_n hx hb d_Z_firstRoomFor_28 rfl (lv_at hl 0 rfl) ?_
    refine lv_iload_n hx hb d_Z_firstRoomFor_29 rfl (lv_at hl 2 rfl) ?_
    refine lv_iconst (v := nI 2) hx hb d_Z_firstRoomFor_30 (by decide) ?_
    refine lv_iadd hx hb d_Z_firstRoomFor_31 ?_
    refine zh_t (show (nI d + nI 2) = nI (d + 2) from nI_add _ _) ?_
    refine lv_icmp_ne (tgt := 39) hx hb d_Z_firstRoomFor_32 (by decide) (fun h => ?_) (fun h => ?_)
    · rw [nI_eq (by omega) (by omega)] at h
      refine lv_iinc (lv' := [(3, .int (nI (i + 1))), (2, .int (nI (u + 1))), (0, .ref (g_h g)), (1, .int (nI d))]) (v := nI (i + 1)) hx hb d_Z_firstRoomFor_39 hl (k := 3) rfl (nI_add _ _) (by decide) rfl (fun ls hl => ?_)
      refine lv_goto (tgt := 4) hx hb d_Z_firstRoomFor_42 (by decide) ?_
      exact ih (i + 1, u + 1) ls ⟨lv_sub hl [2, 3, 1, 0] rfl, by dsimp only; omega, by dsimp only; omega, hr2, zt_run_no hr2 (by omega) hno⟩ (by show _ < _; (try dsimp only); omega)
    rw [nI_eq (by omega) (by omega)] at h
    refine lv_iload_n hx hb d_Z_firstRoomFor_35 rfl (lv_at hl 3 rfl) ?_
    refine lv_iload_n hx hb d_Z_firstRoomFor_36 rfl (lv_at hl 2 rfl) ?_
    refine lv_isub hx hb d_Z_firstRoomFor_37 ?_
    refine zh_t (show (nI i - nI d) = nI (i - d) from pk_sub (by (have := hr2.1; omega))) ?_
    exact W.iret hx hb hr (fun t ht hW => ⟨_, rfl, ⟨i - d, by have e9 : u + 1 = d + 2 := h; rw [e9] at hr2; exact zt_run_yes hr2 (by omega) hno, by rw [if_neg (by have := hr2.1; omega)]⟩, ht⟩) (fun q h => absurd h List.not_mem_nil) d_Z_firstRoomFor_38
  refine zh_v (show va_rf (z_tk z i) = .ref a from by rw [htk]; rfl) ?_
  refine lv_ifnonnull (tgt := 26) hx hb d_Z_firstRoomFor_17 (by decide) ?_
  refine lv_iconst (v := nI 0) hx hb d_Z_firstRoomFor_26 (by decide) ?_
  refine lv_istore_n (lv' := [(2, .int (nI 0)), (0, .ref (g_h g)), (1, .int (nI d)), (3, .int (nI i))]) hx hb d_Z_firstRoomFor_27 rfl hl (by decide) rfl (fun ls hl => ?_)
  have hr2 := zt_run_hit (tk := z_tk z) (i := i) (by rw [htk]; intro q; cases q)
  refine lv_iload_n hx hb d_Z_firstRoomFor_28 rfl (lv_at hl 0 rfl) ?_
  refine lv_iload_n hx hb d_Z_firstRoomFor_29 rfl (lv_at hl 2 rfl) ?_
  refine lv_iconst (v := nI 2) hx hb d_Z_firstRoomFor_30 (by decide) ?_
  refine lv_iadd hx hb d_Z_firstRoomFor_31 ?_
  refine zh_t (show (nI d + nI 2) = nI (d + 2) from nI_add _ _) ?_
  refine lv_icmp_ne (tgt := 39) hx hb d_Z_firstRoomFor_32 (by decide) (fun h => ?_) (fun h => ?_)
  rotate_left 1
  · rw [nI_eq (by omega) (by omega)] at h
    exact absurd h (by omega)
  rw [nI_eq (by omega) (by omega)] at h
  refine lv_iinc (lv' := [(3, .int (nI (i + 1))), (2, .int (nI 0)), (0, .ref (g_h g)), (1, .int (nI d))]) (v := nI (i + 1)) hx hb d_Z_firstRoomFor_39 hl (k := 3) rfl (nI_add _ _) (by decide) rfl (fun ls hl => ?_)
  refine lv_goto (tgt := 4) hx hb d_Z_firstRoomFor_42 (by decide) ?_
  exact ih (i + 1, 0) ls ⟨lv_sub hl [2, 3, 1, 0] rfl, by dsimp only; omega, by dsimp only; omega, hr2, zt_run_no hr2 (by omega) hno⟩ (by show _ < _; (try dsimp only); omega)
end
section
-- the pool of blocks: a field set, a block more; calls that leave another world
theorem zF_rc {z : ZT} {a : Nat} {v : Bool} : va_up (zF z) a (.inr (1, ([.int (nI (z_bs z a)), .int (nI (z_bz z a)), .int (zb (z_kp z a)), .int (zb (z_rc z a))] : List Value).set 3 (.int (zb v)))) = zF (zu_rc z (va_up (z_rc z) a v)) := by
  funext b
  by_cases e : b = a
  · subst e
    rw [va_up_self]
    unfold zF
    show (Sum.inr (1, [Value.int (nI (z_bs z b)), Value.int (nI (z_bz z b)), Value.int (zb (z_kp z b)), Value.int (zb v)]) : va_E) = Sum.inr (1, [Value.int (nI (z_bs z b)), Value.int (nI (z_bz z b)), Value.int (zb (z_kp z b)), Value.int (zb (va_up (z_rc z) b v b))])
    rw [va_up_self]
  · rw [va_up_ne _ _ e]
    unfold zF
    show (Sum.inr (1, [Value.int (nI (z_bs z b)), Value.int (nI (z_bz z b)), Value.int (zb (z_kp z b)), Value.int (zb (z_rc z b))]) : va_E) = Sum.inr (1, [Value.int (nI (z_bs z b)), Value.int (nI (z_bz z b)), Value.int (zb (z_kp z b)), Value.int (zb (va_up (z_rc z) a v b))])
    rw [va_up_ne _ _ e]
theorem zF_kp {z : ZT} {a : Nat} {v : Bool} : va_up (zF z) a (.inr (1, ([.int (nI (z_bs z a)), .int (nI (z_bz z a)), .int (zb (z_kp z a)), .int (zb (z_rc z a))] : List Value).set 2 (.int (zb v)))) = zF (zu_kp z (va_up (z_kp z) a v)) := by
  funext b
  by_cases e : b = a
  · subst e
    rw [va_up_self]
    unfold zF
    show (Sum.inr (1, [Value.int (nI (z_bs z b)), Value.int (nI (z_bz z b)), Value.int (zb v), Value.int (zb (z_rc z b))]) : va_E) = Sum.inr (1, [Value.int (nI (z_bs z b)), Value.int (nI (z_bz z b)), Value.int (zb (va_up (z_kp z) b v b)), Value.int (zb (z_rc z b))])
    rw [va_up_self]
  · rw [va_up_ne _ _ e]
    unfold zF
    show (Sum.inr (1, [Value.int (nI (z_bs z b)), Value.int (nI (z_bz z b)), Value.int (zb (z_kp z b)), Value.int (zb (z_rc z b))]) : va_E) = Sum.inr (1, [Value.int (nI (z_bs z b)), Value.int (nI (z_bz z b)), Value.int (zb (va_up (z_kp z) a v b)), Value.int (zb (z_rc z b))])
    rw [va_up_ne _ _ e]
theorem zset_rc {A : Nat → Prop} {t0 : Nat} {g : ZG} {z : ZT} {a k : Nat} {v : Bool} (hD : va_D A (zW t0 g z)) (h : a ∈ z_LB z) (hk : (zW t0 g z)[k]? = some (a, zF z a)) :
    (zW t0 g z).set k (a, .inr (1, ([.int (nI (z_bs z a)), .int (nI (z_bz z a)), .int (zb (z_kp z a)), .int (zb (z_rc z a))] : List Value).set 3 (.int (zb v)))) = zW t0 g (zu_rc z (va_up (z_rc z) a v)) := by
  unfold zW at hD hk
  show ((zX t0 g z ++ zwe z) ++ va_pl (z_LB z) (zF z)).set k _ = (zX t0 g z ++ zwe z) ++ va_pl (z_LB z) (zF (zu_rc z (va_up (z_rc z) a v)))
  rw [va_pl_set hD h hk, zF_rc]
theorem zset_kp {A : Nat → Prop} {t0 : Nat} {g : ZG} {z : ZT} {a k : Nat} {v : Bool} (hD : va_D A (zW t0 g z)) (h : a ∈ z_LB z) (hk : (zW t0 g z)[k]? = some (a, zF z a)) :
    (zW t0 g z).set k (a, .inr (1, ([.int (nI (z_bs z a)), .int (nI (z_bz z a)), .int (zb (z_kp z a)), .int (zb (z_rc z a))] : List Value).set 2 (.int (zb v)))) = zW t0 g (zu_kp z (va_up (z_kp z) a v)) := by
  unfold zW at hD hk
  show ((zX t0 g z ++ zwe z) ++ va_pl (z_LB z) (zF z)).set k _ = (zX t0 g z ++ zwe z) ++ va_pl (z_LB z) (zF (zu_kp z (va_up (z_kp z) a v)))
  rw [va_pl_set hD h hk, zF_kp]
/-- the state with a block more -/
def zq_new (z : ZT) (q b n : Nat) : ZT := (zmk (z_oct z) (z_tk z) (z_ko z) (z_lb z) (z_lo z) (z_mb z) (z_rb z) (z_rn z) (z_lf z) (z_ln z) (z_md z) (z_cE z) (z_aE z) (z_cap z) (z_kl z) (z_LB z ++ [q]) (va_up (z_bs z) q b) (va_up (z_bz z) q n) (va_up (z_kp z) q false) (va_up (z_rc z) q false))
theorem zF_new {z : ZT} {q b n : Nat} : va_up (zF z) q (.inr (1, [.int (nI b), .int (nI n), .int (zb false), .int (zb false)])) = zF (zq_new z q b n) := by
  funext x
  have hz : zF (zq_new z q b n) x = (Sum.inr (1, [Value.int (nI (va_up (z_bs z) q b x)), Value.int (nI (va_up (z_bz z) q n x)), Value.int (zb (va_up (z_kp z) q false x)), Value.int (zb (va_up (z_rc z) q false x))]) : va_E) := rfl
  rw [hz]
  by_cases e : x = q
  · subst e
    simp only [va_up_self]
  · simp only [va_up_ne _ _ e]
    rfl
theorem zW_new {A : Nat → Prop} {t0 : Nat} {g : ZG} {z : ZT} {q b n : Nat} (hq : q ∉ z_LB z) : zW t0 g z ++ [(q, .inr (1, [.int (nI b), .int (nI n), .int (zb false), .int (zb false)]))] = zW t0 g (zq_new z q b n) := by
  show ((zX t0 g z ++ zwe z) ++ va_pl (z_LB z) (zF z)) ++ _ = (zX t0 g z ++ zwe z) ++ va_pl (z_LB z ++ [q]) (zF (zq_new z q b n))
  rw [List.append_assoc, va_pl_push hq, zF_new]
theorem zfresh {A : Nat → Prop} {t0 : Nat} {g : ZG} {z : ZT} {q : Nat} {e : va_E} (hD : va_D A (zW t0 g z ++ [(q, e)])) : q ∉ z_LB z := va_pl_fresh2 (X := zX t0 g z ++ zwe z) (f := zF z) hD
theorem zlast {w : va_W} {x : Nat × va_E} : (w ++ [x])[w.length]? = some x := by simp
theorem zlset {w : va_W} {x y : Nat × va_E} : (w ++ [x]).set w.length y = w ++ [y] := by
  rw [List.set_append_right _ _ (Nat.le_refl _), Nat.sub_self]
  rfl
section
variable {p : Program} {l : Launch} {e : Env} {R : Room} {s : State} {m : MethodId} {args : Array Value} {below : List Frame} {meth : Method} {c : Code} {H : Heap} {locs : List Loc} {cells slots : Nat} {Q : State → Prop} {pc : Nat} {ls : Array Slot} {st0 rest : List Value}
variable {D : va_G} {t0 : Nat} {tys : List (ClassId × FieldType)} {w : va_W} {A : Nat → Prop} {mc ms : Nat} {a : Array Value} {U : Type} {T9 : U → List (ClassId × FieldType)} {w9 : U → va_W}
theorem zcv {post : U → Prop} (hr : va_Run p l e R s m args below meth c H locs cells slots mc ms (F0 m pc ls st0) rest (va_Qv post (fun u t => zPost D (T9 u) (va_A w H.size) (w9 u) t) (va_A w H.size) a) (va_A w H.size)) (hw : zHere D t0 tys w A s H locs)
    (kk : ∀ (u : U) (H1 : Heap) (locs1 : List Loc), post u → va_P D zcl (w9 u) H1 → va_K D zcl (T9 u) s → va_D A (w9 u) → va_S A s.heap H1 locs1 → W p l e R s m args below meth c H1 locs1 (cells + mc) (slots + ms) Q (F0 m (pc + 3) ls rest)) : W p l e R s m args below meth c H locs cells slots Q (F0 m pc ls st0) :=
  va_callv hr hw.2.2.2.1 (fun q _ h => hw.free q h) hw.free (fun u t H1 locs1 ht hvm hp hB _ _ hS1 => kk u H1 locs1 hp (by rw [← ht]; exact hB.1) (va_K.moved hvm.symm hB.2.1) (hB.2.2.weaken (fun _ q _ h => hw.free q.1 h)) hS1)
theorem zci {post : Int32 → U → Prop} (hr : va_Run p l e R s m args below meth c H locs cells slots mc ms (F0 m pc ls st0) rest (va_Qi post (fun u t => zPost D (T9 u) (va_A w H.size) (w9 u) t) (va_A w H.size) a) (va_A w H.size)) (hw : zHere D t0 tys w A s H locs)
    (kk : ∀ (r : Int32) (u : U) (H1 : Heap) (locs1 : List Loc), post r u → va_P D zcl (w9 u) H1 → va_K D zcl (T9 u) s → va_D A (w9 u) → va_S A s.heap H1 locs1 → W p l e R s m args below meth c H1 locs1 (cells + mc) (slots + ms) Q (F0 m (pc + 3) ls (.int r :: rest))) : W p l e R s m args below meth c H locs cells slots Q (F0 m pc ls st0) :=
  va_calli hr hw.2.2.2.1 (fun q _ h => hw.free q h) hw.free (fun r u t H1 locs1 ht hvm hp hB _ _ hS1 => kk r u H1 locs1 hp (by rw [← ht]; exact hB.1) (va_K.moved hvm.symm hB.2.1) (hB.2.2.weaken (fun _ q _ h => hw.free q.1 h)) hS1)
theorem zcq {post : Option Nat → U → Prop} (hr : va_Run p l e R s m args below meth c H locs cells slots mc ms (F0 m pc ls st0) rest (va_Qq post (fun u t => zPost D (T9 u) (va_A w H.size) (w9 u) t) (va_A w H.size) a) (va_A w H.size)) (hw : zHere D t0 tys w A s H locs)
    (kk : ∀ (r : Option Nat) (u : U) (H1 : Heap) (locs1 : List Loc), post r u → va_P D zcl (w9 u) H1 → va_K D zcl (T9 u) s → va_D A (w9 u) → va_S A s.heap H1 locs1 → W p l e R s m args below meth c H1 locs1 (cells + mc) (slots + ms) Q (F0 m (pc + 3) ls (va_rf r :: rest))) : W p l e R s m args below meth c H locs cells slots Q (F0 m pc ls st0) :=
  va_callq hr hw.2.2.2.1 (fun q _ h => hw.free q h) hw.free (fun r u t H1 locs1 ht hvm hp hB _ _ hS1 => kk r u H1 locs1 hp (by rw [← ht]; exact hB.1) (va_K.moved hvm.symm hB.2.1) (hB.2.2.weaken (fun _ q _ h => hw.free q.1 h)) hS1)
end
theorem zt_set_0 {tk : Nat → Option Nat} {c : Nat} {v : Option Nat} : zt_set tk c 0 v = tk := by
  funext k
  unfold zt_set
  rw [if_neg (by omega)]
theorem zt_set_s {tk : Nat → Option Nat} {c j : Nat} {v : Option Nat} : va_up (zt_set tk c j v) (c + j) v = zt_set tk c (j + 1) v := by
  funext k
  unfold va_up zt_set
  by_cases e : k = c + j
  · subst e
    rw [if_pos rfl, if_pos (by omega)]
  · rw [if_neg e]
    by_cases h : c ≤ k ∧ k < c + j
    · rw [if_pos h, if_pos (by omega)]
    · rw [if_neg h, if_neg (by omega)]
end
section
set_option maxHeartbeats 1000000 in
set_option maxRecDepth 100000 in
theorem c_Z_setTaker_some (l : Launch) (D : va_G) (t0 : Nat) (g : ZG) (z : ZT) (sz : Nat) (b fc d : Nat) (t : Nat) (ht : t ∈ z_LB z) (hb0 : b ∈ z_LB z) (h1 : z_bs z b = 16 * fc) (h2 : d = zc (z_bz z b)) (h3 : fc + d ≤ 511) (h4 : z_bz z b ≤ 2048) : Met l y_Z_setTaker w_Z_setTaker ({ frames := 2, cells := 0, slots := 0, locals := 80 }) (zPre D t0 (zT g z) (zW t0 g z) sz [.ref (g_h g), .ref b, .ref t]) (va_Qv (fun u => u = zu_tk z (zt_set (z_tk z) fc d (some t))) (fun (u : ZT) t => zPost D (zT g u) (va_A (zW t0 g z) sz) (zW t0 g u) t) (va_A (zW t0 g z) sz)) 0 0 (va_A (zW t0 g z) sz) := by
  refine Met.ofW (cc := c_Z_setTaker) (maxL := 6) (ret := none) (by decide) rfl ?_
  intro p e s m args below meth c s₁ B hml hv
  obtain ⟨rfl, hsz, hP, hK, hD0, hE⟩ := hv
  have hx := B.exec
  have hb := B.bytes
  have hr := B.returns
  have hts := atoms_spec (ws := w_Z_setTaker) B.pre
  have hk : ∀ w ∈ zB, w.before _ s = true := fun w h => hts w (List.mem_cons_of_mem _ h)
  have hown : s.vm.findClass "ZoneHeap" = some m.cls := findClass_of_methodNamed B.named
  have hlocks := B.notSynchronized
  subst hsz
  have hD := hD0.self (sz := s.heap.size)
  generalize hAe : va_A (zW t0 g z) s.heap.size = A at hD hE ⊢
  have hA : ∀ q : Nat, s.heap.size ≤ q → A q := fun q h => by rw [← hAe]; exact Or.inr h
  have hS : va_S A s.heap s.heap [] := va_S.rf
  have hl := lv_entry ([.ref (g_h g), .ref b, .ref t]) (n := 6) (Nat.le_of_ble_eq_true rfl)
  rw [lg_entry_eq]
  generalize (lg_sl ([.ref (g_h g), .ref b, .ref t]) ++ List.replicate (6 - (lg_sl ([.ref (g_h g), .ref b, .ref t])).length) Slot.unset).toArray = ls at hl ⊢
  have hl : lv_has ls 6 [(0, .ref (g_h g)), (1, .ref b), (2, .ref t)] := hl
  refine lv_aload_n hx hb d_Z_setTaker_0 rfl (lv_at hl 1 rfl) ?_
  obtain ⟨k9, hk9⟩ := zpool (t0 := t0) (g := g) (z := z) hb0
  refine va_getN (D := D) (ci := 1) (v := .int (nI (z_bs z b))) (C := RB) (T := TB) (N := 4) hx hb hk inB hown hK hP k9 hk9 rfl 0 (by decide) (va_Nw.use rfl (hE.1.1 _ zn232)) (fun _ h9 => h9) rfl d_Z_setTaker_1 ?_
  refine zh_t (show nI (z_bs z b) = nI (16 * fc) from by rw [h1]) ?_
  refine lv_bipush (v := nI 16) hx hb d_Z_setTaker_4 (by decide) ?_
  refine lv_idiv hx hb d_Z_setTaker_6 (by decide) ?_
  refine zh_t (show (nI (16 * fc) / nI 16) = nI ((16 * fc) / 16) from pk_div (by omega) (by decide) (by decide)) ?_
  refine zh_t (show nI ((16 * fc) / 16) = nI fc from congrArg nI (by omega)) ?_
  refine lv_istore_n (lv' := [(3, .int (nI fc)), (0, .ref (g_h g)), (1, .ref b), (2, .ref t)]) hx hb d_Z_setTaker_7 rfl hl (by decide) rfl (fun ls hl => ?_)
  refine lv_iload_n hx hb d_Z_setTaker_8 rfl (lv_at hl 0 rfl) ?_
  refine lv_aload_n hx hb d_Z_setTaker_9 rfl (lv_at hl 2 rfl) ?_
  obtain ⟨k9, hk9⟩ := zpool (t0 := t0) (g := g) (z := z) hb0
  refine va_getN (D := D) (ci := 1) (v := .int (nI (z_bz z b))) (C := RB) (T := TB) (N := 4) hx hb hk inB hown hK hP k9 hk9 rfl 1 (by decide) (va_Nw.use rfl (hE.1.1 _ zn234)) (fun _ h9 => h9) rfl d_Z_setTaker_10 ?_
  refine vp_callSi (zrS (n := 1) (As := [.int (nI (z_bz z b))]) (rest := [.int (nI fc)]) ⟨hx, hb, hml, hown, hk⟩ (c_Z_cellsFor_ok l D t0 (zT g z) (zW t0 g z) s.heap.size (z_bz z b) h4) zk217 zk218 zk1 kc_Z_cellsFor ⟨by decide, by decide, by decide⟩ rfl rfl ⟨Nat.le_of_ble_eq_true rfl, Nat.le_of_ble_eq_true rfl⟩ ⟨hP, hK, hD, hS, hA, hE⟩ rfl hl.1 rfl (Nat.le_of_ble_eq_true rfl) d_Z_setTaker_13 ⟨Nat.le_of_ble_eq_true rfl, Nat.le_of_ble_eq_true rfl⟩).run (fun r hr1 => ?_)
  rw [← h2] at hr1
  subst hr1
  refine lv_iadd hx hb d_Z_setTaker_16 ?_
  refine zh_t (show (nI fc + nI d) = nI (fc + d) from nI_add _ _) ?_
  refine lv_istore (lv' := [(4, .int (nI (fc + d))), (3, .int (nI fc)), (0, .ref (g_h g)), (1, .ref b), (2, .ref t)]) hx hb d_Z_setTaker_17 hl (by decide) rfl (fun ls hl => ?_)
  refine lv_iload_n hx hb d_Z_setTaker_19 rfl (lv_at hl 1 rfl) ?_
  refine lv_istore (lv' := [(5, .int (nI fc)), (4, .int (nI (fc + d))), (3, .int (nI fc)), (0, .ref (g_h g)), (1, .ref b), (2, .ref t)]) hx hb d_Z_setTaker_20 hl (by decide) rfl (fun ls hl => ?_)
  refine zh_loopH (A := Nat) (fun q H locs ls => lv_has ls 6 [(0, .ref (g_h g)), (2, .ref t), (4, .int (nI (fc + d))), (5, .int (nI (fc + q)))] ∧ va_P D zcl (zW t0 g (zu_tk z (zt_set (z_tk z) fc q (some t)))) H ∧ va_K D zcl (zT g (zu_tk z (zt_set (z_tk z) fc q (some t)))) s ∧ va_D A (zW t0 g (zu_tk z (zt_set (z_tk z) fc q (some t)))) ∧ va_S A s.heap H locs ∧ q ≤ d) (fun q => d - q) ?_ 0 ⟨lv_sub hl [3, 5, 1, 0] rfl, by rw [zt_set_0]; exact hP, hK, by rw [zt_set_0]; exact hD, hS, Nat.zero_le _⟩
  rintro j H locs ls ⟨hl, hP, hK, hD, hS, hj⟩ ih
  have hl : lv_has ls 6 [(0, .ref (g_h g)), (2, .ref t), (4, .int (nI (fc + d))), (5, .int (nI (fc + j)))] := hl
  have hP : va_P D zcl (zW t0 g (zu_tk z (zt_set (z_tk z) fc j (some t)))) H := hP
  have hK : va_K D zcl (zT g (zu_tk z (zt_set (z_tk z) fc j (some t)))) s := hK
  have hD : va_D A (zW t0 g (zu_tk z (zt_set (z_tk z) fc j (some t)))) := hD
  have hj : j ≤ d := hj
  refine lv_iload hx hb d_Z_setTaker_22 (lv_at hl 3 rfl) ?_
  refine lv_iload hx hb d_Z_setTaker_24 (lv_at hl 2 rfl) ?_
  refine lv_icmp_ge (tgt := 51) hx hb d_Z_setTaker_26 (by decide) (fun h => ?_) (fun h => ?_)
  · rw [nI_leI (by omega) (by omega)] at h
    have hjd : j = d := by omega
    subst hjd
    exact W.vret hx hb hr (fun t ht hW => ⟨⟨_, rfl, rfl, by rw [ht]; exact hP, va_K.moved hW.alike hK, hD⟩, hS.F ht⟩) hS.2.2 d_Z_setTaker_51
  rw [nI_leI (by omega) (by omega)] at h
  refine lv_iload hx hb d_Z_setTaker_29 (lv_at hl 3 rfl) ?_
  refine lv_sipush (v := nI 512) hx hb d_Z_setTaker_31 (by decide) ?_
  refine lv_icmp_ge (tgt := 51) hx hb d_Z_setTaker_34 (by decide) (fun h => ?_) (fun h => ?_)
  · rw [nI_leI (by omega) (by omega)] at h
    exact absurd h (by omega)
  rw [nI_leI (by omega) (by omega)] at h
  refine lv_aload_n hx hb d_Z_setTaker_37 rfl (lv_at hl 0 rfl) ?_
  refine va_get (D := D) (ci := 0) (v := .ref (g_aT g)) (C := RZ) (T := TZ) (N := 11) hx hb hk inZ hown hK hP 0 rfl rfl 1 (by decide) (hk _ zk57) (fun _ h9 => h9) rfl d_Z_setTaker_38 ?_
  refine lv_iload hx hb d_Z_setTaker_41 (lv_at hl 3 rfl) ?_
  refine lv_aload_n hx hb d_Z_setTaker_43 rfl (lv_at hl 1 rfl) ?_
  obtain ⟨k9, hk9⟩ := zpool (t0 := t0) (g := g) (z := (zmk (z_oct z) (zt_set (z_tk z) fc j (some t)) (z_ko z) (z_lb z) (z_lo z) (z_mb z) (z_rb z) (z_rn z) (z_lf z) (z_ln z) (z_md z) (z_cE z) (z_aE z) (z_cap z) (z_kl z) (z_LB z) (z_bs z) (z_bz z) (z_kp z) (z_rc z))) (show t ∈ z_LB (zu_tk z (zt_set (z_tk z) fc j (some t))) from ht)
  refine va_astq (r := (RB, TB, 4)) hx hb hK hP hD hS 2 1 k9 1 rfl rfl hk9 rfl (vp_in_nI (by omega) (by decide)) d_Z_setTaker_44 (fun H locs hP hD hS => ?_)
  rw [nI_clamp (by omega)] at hP hD
  have hP : va_P D zcl (zW t0 g (zmk (z_oct z) (va_up (zt_set (z_tk z) fc j (some t)) (fc + j) (some t)) (z_ko z) (z_lb z) (z_lo z) (z_mb z) (z_rb z) (z_rn z) (z_lf z) (z_ln z) (z_md z) (z_cE z) (z_aE z) (z_cap z) (z_kl z) (z_LB z) (z_bs z) (z_bz z) (z_kp z) (z_rc z))) H := hP
  have hD : va_D A (zW t0 g (zmk (z_oct z) (va_up (zt_set (z_tk z) fc j (some t)) (fc + j) (some t)) (z_ko z) (z_lb z) (z_lo z) (z_mb z) (z_rb z) (z_rn z) (z_lf z) (z_ln z) (z_md z) (z_cE z) (z_aE z) (z_cap z) (z_kl z) (z_LB z) (z_bs z) (z_bz z) (z_kp z) (z_rc z))) := hD
  refine lv_iinc (lv' := [(5, .int (nI (fc + j + 1))), (0, .ref (g_h g)), (2, .ref t), (4, .int (nI (fc + d)))]) (v := nI (fc + j + 1)) hx hb d_Z_setTaker_45 hl (k := 3) rfl (nI_add _ _) (by decide) rfl (fun ls hl => ?_)
  refine lv_goto (tgt := 22) hx hb d_Z_setTaker_48 (by decide) ?_
  rw [zt_set_s] at hP hD
  exact ih (j + 1) H locs ls ⟨lv_sub hl [1, 2, 3, 0] rfl, hP, hK, hD, hS, by omega⟩ (by show _ < _; (try dsimp only); omega)
set_option maxHeartbeats 1000000 in
set_option maxRecDepth 100000 in
theorem c_Z_setTaker_none (l : Launch) (D : va_G) (t0 : Nat) (g : ZG) (z : ZT) (sz : Nat) (b fc d : Nat) (hb0 : b ∈ z_LB z) (h1 : z_bs z b = 16 * fc) (h2 : d = zc (z_bz z b)) (h3 : fc + d ≤ 511) (h4 : z_bz z b ≤ 2048) : Met l y_Z_setTaker w_Z_setTaker ({ frames := 2, cells := 0, slots := 0, locals := 80 }) (zPre D t0 (zT g z) (zW t0 g z) sz [.ref (g_h g), .ref b, .null]) (va_Qv (fun u => u = zu_tk z (zt_set (z_tk z) fc d (none))) (fun (u : ZT) t => zPost D (zT g u) (va_A (zW t0 g z) sz) (zW t0 g u) t) (va_A (zW t0 g z) sz)) 0 0 (va_A (zW t0 g z) sz) := by
  refine Met.ofW (cc := c_Z_setTaker) (maxL := 6) (ret := none) (by decide) rfl ?_
  intro p e s m args below meth c s₁ B hml hv
  obtain ⟨rfl, hsz, hP, hK, hD0, hE⟩ := hv
  have hx := B.exec
  have hb := B.bytes
  have hr := B.returns
  have hts := atoms_spec (ws := w_Z_setTaker) B.pre
  have hk : ∀ w ∈ zB, w.before _ s = true := fun w h => hts w (List.mem_cons_of_mem _ h)
  have hown : s.vm.findClass "ZoneHeap" = some m.cls := findClass_of_methodNamed B.named
  have hlocks := B.notSynchronized
  subst hsz
  have hD := hD0.self (sz := s.heap.size)
  generalize hAe : va_A (zW t0 g z) s.heap.size = A at hD hE ⊢
  have hA : ∀ q : Nat, s.heap.size ≤ q → A q := fun q h => by rw [← hAe]; exact Or.inr h
  have hS : va_S A s.heap s.heap [] := va_S.rf
  have hl := lv_entry ([.ref (g_h g), .ref b, .null]) (n := 6) (Nat.le_of_ble_eq_true rfl)
  rw [lg_entry_eq]
  generalize (lg_sl ([.ref (g_h g), .ref b, .null]) ++ List.replicate (6 - (lg_sl ([.ref (g_h g), .ref b, .null])).length) Slot.unset).toArray = ls at hl ⊢
  have hl : lv_has ls 6 [(0, .ref (g_h g)), (1, .ref b), (2, .null)] := hl
  refine lv_aload_n hx hb d_Z_setTaker_0 rfl (lv_at hl 1 rfl) ?_
  obtain ⟨k9, hk9⟩ := zpool (t0 := t0) (g := g) (z := z) hb0
  refine va_getN (D := D) (ci := 1) (v := .int (nI (z_bs z b))) (C := RB) (T := TB) (N := 4) hx hb hk inB hown hK hP k9 hk9 rfl 0 (by decide) (va_Nw.use rfl (hE.1.1 _ zn232)) (fun _ h9 => h9) rfl d_Z_setTaker_1 ?_
  refine zh_t (show nI (z_bs z b) = nI (16 * fc) from by rw [h1]) ?_
  refine lv_bipush (v := nI 16) hx hb d_Z_setTaker_4 (by decide) ?_
  refine lv_idiv hx hb d_Z_setTaker_6 (by decide) ?_
  refine zh_t (show (nI (16 * fc) / nI 16) = nI ((16 * fc) / 16) from pk_div (by omega) (by decide) (by decide)) ?_
  refine zh_t (show nI ((16 * fc) / 16) = nI fc from congrArg nI (by omega)) ?_
  refine lv_istore_n (lv' := [(3, .int (nI fc)), (0, .ref (g_h g)), (1, .ref b), (2, .null)]) hx hb d_Z_setTaker_7 rfl hl (by decide) rfl (fun ls hl => ?_)
  refine lv_iload_n hx hb d_Z_setTaker_8 rfl (lv_at hl 0 rfl) ?_
  refine lv_aload_n hx hb d_Z_setTaker_9 rfl (lv_at hl 2 rfl) ?_
  obtain ⟨k9, hk9⟩ := zpool (t0 := t0) (g := g) (z := z) hb0
  refine va_getN (D := D) (ci := 1) (v := .int (nI (z_bz z b))) (C := RB) (T := TB) (N := 4) hx hb hk inB hown hK hP k9 hk9 rfl 1 (by decide) (va_Nw.use rfl (hE.1.1 _ zn234)) (fun _ h9 => h9) rfl d_Z_setTaker_10 ?_
  refine vp_callSi (zrS (n := 1) (As := [.int (nI (z_bz z b))]) (rest := [.int (nI fc)]) ⟨hx, hb, hml, hown, hk⟩ (c_Z_cellsFor_ok l D t0 (zT g z) (zW t0 g z) s.heap.size (z_bz z b) h4) zk217 zk218 zk1 kc_Z_cellsFor ⟨by decide, by decide, by decide⟩ rfl rfl ⟨Nat.le_of_ble_eq_true rfl, Nat.le_of_ble_eq_true rfl⟩ ⟨hP, hK, hD, hS, hA, hE⟩ rfl hl.1 rfl (Nat.le_of_ble_eq_true rfl) d_Z_setTaker_13 ⟨Nat.le_of_ble_eq_true rfl, Nat.le_of_ble_eq_true rfl⟩).run (fun r hr1 => ?_)
  rw [← h2] at hr1
  subst hr1
  refine lv_iadd hx hb d_Z_setTaker_16 ?_
  refine zh_t (show (nI fc + nI d) = nI (fc + d) from nI_add _ _) ?_
  refine lv_istore (lv' := [(4, .int (nI (fc + d))), (3, .int (nI fc)), (0, .ref (g_h g)), (1, .ref b), (2, .null)]) hx hb d_Z_setTaker_17 hl (by decide) rfl (fun ls hl => ?_)
  refine lv_iload_n hx hb d_Z_setTaker_19 rfl (lv_at hl 1 rfl) ?_
  refine lv_istore (lv' := [(5, .int (nI fc)), (4, .int (nI (fc + d))), (3, .int (nI fc)), (0, .ref (g_h g)), (1, .ref b), (2, .null)]) hx hb d_Z_setTaker_20 hl (by decide) rfl (fun ls hl => ?_)
  refine zh_loopH (A := Nat) (fun q H locs ls => lv_has ls 6 [(0, .ref (g_h g)), (2, .null), (4, .int (nI (fc + d))), (5, .int (nI (fc + q)))] ∧ va_P D zcl (zW t0 g (zu_tk z (zt_set (z_tk z) fc q (none)))) H ∧ va_K D zcl (zT g (zu_tk z (zt_set (z_tk z) fc q (none)))) s ∧ va_D A (zW t0 g (zu_tk z (zt_set (z_tk z) fc q (none)))) ∧ va_S A s.heap H locs ∧ q ≤ d) (fun q => d - q) ?_ 0 ⟨lv_sub hl [3, 5, 1, 0] rfl, by rw [zt_set_0]; exact hP, hK, by rw [zt_set_0]; exact hD, hS, Nat.zero_le _⟩
  rintro j H locs ls ⟨hl, hP, hK, hD, hS, hj⟩ ih
  have hl : lv_has ls 6 [(0, .ref (g_h g)), (2, .null), (4, .int (nI (fc + d))), (5, .int (nI (fc + j)))] := hl
  have hP : va_P D zcl (zW t0 g (zu_tk z (zt_set (z_tk z) fc j (none)))) H := hP
  have hK : va_K D zcl (zT g (zu_tk z (zt_set (z_tk z) fc j (none)))) s := hK
  have hD : va_D A (zW t0 g (zu_tk z (zt_set (z_tk z) fc j (none)))) := hD
  have hj : j ≤ d := hj
  refine lv_iload hx hb d_Z_setTaker_22 (lv_at hl 3 rfl) ?_
  refine lv_iload hx hb d_Z_setTaker_24 (lv_at hl 2 rfl) ?_
  refine lv_icmp_ge (tgt := 51) hx hb d_Z_setTaker_26 (by decide) (fun h => ?_) (fun h => ?_)
  · rw [nI_leI (by omega) (by omega)] at h
    have hjd : j = d := by omega
    subst hjd
    exact W.vret hx hb hr (fun t ht hW => ⟨⟨_, rfl, rfl, by rw [ht]; exact hP, va_K.moved hW.alike hK, hD⟩, hS.F ht⟩) hS.2.2 d_Z_setTaker_51
  rw [nI_leI (by omega) (by omega)] at h
  refine lv_iload hx hb d_Z_setTaker_29 (lv_at hl 3 rfl) ?_
  refine lv_sipush (v := nI 512) hx hb d_Z_setTaker_31 (by decide) ?_
  refine lv_icmp_ge (tgt := 51) hx hb d_Z_setTaker_34 (by decide) (fun h => ?_) (fun h => ?_)
  · rw [nI_leI (by omega) (by omega)] at h
    exact absurd h (by omega)
  rw [nI_leI (by omega) (by omega)] at h
  refine lv_aload_n hx hb d_Z_setTaker_37 rfl (lv_at hl 0 rfl) ?_
  refine va_get (D := D) (ci := 0) (v := .ref (g_aT g)) (C := RZ) (T := TZ) (N := 11) hx hb hk inZ hown hK hP 0 rfl rfl 1 (by decide) (hk _ zk57) (fun _ h9 => h9) rfl d_Z_setTaker_38 ?_
  refine lv_iload hx hb d_Z_setTaker_41 (lv_at hl 3 rfl) ?_
  refine lv_aload_nN hx hb d_Z_setTaker_43 rfl (lv_at hl 1 rfl) ?_
  refine va_astqN hx hb hK hP hD hS 2 1 rfl rfl (vp_in_nI (by omega) (by decide)) d_Z_setTaker_44 (fun H locs hP hD hS => ?_)
  rw [nI_clamp (by omega)] at hP hD
  have hP : va_P D zcl (zW t0 g (zmk (z_oct z) (va_up (zt_set (z_tk z) fc j (none)) (fc + j) none) (z_ko z) (z_lb z) (z_lo z) (z_mb z) (z_rb z) (z_rn z) (z_lf z) (z_ln z) (z_md z) (z_cE z) (z_aE z) (z_cap z) (z_kl z) (z_LB z) (z_bs z) (z_bz z) (z_kp z) (z_rc z))) H := hP
  have hD : va_D A (zW t0 g (zmk (z_oct z) (va_up (zt_set (z_tk z) fc j (none)) (fc + j) none) (z_ko z) (z_lb z) (z_lo z) (z_mb z) (z_rb z) (z_rn z) (z_lf z) (z_ln z) (z_md z) (z_cE z) (z_aE z) (z_cap z) (z_kl z) (z_LB z) (z_bs z) (z_bz z) (z_kp z) (z_rc z))) := hD
  refine lv_iinc (lv' := [(5, .int (nI (fc + j + 1))), (0, .ref (g_h g)), (2, .null), (4, .int (nI (fc + d)))]) (v := nI (fc + j + 1)) hx hb d_Z_setTaker_45 hl (k := 3) rfl (nI_add _ _) (by decide) rfl (fun ls hl => ?_)
  refine lv_goto (tgt := 22) hx hb d_Z_setTaker_48 (by decide) ?_
  rw [zt_set_s] at hP hD
  exact ih (j + 1) H locs ls ⟨lv_sub hl [1, 2, 3, 0] rfl, hP, hK, hD, hS, by omega⟩ (by show _ < _; (try dsimp only); omega)
end
section
set_option maxHeartbeats 1000000 in
set_option maxRecDepth 100000 in
theorem c_B_init_ok (l : Launch) (D : va_G) (t0 : Nat) (tys : List (ClassId × FieldType)) (w : va_W) (sz : Nat) (q b n : Nat) : Met l y_B_init w_B_init ({ frames := 1, cells := 0, slots := 0, locals := 24 }) (zPre D t0 (tys) (w ++ [(q, .inr (1, [.int (nI 0), .int (nI 0), .int (nI 0), .int (nI 0)]))]) sz [.ref q, .int (nI b), .int (nI n)]) (va_Qv (fun _ => True) (fun (u : Unit) t => zPost D (tys) (va_A (w ++ [(q, .inr (1, [.int (nI 0), .int (nI 0), .int (nI 0), .int (nI 0)]))]) sz) (w ++ [(q, .inr (1, [.int (nI b), .int (nI n), .int (zb false), .int (zb false)]))]) t) (va_A (w ++ [(q, .inr (1, [.int (nI 0), .int (nI 0), .int (nI 0), .int (nI 0)]))]) sz)) 0 0 (va_A (w ++ [(q, .inr (1, [.int (nI 0), .int (nI 0), .int (nI 0), .int (nI 0)]))]) sz) := by
  refine Met.ofW (cc := c_B_init) (maxL := 3) (ret := none) (by decide) rfl ?_
  intro p e s m args below meth c s₁ B hml hv
  obtain ⟨rfl, hsz, hP, hK, hD0, hE⟩ := hv
  have hx := B.exec
  have hb := B.bytes
  have hr := B.returns
  have hts := atoms_spec (ws := w_B_init) B.pre
  have hk : ∀ w ∈ zB, w.before _ s = true := fun w h => hts w (List.mem_cons_of_mem _ h)
  have hown : s.vm.findClass "ZoneHeap$Block" = some m.cls := findClass_of_methodNamed B.named
  have hlocks := B.notSynchronized
  subst hsz
  have hD := hD0.self (sz := s.heap.size)
  generalize hAe : va_A (w ++ [(q, .inr (1, [.int (nI 0), .int (nI 0), .int (nI 0), .int (nI 0)]))]) s.heap.size = A at hD hE ⊢
  have hA : ∀ q : Nat, s.heap.size ≤ q → A q := fun q h => by rw [← hAe]; exact Or.inr h
  have hS : va_S A s.heap s.heap [] := va_S.rf
  have hl := lv_entry ([.ref q, .int (nI b), .int (nI n)]) (n := 3) (Nat.le_of_ble_eq_true rfl)
  rw [lg_entry_eq]
  generalize (lg_sl ([.ref q, .int (nI b), .int (nI n)]) ++ List.replicate (3 - (lg_sl ([.ref q, .int (nI b), .int (nI n)])).length) Slot.unset).toArray = ls at hl ⊢
  have hl : lv_has ls 3 [(0, .ref q), (1, .int (nI b)), (2, .int (nI n))] := hl
  have hin : meth.name = "<init>" := (name_of_methodNamed B.named B.method).1
  refine lv_aload_n hx hb d_B_init_0 rfl (lv_at hl 0 rfl) ?_
  refine W.objInit hx hb hown (hk _ zk230) (hk _ zk25) (hk _ kc_O_init) rfl (by rw [hml]; exact hl.1) rfl d_B_init_1 (Nat.le_of_ble_eq_true rfl) (Nat.le_of_ble_eq_true rfl) ?_
  refine W.eq (g2 := F0 m 4 ls []) rfl ?_
  refine lv_aload_n hx hb d_B_init_4 rfl (lv_at hl 0 rfl) ?_
  refine lv_iconst (v := nI 0) hx hb d_B_init_5 (by decide) ?_
  refine zh_t (show nI 0 = zb false from rfl) ?_
  refine va_put (D := D) (ci := 1) (v := .int (zb false)) (ty := .boolean) (C := RB) (T := TB) (N := 4) hx hb hk inB tyB okB nmB hown hK hP hD hS w.length zlast rfl 2 (by decide) (hk _ zk235) (fun _ h9 => h9) rfl (by decide +kernel) (zh_nar _) (zh_fit _) (Nat.le_of_ble_eq_true rfl) d_B_init_6 (fun H locs hP hD hS => ?_)
  rw [zlset] at hP hD
  have hP : va_P D zcl (w ++ [(q, .inr (1, [.int (nI 0), .int (nI 0), .int (zb false), .int (nI 0)]))]) H := hP
  have hD : va_D A (w ++ [(q, .inr (1, [.int (nI 0), .int (nI 0), .int (zb false), .int (nI 0)]))]) := hD
  refine lv_aload_n hx hb d_B_init_9 rfl (lv_at hl 0 rfl) ?_
  refine lv_iconst (v := nI 0) hx hb d_B_init_10 (by decide) ?_
  refine zh_t (show nI 0 = zb false from rfl) ?_
  refine va_put (D := D) (ci := 1) (v := .int (zb false)) (ty := .boolean) (C := RB) (T := TB) (N := 4) hx hb hk inB tyB okB nmB hown hK hP hD hS w.length zlast rfl 3 (by decide) (hk _ zk237) (fun _ h9 => h9) rfl (by decide +kernel) (zh_nar _) (zh_fit _) (Nat.le_of_ble_eq_true rfl) d_B_init_11 (fun H locs hP hD hS => ?_)
  rw [zlset] at hP hD
  have hP : va_P D zcl (w ++ [(q, .inr (1, [.int (nI 0), .int (nI 0), .int (zb false), .int (zb false)]))]) H := hP
  have hD : va_D A (w ++ [(q, .inr (1, [.int (nI 0), .int (nI 0), .int (zb false), .int (zb false)]))]) := hD
  refine lv_aload_n hx hb d_B_init_14 rfl (lv_at hl 0 rfl) ?_
  refine lv_iload_n hx hb d_B_init_15 rfl (lv_at hl 1 rfl) ?_
  refine va_putF (D := D) (ci := 1) (v := .int (nI b)) (ty := .int) (C := RB) (T := TB) (N := 4) hx hb hk inB tyB okB nmB hown hK hP hD hS w.length zlast rfl 0 (by decide) (hk _ zk231) (fun _ h9 => h9) rfl hin rfl (by decide +kernel) rfl rfl (Nat.le_of_ble_eq_true rfl) d_B_init_16 (fun H locs hP hD hS => ?_)
  rw [zlset] at hP hD
  have hP : va_P D zcl (w ++ [(q, .inr (1, [.int (nI b), .int (nI 0), .int (zb false), .int (zb false)]))]) H := hP
  have hD : va_D A (w ++ [(q, .inr (1, [.int (nI b), .int (nI 0), .int (zb false), .int (zb false)]))]) := hD
  refine lv_aload_n hx hb d_B_init_19 rfl (lv_at hl 0 rfl) ?_
  refine lv_iload_n hx hb d_B_init_20 rfl (lv_at hl 2 rfl) ?_
  refine va_putF (D := D) (ci := 1) (v := .int (nI n)) (ty := .int) (C := RB) (T := TB) (N := 4) hx hb hk inB tyB okB nmB hown hK hP hD hS w.length zlast rfl 1 (by decide) (hk _ zk233) (fun _ h9 => h9) rfl hin rfl (by decide +kernel) rfl rfl (Nat.le_of_ble_eq_true rfl) d_B_init_21 (fun H locs hP hD hS => ?_)
  rw [zlset] at hP hD
  have hP : va_P D zcl (w ++ [(q, .inr (1, [.int (nI b), .int (nI n), .int (zb false), .int (zb false)]))]) H := hP
  have hD : va_D A (w ++ [(q, .inr (1, [.int (nI b), .int (nI n), .int (zb false), .int (zb false)]))]) := hD
  exact W.vret hx hb hr (fun t ht hW => ⟨⟨(), rfl, trivial, by rw [ht]; exact hP, va_K.moved hW.alike hK, hD⟩, hS.F ht⟩) hS.2.2 d_B_init_24
def zq_make (z : ZT) (q k n : Nat) : ZT := (zmk (z_oct z) (zt_set (z_tk z) k (zc n) (some q)) (z_ko z) (z_lb z + 1) (z_lo z + n) (z_mb z + 1) (z_rb z) (z_rn z) (z_lf z) (z_ln z) (z_md z) (z_cE z) (z_aE z) (z_cap z) (z_kl z) (z_LB z ++ [q]) (va_up (z_bs z) q (16 * k)) (va_up (z_bz z) q n) (va_up (z_kp z) q false) (va_up (z_rc z) q false))
set_option maxHeartbeats 1000000 in
set_option maxRecDepth 100000 in
theorem c_Z_make_ok (l : Launch) (D : va_G) (t0 : Nat) (g : ZG) (z : ZT) (sz : Nat) (n : Nat) (hn : n ≤ 2048) : Met l y_Z_make w_Z_make ({ frames := 3, cells := 1, slots := 4, locals := 120 }) (zPre D t0 (zT g z) (zW t0 g z) sz [.ref (g_h g), .int (nI n)]) (va_Qq (fun r u => ∃ k : Nat, zr_room (zt_gap (z_tk z) (zc n)) (zc n) k ∧ ((k = 0 ∧ r = none ∧ u = z) ∨ (k ≠ 0 ∧ ∃ q : Nat, q ∉ z_LB z ∧ r = some q ∧ u = zq_make z q k n))) (fun (u : ZT) t => zPost D (zT g u) (va_A (zW t0 g z) sz) (zW t0 g u) t) (va_A (zW t0 g z) sz)) 1 4 (va_A (zW t0 g z) sz) := by
  refine Met.ofW (cc := c_Z_make) (maxL := 4) (ret := (some (.object "ZoneHeap$Block"))) (by decide) rfl ?_
  intro p e s m args below meth c s₁ B hml hv
  obtain ⟨rfl, hsz, hP, hK, hD0, hE⟩ := hv
  have hx := B.exec
  have hb := B.bytes
  have hr := B.returns
  have hts := atoms_spec (ws := w_Z_make) B.pre
  have hk : ∀ w ∈ zB, w.before _ s = true := fun w h => hts w (List.mem_cons_of_mem _ h)
  have hown : s.vm.findClass "ZoneHeap" = some m.cls := findClass_of_methodNamed B.named
  have hlocks := B.notSynchronized
  subst hsz
  have hD := hD0.self (sz := s.heap.size)
  generalize hAe : va_A (zW t0 g z) s.heap.size = A at hD hE ⊢
  have hA : ∀ q : Nat, s.heap.size ≤ q → A q := fun q h => by rw [← hAe]; exact Or.inr h
  have hS : va_S A s.heap s.heap [] := va_S.rf
  have hl := lv_entry ([.ref (g_h g), .int (nI n)]) (n := 4) (Nat.le_of_ble_eq_true rfl)
  rw [lg_entry_eq]
  generalize (lg_sl ([.ref (g_h g), .int (nI n)]) ++ List.replicate (4 - (lg_sl ([.ref (g_h g), .int (nI n)])).length) Slot.unset).toArray = ls at hl ⊢
  have hl : lv_has ls 4 [(0, .ref (g_h g)), (1, .int (nI n))] := hl
  have hzc := zc_le hn
  refine lv_aload_n hx hb d_Z_make_0 rfl (lv_at hl 0 rfl) ?_
  refine lv_iload_n hx hb d_Z_make_1 rfl (lv_at hl 1 rfl) ?_
  refine vp_callSi (zrS (n := 1) (As := [.int (nI n)]) (rest := [.ref (g_h g)]) ⟨hx, hb, hml, hown, hk⟩ (c_Z_cellsFor_ok l D t0 (zT g z) (zW t0 g z) s.heap.size n hn) zk217 zk218 zk1 kc_Z_cellsFor ⟨by decide, by decide, by decide⟩ rfl rfl ⟨Nat.le_of_ble_eq_true rfl, Nat.le_of_ble_eq_true rfl⟩ ⟨hP, hK, hD, hS, hA, hE⟩ rfl hl.1 rfl (Nat.le_of_ble_eq_true rfl) d_Z_make_2 ⟨Nat.le_of_ble_eq_true rfl, Nat.le_of_ble_eq_true rfl⟩).run (fun r hr1 => ?_)
  subst hr1
  refine vp_callSi (zrV (n := 1) (As := [.int (nI (zc n))]) (rest := []) ⟨hx, hb, hml, hown, hk⟩ (c_Z_firstRoomFor_ok l D t0 g z s.heap.size (zc n) hzc) zk223 zk225 ks_Z_firstRoomFor zk1 kc_Z_firstRoomFor ⟨rfl, by decide, by decide, by decide⟩ rfl rfl ⟨Nat.le_of_ble_eq_true rfl, Nat.le_of_ble_eq_true rfl⟩ ⟨hP, hK, hD, hS, hA, hE⟩ (va_recv hK hP (ci := 0) (q0 := 0) rfl rfl) rfl hl.1 rfl (Nat.le_of_ble_eq_true rfl) d_Z_make_5 ⟨Nat.le_of_ble_eq_true rfl, Nat.le_of_ble_eq_true rfl⟩).run (fun r hr1 => ?_)
  obtain ⟨k, hroom, rfl⟩ := hr1
  by_cases hk0 : k = 0
  · subst hk0
    refine zh_t (show (if (0 : Nat) = 0 then (-1 : Int32) else nI 0) = (-1) from rfl) ?_
    refine lv_istore_n (lv' := [(2, .int ((-1))), (0, .ref (g_h g)), (1, .int (nI n))]) hx hb d_Z_make_8 rfl hl (by decide) rfl (fun ls hl => ?_)
    refine lv_iload_n hx hb d_Z_make_9 rfl (lv_at hl 0 rfl) ?_
    refine lv_iconst (v := ((-1))) hx hb d_Z_make_10 (by decide) ?_
    refine lv_icmp_ne (tgt := 16) hx hb d_Z_make_11 (by decide) (fun h => ?_) (fun h => ?_)
    · exact absurd rfl h
    refine lv_null hx hb d_Z_make_14 ?_
    refine W.widen (k := 1) (n := 4) (by omega) (by omega) ?_
    exact W.aret (v := va_rf (none)) hx hb hr (Or.inl ⟨_, rfl⟩) (va_rf_or _) (fun t ht hW => ⟨⟨none, z, rfl, ⟨0, hroom, Or.inl ⟨rfl, rfl, rfl⟩⟩, by rw [ht]; exact hP, va_K.moved hW.alike hK, hD⟩, hS.F ht⟩) hS.2.2 d_Z_make_15
  have hk5 : 1 ≤ k ∧ k + zc n + 1 ≤ 512 := by
    rcases hroom with ⟨e0, -⟩ | ⟨e1, e2, -, -⟩
    · exact absurd e0 hk0
    · exact ⟨e1, e2⟩
  refine zh_t (show (if k = 0 then (-1 : Int32) else nI k) = nI k from if_neg hk0) ?_
  refine lv_istore_n (lv' := [(2, .int (nI k)), (0, .ref (g_h g)), (1, .int (nI n))]) hx hb d_Z_make_8 rfl hl (by decide) rfl (fun ls hl => ?_)
  refine lv_iload_n hx hb d_Z_make_9 rfl (lv_at hl 0 rfl) ?_
  refine lv_iconst (v := ((-1))) hx hb d_Z_make_10 (by decide) ?_
  refine lv_icmp_ne (tgt := 16) hx hb d_Z_make_11 (by decide) (fun h => ?_) (fun h => ?_)
  rotate_left 1
  · exact absurd h (zne1 (by omega))
  refine va_new (ci := 1) (fs := [.int (nI 0), .int (nI 0), .int (nI 0), .int (nI 0)]) (C := RB) (T := TB) (N := 4) hx hb hk inB tyB okB hown (hk _ zk27) (hk _ zk121) (hk _ zk11) hK hP hD hS hA rfl (fun j hj => by rcases (show j = 0 ∨ j = 1 ∨ j = 2 ∨ j = 3 by omega) with rfl | rfl | rfl | rfl <;> rfl) (Nat.le_of_ble_eq_true rfl) (Nat.le_of_ble_eq_true rfl) d_Z_make_16 (fun q H hP hD hS => ?_)
  have hq : q ∉ z_LB z := zfresh hD
  refine lv_dup hx hb d_Z_make_19 rfl ?_
  refine lv_iload_n hx hb d_Z_make_20 rfl (lv_at hl 0 rfl) ?_
  refine lv_bipush (v := nI 16) hx hb d_Z_make_21 (by decide) ?_
  refine lv_imul hx hb d_Z_make_23 ?_
  refine zh_t (show (nI k * nI 16) = nI (k * 16) from pk_mul _ _) ?_
  refine lv_iload_n hx hb d_Z_make_24 rfl (lv_at hl 2 rfl) ?_
  refine zcv (zrIN (n := 2) (As := [.int (nI (k * 16)), .int (nI n)]) (rest := [.ref q]) ⟨hx, hb, hml, hown, hk⟩ (c_B_init_ok l D t0 (zT g z) (zW t0 g z) H.size q (k * 16) n) zn227 zk228 zk11 kc_B_init rfl ⟨by decide, by decide, by decide⟩ rfl rfl ⟨Nat.le_of_ble_eq_true rfl, Nat.le_of_ble_eq_true rfl⟩ ⟨hP, hK, hD, hS, hA, hE⟩ rfl hl.1 rfl (Nat.le_of_ble_eq_true rfl) d_Z_make_25 ⟨Nat.le_of_ble_eq_true rfl, Nat.le_of_ble_eq_true rfl⟩) ⟨hP, hK, hD, hS, hA, hE⟩ (fun u H locs hu hP hK hD hS => ?_)
  rw [zW_new (A := A) hq] at hP hD
  rw [show k * 16 = 16 * k from by omega] at hP hD
  have hP : va_P D zcl (zW t0 g (zq_new z q (16 * k) n)) H := hP
  have hD : va_D A (zW t0 g (zq_new z q (16 * k) n)) := hD
  have hK : va_K D zcl (zT g (zq_new z q (16 * k) n)) s := hK
  refine lv_astore_n (lv' := [(3, .ref q), (2, .int (nI k)), (0, .ref (g_h g)), (1, .int (nI n))]) hx hb d_Z_make_28 rfl hl (by decide) rfl (fun ls hl => ?_)
  refine lv_aload_n hx hb d_Z_make_29 rfl (lv_at hl 2 rfl) ?_
  refine lv_aload_n hx hb d_Z_make_30 rfl (lv_at hl 0 rfl) ?_
  refine lv_aload_n hx hb d_Z_make_31 rfl (lv_at hl 0 rfl) ?_
  have hqm : q ∈ z_LB (zq_new z q (16 * k) n) := List.mem_append_right _ List.mem_cons_self
  have hb1 : z_bs (zq_new z q (16 * k) n) q = 16 * k := va_up_self _ _ _
  have hb2 : z_bz (zq_new z q (16 * k) n) q = n := va_up_self _ _ _
  refine zcv (zrV (n := 2) (As := [.ref q, .ref q]) (rest := []) ⟨hx, hb, hml, hown, hk⟩ (c_Z_setTaker_some l D t0 g (zq_new z q (16 * k) n) H.size q k (zc n) q hqm hqm hb1 (by rw [hb2]) (by omega) (by rw [hb2]; exact hn)) zk248 zk250 ks_Z_setTaker zk1 kc_Z_setTaker ⟨rfl, by decide, by decide, by decide⟩ rfl rfl ⟨Nat.le_of_ble_eq_true rfl, Nat.le_of_ble_eq_true rfl⟩ ⟨hP, hK, hD, hS, hA, hE⟩ (va_recv hK hP (ci := 0) (q0 := 0) rfl rfl) rfl hl.1 rfl (Nat.le_of_ble_eq_true rfl) d_Z_make_32 ⟨Nat.le_of_ble_eq_true rfl, Nat.le_of_ble_eq_true rfl⟩) ⟨hP, hK, hD, hS, hA, hE⟩ (fun u H locs hu hP hK hD hS => ?_)
  subst hu
  have hP : va_P D zcl (zW t0 g (zu_tk (zq_new z q (16 * k) n) (zt_set (z_tk z) k (zc n) (some q)))) H := hP
  have hK : va_K D zcl (zT g (zu_tk (zq_new z q (16 * k) n) (zt_set (z_tk z) k (zc n) (some q)))) s := hK
  have hD : va_D A (zW t0 g (zu_tk (zq_new z q (16 * k) n) (zt_set (z_tk z) k (zc n) (some q)))) := hD
  have hP : va_P D zcl (zW t0 g (zmk (z_oct z) (zt_set (z_tk z) k (zc n) (some q)) (z_ko z) (z_lb z) (z_lo z) (z_mb z) (z_rb z) (z_rn z) (z_lf z) (z_ln z) (z_md z) (z_cE z) (z_aE z) (z_cap z) (z_kl z) (z_LB z ++ [q]) (va_up (z_bs z) q (16 * k)) (va_up (z_bz z) q n) (va_up (z_kp z) q false) (va_up (z_rc z) q false))) H := hP
  have hD : va_D A (zW t0 g (zmk (z_oct z) (zt_set (z_tk z) k (zc n) (some q)) (z_ko z) (z_lb z) (z_lo z) (z_mb z) (z_rb z) (z_rn z) (z_lf z) (z_ln z) (z_md z) (z_cE z) (z_aE z) (z_cap z) (z_kl z) (z_LB z ++ [q]) (va_up (z_bs z) q (16 * k)) (va_up (z_bz z) q n) (va_up (z_kp z) q false) (va_up (z_rc z) q false))) := hD
  have hK : va_K D zcl (zT g (zmk (z_oct z) (zt_set (z_tk z) k (zc n) (some q)) (z_ko z) (z_lb z) (z_lo z) (z_mb z) (z_rb z) (z_rn z) (z_lf z) (z_ln z) (z_md z) (z_cE z) (z_aE z) (z_cap z) (z_kl z) (z_LB z ++ [q]) (va_up (z_bs z) q (16 * k)) (va_up (z_bz z) q n) (va_up (z_kp z) q false) (va_up (z_rc z) q false))) s := hK
  refine lv_aload_n hx hb d_Z_make_35 rfl (lv_at hl 2 rfl) ?_
  refine lv_dup hx hb d_Z_make_36 rfl ?_
  refine va_get (D := D) (ci := 0) (v := .int (nI (z_lb z))) (C := RZ) (T := TZ) (N := 11) hx hb hk inZ hown hK hP 0 rfl rfl 4 (by decide) (hk _ zk60) (fun _ h9 => h9) rfl d_Z_make_37 ?_
  refine lv_iconst (v := nI 1) hx hb d_Z_make_40 (by decide) ?_
  refine lv_iadd hx hb d_Z_make_41 ?_
  refine zh_t (show (nI (z_lb z) + nI 1) = nI (z_lb z + 1) from nI_add _ _) ?_
  refine va_put (D := D) (ci := 0) (v := .int (nI (z_lb z + 1))) (ty := .int) (C := RZ) (T := TZ) (N := 11) hx hb hk inZ tyZ okZ nmZ hown hK hP hD hS 0 rfl rfl 4 (by decide) (hk _ zk60) (fun _ h9 => h9) rfl (by decide +kernel) rfl rfl (Nat.le_of_ble_eq_true rfl) d_Z_make_42 (fun H locs hP hD hS => ?_)
  have hP : va_P D zcl (zW t0 g (zmk (z_oct z) (zt_set (z_tk z) k (zc n) (some q)) (z_ko z) (z_lb z + 1) (z_lo z) (z_mb z) (z_rb z) (z_rn z) (z_lf z) (z_ln z) (z_md z) (z_cE z) (z_aE z) (z_cap z) (z_kl z) (z_LB z ++ [q]) (va_up (z_bs z) q (16 * k)) (va_up (z_bz z) q n) (va_up (z_kp z) q false) (va_up (z_rc z) q false))) H := hP
  have hD : va_D A (zW t0 g (zmk (z_oct z) (zt_set (z_tk z) k (zc n) (some q)) (z_ko z) (z_lb z + 1) (z_lo z) (z_mb z) (z_rb z) (z_rn z) (z_lf z) (z_ln z) (z_md z) (z_cE z) (z_aE z) (z_cap z) (z_kl z) (z_LB z ++ [q]) (va_up (z_bs z) q (16 * k)) (va_up (z_bz z) q n) (va_up (z_kp z) q false) (va_up (z_rc z) q false))) := hD
  refine lv_aload_n hx hb d_Z_make_45 rfl (lv_at hl 2 rfl) ?_
  refine lv_dup hx hb d_Z_make_46 rfl ?_
  refine va_get (D := D) (ci := 0) (v := .int (nI (z_lo z))) (C := RZ) (T := TZ) (N := 11) hx hb hk inZ hown hK hP 0 rfl rfl 5 (by decide) (hk _ zk61) (fun _ h9 => h9) rfl d_Z_make_47 ?_
  refine lv_iload_n hx hb d_Z_make_50 rfl (lv_at hl 3 rfl) ?_
  refine lv_iadd hx hb d_Z_make_51 ?_
  refine zh_t (show (nI (z_lo z) + nI n) = nI (z_lo z + n) from nI_add _ _) ?_
  refine va_put (D := D) (ci := 0) (v := .int (nI (z_lo z + n))) (ty := .int) (C := RZ) (T := TZ) (N := 11) hx hb hk inZ tyZ okZ nmZ hown hK hP hD hS 0 rfl rfl 5 (by decide) (hk _ zk61) (fun _ h9 => h9) rfl (by decide +kernel) rfl rfl (Nat.le_of_ble_eq_true rfl) d_Z_make_52 (fun H locs hP hD hS => ?_)
  have hP : va_P D zcl (zW t0 g (zmk (z_oct z) (zt_set (z_tk z) k (zc n) (some q)) (z_ko z) (z_lb z + 1) (z_lo z + n) (z_mb z) (z_rb z) (z_rn z) (z_lf z) (z_ln z) (z_md z) (z_cE z) (z_aE z) (z_cap z) (z_kl z) (z_LB z ++ [q]) (va_up (z_bs z) q (16 * k)) (va_up (z_bz z) q n) (va_up (z_kp z) q false) (va_up (z_rc z) q false))) H := hP
  have hD : va_D A (zW t0 g (zmk (z_oct z) (zt_set (z_tk z) k (zc n) (some q)) (z_ko z) (z_lb z + 1) (z_lo z + n) (z_mb z) (z_rb z) (z_rn z) (z_lf z) (z_ln z) (z_md z) (z_cE z) (z_aE z) (z_cap z) (z_kl z) (z_LB z ++ [q]) (va_up (z_bs z) q (16 * k)) (va_up (z_bz z) q n) (va_up (z_kp z) q false) (va_up (z_rc z) q false))) := hD
  refine lv_aload_n hx hb d_Z_make_55 rfl (lv_at hl 2 rfl) ?_
  refine lv_dup hx hb d_Z_make_56 rfl ?_
  refine va_get (D := D) (ci := 0) (v := .int (nI (z_mb z))) (C := RZ) (T := TZ) (N := 11) hx hb hk inZ hown hK hP 0 rfl rfl 6 (by decide) (hk _ zk62) (fun _ h9 => h9) rfl d_Z_make_57 ?_
  refine lv_iconst (v := nI 1) hx hb d_Z_make_60 (by decide) ?_
  refine lv_iadd hx hb d_Z_make_61 ?_
  refine zh_t (show (nI (z_mb z) + nI 1) = nI (z_mb z + 1) from nI_add _ _) ?_
  refine va_put (D := D) (ci := 0) (v := .int (nI (z_mb z + 1))) (ty := .int) (C := RZ) (T := TZ) (N := 11) hx hb hk inZ tyZ okZ nmZ hown hK hP hD hS 0 rfl rfl 6 (by decide) (hk _ zk62) (fun _ h9 => h9) rfl (by decide +kernel) rfl rfl (Nat.le_of_ble_eq_true rfl) d_Z_make_62 (fun H locs hP hD hS => ?_)
  have hP : va_P D zcl (zW t0 g (zmk (z_oct z) (zt_set (z_tk z) k (zc n) (some q)) (z_ko z) (z_lb z + 1) (z_lo z + n) (z_mb z + 1) (z_rb z) (z_rn z) (z_lf z) (z_ln z) (z_md z) (z_cE z) (z_aE z) (z_cap z) (z_kl z) (z_LB z ++ [q]) (va_up (z_bs z) q (16 * k)) (va_up (z_bz z) q n) (va_up (z_kp z) q false) (va_up (z_rc z) q false))) H := hP
  have hD : va_D A (zW t0 g (zmk (z_oct z) (zt_set (z_tk z) k (zc n) (some q)) (z_ko z) (z_lb z + 1) (z_lo z + n) (z_mb z + 1) (z_rb z) (z_rn z) (z_lf z) (z_ln z) (z_md z) (z_cE z) (z_aE z) (z_cap z) (z_kl z) (z_LB z ++ [q]) (va_up (z_bs z) q (16 * k)) (va_up (z_bz z) q n) (va_up (z_kp z) q false) (va_up (z_rc z) q false))) := hD
  refine lv_aload_n hx hb d_Z_make_65 rfl (lv_at hl 0 rfl) ?_
  exact W.aret (v := va_rf (some q)) hx hb hr (Or.inl ⟨_, rfl⟩) (va_rf_or _) (fun t ht hW => ⟨⟨some q, _, rfl, ⟨k, hroom, Or.inr ⟨hk0, q, hq, rfl, rfl⟩⟩, by rw [ht]; exact hP, va_K.moved hW.alike hK, hD⟩, hS.F ht⟩) hS.2.2 d_Z_make_66
end
section
set_option maxHeartbeats 1000000 in
set_option maxRecDepth 100000 in
theorem c_Z_forgetReached_ok (l : Launch) (D : va_G) (t0 : Nat) (g : ZG) (z : ZT) (sz : Nat) (hz : zOK z) : Met l y_Z_forgetReached w_Z_forgetReached ({ frames := 0, cells := 0, slots := 0, locals := 0 }) (zPre D t0 (zT g z) (zW t0 g z) sz [.ref (g_h g)]) (va_Qv (fun u => u = z3 z (zq_frc z (z_rn z), z_rb z, 0)) (fun (u : ZT) t => zPost D (zT g u) (va_A (zW t0 g z) sz) (zW t0 g u) t) (va_A (zW t0 g z) sz)) 0 0 (va_A (zW t0 g z) sz) := by
  refine Met.ofW (cc := c_Z_forgetReached) (maxL := 2) (ret := none) (by decide) rfl ?_
  intro p e s m args below meth c s₁ B hml hv
  obtain ⟨rfl, hsz, hP, hK, hD0, hE⟩ := hv
  have hx := B.exec
  have hb := B.bytes
  have hr := B.returns
  have hts := atoms_spec (ws := w_Z_forgetReached) B.pre
  have hk : ∀ w ∈ zB, w.before _ s = true := fun w h => hts w (List.mem_cons_of_mem _ h)
  have hown : s.vm.findClass "ZoneHeap" = some m.cls := findClass_of_methodNamed B.named
  have hlocks := B.notSynchronized
  subst hsz
  have hD := hD0.self (sz := s.heap.size)
  generalize hAe : va_A (zW t0 g z) s.heap.size = A at hD hE ⊢
  have hA : ∀ q : Nat, s.heap.size ≤ q → A q := fun q h => by rw [← hAe]; exact Or.inr h
  have hS : va_S A s.heap s.heap [] := va_S.rf
  have hl := lv_entry ([.ref (g_h g)]) (n := 2) (Nat.le_of_ble_eq_true rfl)
  rw [lg_entry_eq]
  generalize (lg_sl ([.ref (g_h g)]) ++ List.replicate (2 - (lg_sl ([.ref (g_h g)])).length) Slot.unset).toArray = ls at hl ⊢
  have hl : lv_has ls 2 [(0, .ref (g_h g))] := hl
  have hrn := hz.2.2.2.1
  refine lv_iconst (v := nI 0) hx hb d_Z_forgetReached_0 (by decide) ?_
  refine lv_istore_n (lv' := [(1, .int (nI 0)), (0, .ref (g_h g))]) hx hb d_Z_forgetReached_1 rfl hl (by decide) rfl (fun ls hl => ?_)
  refine zh_loopH (A := Nat × (Nat → Bool)) (fun q H locs ls => lv_has ls 2 [(0, .ref (g_h g)), (1, .int (nI q.1))] ∧ va_P D zcl (zW t0 g (zmk (z_oct z) (z_tk z) (z_ko z) (z_lb z) (z_lo z) (z_mb z) (z_rb z) (z_rn z) (z_lf z) (z_ln z) (z_md z) (z_cE z) (z_aE z) (z_cap z) (z_kl z) (z_LB z) (z_bs z) (z_bz z) (z_kp z) q.2)) H ∧ va_K D zcl (zT g (zmk (z_oct z) (z_tk z) (z_ko z) (z_lb z) (z_lo z) (z_mb z) (z_rb z) (z_rn z) (z_lf z) (z_ln z) (z_md z) (z_cE z) (z_aE z) (z_cap z) (z_kl z) (z_LB z) (z_bs z) (z_bz z) (z_kp z) q.2)) s ∧ va_D A (zW t0 g (zmk (z_oct z) (z_tk z) (z_ko z) (z_lb z) (z_lo z) (z_mb z) (z_rb z) (z_rn z) (z_lf z) (z_ln z) (z_md z) (z_cE z) (z_aE z) (z_cap z) (z_kl z) (z_LB z) (z_bs z) (z_bz z) (z_kp z) q.2)) ∧ va_S A s.heap H locs ∧ q.1 ≤ z_rn z ∧ q.2 = zq_frc z q.1) (fun q => z_rn z - q.1) ?_ (0, z_rc z) ⟨lv_sub hl [1, 0] rfl, by rw [z_eta]; exact hP, hK, by rw [z_eta]; exact hD, hS, Nat.zero_le _, rfl⟩
  rintro ⟨i, fr⟩ H locs ls ⟨hl, hP, hK, hD, hS, hi, hfr⟩ ih
  have hl : lv_has ls 2 [(0, .ref (g_h g)), (1, .int (nI i))] := hl
  have hP : va_P D zcl (zW t0 g (zmk (z_oct z) (z_tk z) (z_ko z) (z_lb z) (z_lo z) (z_mb z) (z_rb z) (z_rn z) (z_lf z) (z_ln z) (z_md z) (z_cE z) (z_aE z) (z_cap z) (z_kl z) (z_LB z) (z_bs z) (z_bz z) (z_kp z) fr)) H := hP
  have hK : va_K D zcl (zT g (zmk (z_oct z) (z_tk z) (z_ko z) (z_lb z) (z_lo z) (z_mb z) (z_rb z) (z_rn z) (z_lf z) (z_ln z) (z_md z) (z_cE z) (z_aE z) (z_cap z) (z_kl z) (z_LB z) (z_bs z) (z_bz z) (z_kp z) fr)) s := hK
  have hD : va_D A (zW t0 g (zmk (z_oct z) (z_tk z) (z_ko z) (z_lb z) (z_lo z) (z_mb z) (z_rb z) (z_rn z) (z_lf z) (z_ln z) (z_md z) (z_cE z) (z_aE z) (z_cap z) (z_kl z) (z_LB z) (z_bs z) (z_bz z) (z_kp z) fr)) := hD
  have hi : i ≤ z_rn z := hi
  have hfr : fr = zq_frc z i := hfr
  refine lv_iload_n hx hb d_Z_forgetReached_2 rfl (lv_at hl 1 rfl) ?_
  refine lv_aload_n hx hb d_Z_forgetReached_3 rfl (lv_at hl 0 rfl) ?_
  refine va_get (D := D) (ci := 0) (v := .int (nI (z_rn z))) (C := RZ) (T := TZ) (N := 11) hx hb hk inZ hown hK hP 0 rfl rfl 8 (by decide) (hk _ zk64) (fun _ h9 => h9) rfl d_Z_forgetReached_4 ?_
  refine lv_icmp_ge (tgt := 26) hx hb d_Z_forgetReached_7 (by decide) (fun h => ?_) (fun h => ?_)
  · rw [nI_leI (by omega) (by omega)] at h
    have hie : i = z_rn z := by omega
    rw [hie] at hfr
    refine lv_aload_n hx hb d_Z_forgetReached_26 rfl (lv_at hl 0 rfl) ?_
    refine lv_iconst (v := nI 0) hx hb d_Z_forgetReached_27 (by decide) ?_
    refine va_put (D := D) (ci := 0) (v := .int (nI 0)) (ty := .int) (C := RZ) (T := TZ) (N := 11) hx hb hk inZ tyZ okZ nmZ hown hK hP hD hS 0 rfl rfl 8 (by decide) (hk _ zk64) (fun _ h9 => h9) rfl (by decide +kernel) rfl rfl (Nat.le_of_ble_eq_true rfl) d_Z_forgetReached_28 (fun H locs hP hD hS => ?_)
    have hP : va_P D zcl (zW t0 g (zmk (z_oct z) (z_tk z) (z_ko z) (z_lb z) (z_lo z) (z_mb z) (z_rb z) 0 (z_lf z) (z_ln z) (z_md z) (z_cE z) (z_aE z) (z_cap z) (z_kl z) (z_LB z) (z_bs z) (z_bz z) (z_kp z) fr)) H := hP
    have hD : va_D A (zW t0 g (zmk (z_oct z) (z_tk z) (z_ko z) (z_lb z) (z_lo z) (z_mb z) (z_rb z) 0 (z_lf z) (z_ln z) (z_md z) (z_cE z) (z_aE z) (z_cap z) (z_kl z) (z_LB z) (z_bs z) (z_bz z) (z_kp z) fr)) := hD
    exact W.vret hx hb hr (fun t ht hW => ⟨⟨(z3 z (fr, z_rb z, 0)), rfl, by rw [hfr], by rw [ht]; exact hP, va_K.moved hW.alike hK, hD⟩, hS.F ht⟩) hS.2.2 d_Z_forgetReached_31
  rw [nI_leI (by omega) (by omega)] at h
  obtain ⟨a, hra, ha⟩ := hz.2.2.2.2.1 i (by omega)
  refine lv_aload_n hx hb d_Z_forgetReached_10 rfl (lv_at hl 0 rfl) ?_
  refine va_get (D := D) (ci := 0) (v := .ref (g_aR g)) (C := RZ) (T := TZ) (N := 11) hx hb hk inZ hown hK hP 0 rfl rfl 7 (by decide) (hk _ zk63) (fun _ h9 => h9) rfl d_Z_forgetReached_11 ?_
  refine lv_iload_n hx hb d_Z_forgetReached_14 rfl (lv_at hl 1 rfl) ?_
  refine va_aldq hx hb hK hP 4 2 rfl rfl (vp_in_nI (by omega) (by decide)) d_Z_forgetReached_15 ?_
  refine zh_v (show va_rf (z_rb z (nI i).toNatClampNeg) = va_rf (z_rb z i) from by rw [nI_clamp (by omega)]) ?_
  refine zh_v (show va_rf (z_rb z i) = .ref a from by rw [hra]; rfl) ?_
  refine lv_iconst (v := nI 0) hx hb d_Z_forgetReached_16 (by decide) ?_
  refine zh_t (show nI 0 = zb false from rfl) ?_
  obtain ⟨k9, hk9⟩ := zpool (t0 := t0) (g := g) (z := (zmk (z_oct z) (z_tk z) (z_ko z) (z_lb z) (z_lo z) (z_mb z) (z_rb z) (z_rn z) (z_lf z) (z_ln z) (z_md z) (z_cE z) (z_aE z) (z_cap z) (z_kl z) (z_LB z) (z_bs z) (z_bz z) (z_kp z) fr)) ha
  have hD9 := hD
  refine va_putN (D := D) (ci := 1) (v := .int (zb false)) (ty := .boolean) (C := RB) (T := TB) (N := 4) hx hb hk inB tyB okB nmB hown hK hP hD hS k9 hk9 rfl 3 (by decide) (va_Nw.use rfl (hE.1.1 _ zn238)) (fun _ h9 => h9) rfl (by decide +kernel) (zh_nar _) (zh_fit _) (Nat.le_of_ble_eq_true rfl) d_Z_forgetReached_17 (fun H locs hP hD hS => ?_)
  have e9 : _ = zW t0 g (zmk (z_oct z) (z_tk z) (z_ko z) (z_lb z) (z_lo z) (z_mb z) (z_rb z) (z_rn z) (z_lf z) (z_ln z) (z_md z) (z_cE z) (z_aE z) (z_cap z) (z_kl z) (z_LB z) (z_bs z) (z_bz z) (z_kp z) (va_up fr a false)) := zset_rc (t0 := t0) (g := g) (z := (zmk (z_oct z) (z_tk z) (z_ko z) (z_lb z) (z_lo z) (z_mb z) (z_rb z) (z_rn z) (z_lf z) (z_ln z) (z_md z) (z_cE z) (z_aE z) (z_cap z) (z_kl z) (z_LB z) (z_bs z) (z_bz z) (z_kp z) fr)) (v := false) hD9 ha hk9
  have hP : va_P D zcl (zW t0 g (zmk (z_oct z) (z_tk z) (z_ko z) (z_lb z) (z_lo z) (z_mb z) (z_rb z) (z_rn z) (z_lf z) (z_ln z) (z_md z) (z_cE z) (z_aE z) (z_cap z) (z_kl z) (z_LB z) (z_bs z) (z_bz z) (z_kp z) (va_up fr a false))) H := Eq.mp (congrArg (fun w9 => va_P D zcl w9 H) e9) hP
  have hD : va_D A (zW t0 g (zmk (z_oct z) (z_tk z) (z_ko z) (z_lb z) (z_lo z) (z_mb z) (z_rb z) (z_rn z) (z_lf z) (z_ln z) (z_md z) (z_cE z) (z_aE z) (z_cap z) (z_kl z) (z_LB z) (z_bs z) (z_bz z) (z_kp z) (va_up fr a false))) := Eq.mp (congrArg (fun w9 => va_D A w9) e9) hD
  refine lv_iinc (lv' := [(1, .int (nI (i + 1))), (0, .ref (g_h g))]) (v := nI (i + 1)) hx hb d_Z_forgetReached_20 hl (k := 1) rfl (nI_add _ _) (by decide) rfl (fun ls hl => ?_)
  refine lv_goto (tgt := 2) hx hb d_Z_forgetReached_23 (by decide) ?_
  have e8 : va_up fr a false = zq_frc z (i + 1) := by rw [zq_frc_s hra, hfr]
  have hP : va_P D zcl (zW t0 g (zmk (z_oct z) (z_tk z) (z_ko z) (z_lb z) (z_lo z) (z_mb z) (z_rb z) (z_rn z) (z_lf z) (z_ln z) (z_md z) (z_cE z) (z_aE z) (z_cap z) (z_kl z) (z_LB z) (z_bs z) (z_bz z) (z_kp z) (va_up fr a false))) H := hP
  have hD : va_D A (zW t0 g (zmk (z_oct z) (z_tk z) (z_ko z) (z_lb z) (z_lo z) (z_mb z) (z_rb z) (z_rn z) (z_lf z) (z_ln z) (z_md z) (z_cE z) (z_aE z) (z_cap z) (z_kl z) (z_LB z) (z_bs z) (z_bz z) (z_kp z) (va_up fr a false))) := hD
  have hK : va_K D zcl (zT g (zmk (z_oct z) (z_tk z) (z_ko z) (z_lb z) (z_lo z) (z_mb z) (z_rb z) (z_rn z) (z_lf z) (z_ln z) (z_md z) (z_cE z) (z_aE z) (z_cap z) (z_kl z) (z_LB z) (z_bs z) (z_bz z) (z_kp z) (va_up fr a false))) s := hK
  exact ih (i + 1, va_up fr a false) H locs ls ⟨lv_sub hl [1, 0] rfl, hP, hK, hD, hS, by show _ ≤ _; dsimp only; omega, e8⟩ (by show _ < _; (try dsimp only); omega)
end
section
set_option maxHeartbeats 1000000 in
set_option maxRecDepth 100000 in
theorem c_Z_reach_ok (l : Launch) (D : va_G) (t0 : Nat) (g : ZG) (z : ZT) (sz : Nat) (r3 : T3) (v : Int32) (hz : zOK z) (ht : z3ok z r3) : Met l y_Z_reach w_Z_reach ({ frames := 3, cells := 0, slots := 0, locals := 90 }) (zPre D t0 (zT g (z3 z r3)) (zW t0 g (z3 z r3)) sz [.ref (g_h g), .int v]) (va_Qv (fun u => u = z3 z (zr3 z v r3)) (fun (u : ZT) t => zPost D (zT g u) (va_A (zW t0 g (z3 z r3)) sz) (zW t0 g u) t) (va_A (zW t0 g (z3 z r3)) sz)) 0 0 (va_A (zW t0 g (z3 z r3)) sz) := by
  refine Met.ofW (cc := c_Z_reach) (maxL := 3) (ret := none) (by decide) rfl ?_
  intro p e s m args below meth c s₁ B hml hv
  obtain ⟨rfl, hsz, hP, hK, hD0, hE⟩ := hv
  have hx := B.exec
  have hb := B.bytes
  have hr := B.returns
  have hts := atoms_spec (ws := w_Z_reach) B.pre
  have hk : ∀ w ∈ zB, w.before _ s = true := fun w h => hts w (List.mem_cons_of_mem _ h)
  have hown : s.vm.findClass "ZoneHeap" = some m.cls := findClass_of_methodNamed B.named
  have hlocks := B.notSynchronized
  subst hsz
  have hD := hD0.self (sz := s.heap.size)
  generalize hAe : va_A (zW t0 g (z3 z r3)) s.heap.size = A at hD hE ⊢
  have hA : ∀ q : Nat, s.heap.size ≤ q → A q := fun q h => by rw [← hAe]; exact Or.inr h
  have hS : va_S A s.heap s.heap [] := va_S.rf
  have hl := lv_entry ([.ref (g_h g), .int v]) (n := 3) (Nat.le_of_ble_eq_true rfl)
  rw [lg_entry_eq]
  generalize (lg_sl ([.ref (g_h g), .int v]) ++ List.replicate (3 - (lg_sl ([.ref (g_h g), .int v])).length) Slot.unset).toArray = ls at hl ⊢
  have hl : lv_has ls 3 [(0, .ref (g_h g)), (1, .int v)] := hl
  have hz3 := hz.t3 ht
  have ht1 := ht.1
  refine lv_aload_n hx hb d_Z_reach_0 rfl (lv_at hl 0 rfl) ?_
  refine lv_iload_n hx hb d_Z_reach_1 rfl (lv_at hl 1 rfl) ?_
  refine va_csq (zrV (n := 1) (As := [.int v]) (rest := []) ⟨hx, hb, hml, hown, hk⟩ (c_Z_ledToBy_ok l D t0 g (z3 z r3) s.heap.size v hz3) zk103 zk105 ks_Z_ledToBy zk1 kc_Z_ledToBy ⟨rfl, by decide, by decide, by decide⟩ rfl rfl ⟨Nat.le_of_ble_eq_true rfl, Nat.le_of_ble_eq_true rfl⟩ ⟨hP, hK, hD, hS, hA, hE⟩ (va_recv hK hP (ci := 0) (q0 := 0) rfl rfl) rfl hl.1 rfl (Nat.le_of_ble_eq_true rfl) d_Z_reach_2 ⟨Nat.le_of_ble_eq_true rfl, Nat.le_of_ble_eq_true rfl⟩).run (fun r hr1 => ?_)
  have hr1 : r = zq_led z v := hr1
  rcases zopt (r) with hro | ⟨a, hro⟩
  · refine zh_v (show va_rf (r) = .null from by rw [hro]; rfl) ?_
    refine lv_astore_nN (lv' := [(2, .null), (0, .ref (g_h g)), (1, .int v)]) hx hb d_Z_reach_5 rfl hl (by decide) rfl (fun ls hl => ?_)
    refine lv_aload_nN hx hb d_Z_reach_6 rfl (lv_at hl 0 rfl) ?_
    refine lv_ifnullN (tgt := 27) hx hb d_Z_reach_7 (by decide) ?_
    exact W.vret hx hb hr (fun t ht hW => ⟨⟨_, rfl, by unfold zr3; rw [← hr1, hro], by rw [ht]; exact hP, va_K.moved hW.alike hK, hD⟩, hS.F ht⟩) hS.2.2 d_Z_reach_27
  refine zh_v (show va_rf (r) = .ref a from by rw [hro]; rfl) ?_
  have hled : zq_led z v = some a := by rw [← hr1, hro]
  have ha : a ∈ z_LB z := zq_led_in hz hled
  have hP : va_P D zcl (zW t0 g (zmk (z_oct z) (z_tk z) (z_ko z) (z_lb z) (z_lo z) (z_mb z) r3.2.1 r3.2.2 (z_lf z) (z_ln z) (z_md z) (z_cE z) (z_aE z) (z_cap z) (z_kl z) (z_LB z) (z_bs z) (z_bz z) (z_kp z) r3.1)) s.heap := hP
  have hD : va_D A (zW t0 g (zmk (z_oct z) (z_tk z) (z_ko z) (z_lb z) (z_lo z) (z_mb z) r3.2.1 r3.2.2 (z_lf z) (z_ln z) (z_md z) (z_cE z) (z_aE z) (z_cap z) (z_kl z) (z_LB z) (z_bs z) (z_bz z) (z_kp z) r3.1)) := hD
  have hK : va_K D zcl (zT g (zmk (z_oct z) (z_tk z) (z_ko z) (z_lb z) (z_lo z) (z_mb z) r3.2.1 r3.2.2 (z_lf z) (z_ln z) (z_md z) (z_cE z) (z_aE z) (z_cap z) (z_kl z) (z_LB z) (z_bs z) (z_bz z) (z_kp z) r3.1)) s := hK
  refine lv_astore_n (lv' := [(2, .ref a), (0, .ref (g_h g)), (1, .int v)]) hx hb d_Z_reach_5 rfl hl (by decide) rfl (fun ls hl => ?_)
  refine lv_aload_n hx hb d_Z_reach_6 rfl (lv_at hl 0 rfl) ?_
  refine lv_ifnull hx hb d_Z_reach_7 ?_
  refine lv_aload_n hx hb d_Z_reach_10 rfl (lv_at hl 0 rfl) ?_
  obtain ⟨k9, hk9⟩ := zpool (t0 := t0) (g := g) (z := (zmk (z_oct z) (z_tk z) (z_ko z) (z_lb z) (z_lo z) (z_mb z) r3.2.1 r3.2.2 (z_lf z) (z_ln z) (z_md z) (z_cE z) (z_aE z) (z_cap z) (z_kl z) (z_LB z) (z_bs z) (z_bz z) (z_kp z) r3.1)) ha
  refine va_getN (D := D) (ci := 1) (v := .int (zb (r3.1 a))) (C := RB) (T := TB) (N := 4) hx hb hk inB hown hK hP k9 hk9 rfl 3 (by decide) (va_Nw.use rfl (hE.1.1 _ zn238)) (fun _ h9 => h9) rfl d_Z_reach_11 ?_
  refine lv_if_ne (tgt := 27) hx hb d_Z_reach_14 (by decide) (fun h => ?_) (fun h => ?_)
  · rw [zh_zb] at h
    exact W.vret hx hb hr (fun t ht hW => ⟨⟨_, rfl, by unfold zr3; rw [hled]; show _ = z3 z (if r3.1 a = true ∨ 255 ≤ r3.2.2 then r3 else _); rw [if_pos (Or.inl (ts_nf h))]; rfl, by rw [ht]; exact hP, va_K.moved hW.alike hK, hD⟩, hS.F ht⟩) hS.2.2 d_Z_reach_27
  rw [zh_zb] at h
  have hrc := h
  refine lv_aload_n hx hb d_Z_reach_17 rfl (lv_at hl 1 rfl) ?_
  refine va_get (D := D) (ci := 0) (v := .int (nI r3.2.2)) (C := RZ) (T := TZ) (N := 11) hx hb hk inZ hown hK hP 0 rfl rfl 8 (by decide) (hk _ zk64) (fun _ h9 => h9) rfl d_Z_reach_18 ?_
  refine lv_sipush (v := nI 255) hx hb d_Z_reach_21 (by decide) ?_
  refine lv_icmp_lt (tgt := 28) hx hb d_Z_reach_24 (by decide) (fun h => ?_) (fun h => ?_)
  rotate_left 1
  · rw [nI_ltI (by omega) (by omega)] at h
    exact W.vret hx hb hr (fun t ht hW => ⟨⟨_, rfl, by unfold zr3; rw [hled]; show _ = z3 z (if r3.1 a = true ∨ 255 ≤ r3.2.2 then r3 else _); rw [if_pos (Or.inr (by omega))]; rfl, by rw [ht]; exact hP, va_K.moved hW.alike hK, hD⟩, hS.F ht⟩) hS.2.2 d_Z_reach_27
  rw [nI_ltI (by omega) (by omega)] at h
  have e7 : zr3 z v r3 = (va_up r3.1 a true, va_up r3.2.1 r3.2.2 (some a), r3.2.2 + 1) := by unfold zr3; rw [hled]; show (if r3.1 a = true ∨ 255 ≤ r3.2.2 then r3 else _) = _; rw [if_neg (by rw [hrc]; rintro (q | q); (cases q); (omega))]
  refine lv_aload_n hx hb d_Z_reach_28 rfl (lv_at hl 0 rfl) ?_
  refine lv_iconst (v := nI 1) hx hb d_Z_reach_29 (by decide) ?_
  refine zh_t (show nI 1 = zb true from rfl) ?_
  obtain ⟨k9, hk9⟩ := zpool (t0 := t0) (g := g) (z := (zmk (z_oct z) (z_tk z) (z_ko z) (z_lb z) (z_lo z) (z_mb z) r3.2.1 r3.2.2 (z_lf z) (z_ln z) (z_md z) (z_cE z) (z_aE z) (z_cap z) (z_kl z) (z_LB z) (z_bs z) (z_bz z) (z_kp z) r3.1)) ha
  have hD9 := hD
  refine va_putN (D := D) (ci := 1) (v := .int (zb true)) (ty := .boolean) (C := RB) (T := TB) (N := 4) hx hb hk inB tyB okB nmB hown hK hP hD hS k9 hk9 rfl 3 (by decide) (va_Nw.use rfl (hE.1.1 _ zn238)) (fun _ h9 => h9) rfl (by decide +kernel) (zh_nar _) (zh_fit _) (Nat.le_of_ble_eq_true rfl) d_Z_reach_30 (fun H locs hP hD hS => ?_)
  have e9 : _ = zW t0 g (zmk (z_oct z) (z_tk z) (z_ko z) (z_lb z) (z_lo z) (z_mb z) r3.2.1 r3.2.2 (z_lf z) (z_ln z) (z_md z) (z_cE z) (z_aE z) (z_cap z) (z_kl z) (z_LB z) (z_bs z) (z_bz z) (z_kp z) (va_up r3.1 a true)) := zset_rc (t0 := t0) (g := g) (z := (zmk (z_oct z) (z_tk z) (z_ko z) (z_lb z) (z_lo z) (z_mb z) r3.2.1 r3.2.2 (z_lf z) (z_ln z) (z_md z) (z_cE z) (z_aE z) (z_cap z) (z_kl z) (z_LB z) (z_bs z) (z_bz z) (z_kp z) r3.1)) (v := true) hD9 ha hk9
  have hP : va_P D zcl (zW t0 g (zmk (z_oct z) (z_tk z) (z_ko z) (z_lb z) (z_lo z) (z_mb z) r3.2.1 r3.2.2 (z_lf z) (z_ln z) (z_md z) (z_cE z) (z_aE z) (z_cap z) (z_kl z) (z_LB z) (z_bs z) (z_bz z) (z_kp z) (va_up r3.1 a true))) H := Eq.mp (congrArg (fun w9 => va_P D zcl w9 H) e9) hP
  have hD : va_D A (zW t0 g (zmk (z_oct z) (z_tk z) (z_ko z) (z_lb z) (z_lo z) (z_mb z) r3.2.1 r3.2.2 (z_lf z) (z_ln z) (z_md z) (z_cE z) (z_aE z) (z_cap z) (z_kl z) (z_LB z) (z_bs z) (z_bz z) (z_kp z) (va_up r3.1 a true))) := Eq.mp (congrArg (fun w9 => va_D A w9) e9) hD
  refine lv_aload_n hx hb d_Z_reach_33 rfl (lv_at hl 1 rfl) ?_
  refine va_get (D := D) (ci := 0) (v := .ref (g_aR g)) (C := RZ) (T := TZ) (N := 11) hx hb hk inZ hown hK hP 0 rfl rfl 7 (by decide) (hk _ zk63) (fun _ h9 => h9) rfl d_Z_reach_34 ?_
  refine lv_aload_n hx hb d_Z_reach_37 rfl (lv_at hl 1 rfl) ?_
  refine va_get (D := D) (ci := 0) (v := .int (nI r3.2.2)) (C := RZ) (T := TZ) (N := 11) hx hb hk inZ hown hK hP 0 rfl rfl 8 (by decide) (hk _ zk64) (fun _ h9 => h9) rfl d_Z_reach_38 ?_
  refine lv_aload_n hx hb d_Z_reach_41 rfl (lv_at hl 0 rfl) ?_
  obtain ⟨k9, hk9⟩ := zpool (t0 := t0) (g := g) (z := (zmk (z_oct z) (z_tk z) (z_ko z) (z_lb z) (z_lo z) (z_mb z) r3.2.1 r3.2.2 (z_lf z) (z_ln z) (z_md z) (z_cE z) (z_aE z) (z_cap z) (z_kl z) (z_LB z) (z_bs z) (z_bz z) (z_kp z) (va_up r3.1 a true))) ha
  refine va_astq (r := (RB, TB, 4)) hx hb hK hP hD hS 4 2 k9 1 rfl rfl hk9 rfl (vp_in_nI (by omega) (by decide)) d_Z_reach_42 (fun H locs hP hD hS => ?_)
  rw [nI_clamp (by omega)] at hP hD
  have hP : va_P D zcl (zW t0 g (zmk (z_oct z) (z_tk z) (z_ko z) (z_lb z) (z_lo z) (z_mb z) (va_up r3.2.1 r3.2.2 (some a)) r3.2.2 (z_lf z) (z_ln z) (z_md z) (z_cE z) (z_aE z) (z_cap z) (z_kl z) (z_LB z) (z_bs z) (z_bz z) (z_kp z) (va_up r3.1 a true))) H := hP
  have hD : va_D A (zW t0 g (zmk (z_oct z) (z_tk z) (z_ko z) (z_lb z) (z_lo z) (z_mb z) (va_up r3.2.1 r3.2.2 (some a)) r3.2.2 (z_lf z) (z_ln z) (z_md z) (z_cE z) (z_aE z) (z_cap z) (z_kl z) (z_LB z) (z_bs z) (z_bz z) (z_kp z) (va_up r3.1 a true))) := hD
  refine lv_aload_n hx hb d_Z_reach_43 rfl (lv_at hl 1 rfl) ?_
  refine lv_dup hx hb d_Z_reach_44 rfl ?_
  refine va_get (D := D) (ci := 0) (v := .int (nI r3.2.2)) (C := RZ) (T := TZ) (N := 11) hx hb hk inZ hown hK hP 0 rfl rfl 8 (by decide) (hk _ zk64) (fun _ h9 => h9) rfl d_Z_reach_45 ?_
  refine lv_iconst (v := nI 1) hx hb d_Z_reach_48 (by decide) ?_
  refine lv_iadd hx hb d_Z_reach_49 ?_
  refine zh_t (show (nI r3.2.2 + nI 1) = nI (r3.2.2 + 1) from nI_add _ _) ?_
  refine va_put (D := D) (ci := 0) (v := .int (nI (r3.2.2 + 1))) (ty := .int) (C := RZ) (T := TZ) (N := 11) hx hb hk inZ tyZ okZ nmZ hown hK hP hD hS 0 rfl rfl 8 (by decide) (hk _ zk64) (fun _ h9 => h9) rfl (by decide +kernel) rfl rfl (Nat.le_of_ble_eq_true rfl) d_Z_reach_50 (fun H locs hP hD hS => ?_)
  have hP : va_P D zcl (zW t0 g (zmk (z_oct z) (z_tk z) (z_ko z) (z_lb z) (z_lo z) (z_mb z) (va_up r3.2.1 r3.2.2 (some a)) (r3.2.2 + 1) (z_lf z) (z_ln z) (z_md z) (z_cE z) (z_aE z) (z_cap z) (z_kl z) (z_LB z) (z_bs z) (z_bz z) (z_kp z) (va_up r3.1 a true))) H := hP
  have hD : va_D A (zW t0 g (zmk (z_oct z) (z_tk z) (z_ko z) (z_lb z) (z_lo z) (z_mb z) (va_up r3.2.1 r3.2.2 (some a)) (r3.2.2 + 1) (z_lf z) (z_ln z) (z_md z) (z_cE z) (z_aE z) (z_cap z) (z_kl z) (z_LB z) (z_bs z) (z_bz z) (z_kp z) (va_up r3.1 a true))) := hD
  exact W.vret hx hb hr (fun t ht hW => ⟨⟨(zmk (z_oct z) (z_tk z) (z_ko z) (z_lb z) (z_lo z) (z_mb z) (va_up r3.2.1 r3.2.2 (some a)) (r3.2.2 + 1) (z_lf z) (z_ln z) (z_md z) (z_cE z) (z_aE z) (z_cap z) (z_kl z) (z_LB z) (z_bs z) (z_bz z) (z_kp z) (va_up r3.1 a true)), rfl, by rw [e7]; rfl, by rw [ht]; exact hP, va_K.moved hW.alike hK, hD⟩, hS.F ht⟩) hS.2.2 d_Z_reach_53
set_option maxHeartbeats 1000000 in
set_option maxRecDepth 100000 in
theorem c_Z_reachFromWordsOf_ok (l : Launch) (D : va_G) (t0 : Nat) (g : ZG) (z : ZT) (sz : Nat) (r3 : T3) (a : Nat) (ha : a ∈ z_LB z) (hz : zOK z) (ht : z3ok z r3) : Met l y_Z_reachFromWordsOf w_Z_reachFromWordsOf ({ frames := 4, cells := 0, slots := 0, locals := 120 }) (zPre D t0 (zT g (z3 z r3)) (zW t0 g (z3 z r3)) sz [.ref (g_h g), .ref a]) (va_Qv (fun u => u = z3 z (zw3 z a r3 (z_bz z a / 4))) (fun (u : ZT) t => zPost D (zT g u) (va_A (zW t0 g (z3 z r3)) sz) (zW t0 g u) t) (va_A (zW t0 g (z3 z r3)) sz)) 0 0 (va_A (zW t0 g (z3 z r3)) sz) := by
  refine Met.ofW (cc := c_Z_reachFromWordsOf) (maxL := 3) (ret := none) (by decide) rfl ?_
  intro p e s m args below meth c s₁ B hml hv
  obtain ⟨rfl, hsz, hP, hK, hD0, hE⟩ := hv
  have hx := B.exec
  have hb := B.bytes
  have hr := B.returns
  have hts := atoms_spec (ws := w_Z_reachFromWordsOf) B.pre
  have hk : ∀ w ∈ zB, w.before _ s = true := fun w h => hts w (List.mem_cons_of_mem _ h)
  have hown : s.vm.findClass "ZoneHeap" = some m.cls := findClass_of_methodNamed B.named
  have hlocks := B.notSynchronized
  subst hsz
  have hD := hD0.self (sz := s.heap.size)
  generalize hAe : va_A (zW t0 g (z3 z r3)) s.heap.size = A at hD hE ⊢
  have hA : ∀ q : Nat, s.heap.size ≤ q → A q := fun q h => by rw [← hAe]; exact Or.inr h
  have hS : va_S A s.heap s.heap [] := va_S.rf
  have hl := lv_entry ([.ref (g_h g), .ref a]) (n := 3) (Nat.le_of_ble_eq_true rfl)
  rw [lg_entry_eq]
  generalize (lg_sl ([.ref (g_h g), .ref a]) ++ List.replicate (3 - (lg_sl ([.ref (g_h g), .ref a])).length) Slot.unset).toArray = ls at hl ⊢
  have hl : lv_has ls 3 [(0, .ref (g_h g)), (1, .ref a)] := hl
  have hbk := hz.blk ha
  refine lv_iconst (v := nI 0) hx hb d_Z_reachFromWordsOf_0 (by decide) ?_
  refine lv_istore_n (lv' := [(2, .int (nI 0)), (0, .ref (g_h g)), (1, .ref a)]) hx hb d_Z_reachFromWordsOf_1 rfl hl (by decide) rfl (fun ls hl => ?_)
  refine zh_loopH (A := Nat) (fun q H locs ls => lv_has ls 3 [(0, .ref (g_h g)), (1, .ref a), (2, .int (nI (4 * q)))] ∧ va_P D zcl (zW t0 g (z3 z (zw3 z a r3 q))) H ∧ va_K D zcl (zT g (z3 z (zw3 z a r3 q))) s ∧ va_D A (zW t0 g (z3 z (zw3 z a r3 q))) ∧ va_S A s.heap H locs ∧ 4 * q ≤ z_bz z a) (fun q => z_bz z a - q) ?_ 0 ⟨lv_sub hl [1, 2, 0] rfl, hP, hK, hD, hS, Nat.zero_le _⟩
  rintro i H locs ls ⟨hl, hP, hK, hD, hS, hi⟩ ih
  have hl : lv_has ls 3 [(0, .ref (g_h g)), (1, .ref a), (2, .int (nI (4 * i)))] := hl
  have hP : va_P D zcl (zW t0 g (z3 z (zw3 z a r3 i))) H := hP
  have hK : va_K D zcl (zT g (z3 z (zw3 z a r3 i))) s := hK
  have hD : va_D A (zW t0 g (z3 z (zw3 z a r3 i))) := hD
  have hi : 4 * i ≤ z_bz z a := hi
  have hti := ht.words (a := a) hz i
  have hz3 := hz.t3 hti
  refine lv_iload_n hx hb d_Z_reachFromWordsOf_2 rfl (lv_at hl 2 rfl) ?_
  refine lv_iconst (v := nI 4) hx hb d_Z_reachFromWordsOf_3 (by decide) ?_
  refine lv_iadd hx hb d_Z_reachFromWordsOf_4 ?_
  refine zh_t (show (nI (4 * i) + nI 4) = nI ((4 * i) + 4) from nI_add _ _) ?_
  refine lv_aload_n hx hb d_Z_reachFromWordsOf_5 rfl (lv_at hl 1 rfl) ?_
  obtain ⟨k9, hk9⟩ := zpool (t0 := t0) (g := g) (z := (z3 z (zw3 z a r3 i))) (show a ∈ z_LB (z3 z (zw3 z a r3 i)) from ha)
  refine va_getN (D := D) (ci := 1) (v := .int (nI ((z_bz (z3 z (zw3 z a r3 i))) a))) (C := RB) (T := TB) (N := 4) hx hb hk inB hown hK hP k9 hk9 rfl 1 (by decide) (va_Nw.use rfl (hE.1.1 _ zn234)) (fun _ h9 => h9) rfl d_Z_reachFromWordsOf_6 ?_
  refine zh_t (show nI (z_bz (z3 z (zw3 z a r3 i)) a) = nI (z_bz z a) from rfl) ?_
  refine lv_icmp_gt (tgt := 32) hx hb d_Z_reachFromWordsOf_9 (by decide) (fun h => ?_) (fun h => ?_)
  · rw [nI_ltI (by omega) (by omega)] at h
    have hie : i = z_bz z a / 4 := by omega
    rw [hie] at hP hD hK
    exact W.vret hx hb hr (fun t ht hW => ⟨⟨(z3 z (zw3 z a r3 (z_bz z a / 4))), rfl, rfl, by rw [ht]; exact hP, va_K.moved hW.alike hK, hD⟩, hS.F ht⟩) hS.2.2 d_Z_reachFromWordsOf_32
  rw [nI_ltI (by omega) (by omega)] at h
  refine lv_aload_n hx hb d_Z_reachFromWordsOf_12 rfl (lv_at hl 0 rfl) ?_
  refine lv_aload_n hx hb d_Z_reachFromWordsOf_13 rfl (lv_at hl 0 rfl) ?_
  refine lv_aload_n hx hb d_Z_reachFromWordsOf_14 rfl (lv_at hl 1 rfl) ?_
  obtain ⟨k9, hk9⟩ := zpool (t0 := t0) (g := g) (z := (z3 z (zw3 z a r3 i))) (show a ∈ z_LB (z3 z (zw3 z a r3 i)) from ha)
  refine va_getN (D := D) (ci := 1) (v := .int (nI (z_bs (z3 z (zw3 z a r3 i)) a))) (C := RB) (T := TB) (N := 4) hx hb hk inB hown hK hP k9 hk9 rfl 0 (by decide) (va_Nw.use rfl (hE.1.1 _ zn232)) (fun _ h9 => h9) rfl d_Z_reachFromWordsOf_15 ?_
  refine zh_t (show nI (z_bs (z3 z (zw3 z a r3 i)) a) = nI (z_bs z a) from rfl) ?_
  refine lv_iload_n hx hb d_Z_reachFromWordsOf_18 rfl (lv_at hl 2 rfl) ?_
  refine lv_iadd hx hb d_Z_reachFromWordsOf_19 ?_
  refine zh_t (show (nI (z_bs z a) + nI (4 * i)) = nI (z_bs z a + (4 * i)) from nI_add _ _) ?_
  refine vp_callSi (zrV (n := 1) (As := [.int (nI (z_bs z a + (4 * i)))]) (rest := [.ref (g_h g)]) ⟨hx, hb, hml, hown, hk⟩ (c_Z_wordAt_ok l D t0 g (z3 z (zw3 z a r3 i)) H.size (z_bs z a + 4 * i) hz3 (by omega)) zk127 zk129 ks_Z_wordAt zk1 kc_Z_wordAt ⟨rfl, by decide, by decide, by decide⟩ rfl rfl ⟨Nat.le_of_ble_eq_true rfl, Nat.le_of_ble_eq_true rfl⟩ ⟨hP, hK, hD, hS, hA, hE⟩ (va_recv hK hP (ci := 0) (q0 := 0) rfl rfl) rfl hl.1 rfl (Nat.le_of_ble_eq_true rfl) d_Z_reachFromWordsOf_20 ⟨Nat.le_of_ble_eq_true rfl, Nat.le_of_ble_eq_true rfl⟩).run (fun r hr1 => ?_)
  subst hr1
  refine zh_t (y := nI (zwd (z_oct z) (z_bs z a + 4 * i))) rfl ?_
  refine zcv (zrV (n := 1) (As := [.int (nI (zwd (z_oct z) (z_bs z a + 4 * i)))]) (rest := []) ⟨hx, hb, hml, hown, hk⟩ (c_Z_reach_ok l D t0 g z H.size (zw3 z a r3 i) (nI (zwd (z_oct z) (z_bs z a + 4 * i))) hz hti) zk99 zk101 ks_Z_reach zk1 kc_Z_reach ⟨rfl, by decide, by decide, by decide⟩ rfl rfl ⟨Nat.le_of_ble_eq_true rfl, Nat.le_of_ble_eq_true rfl⟩ ⟨hP, hK, hD, hS, hA, hE⟩ (va_recv hK hP (ci := 0) (q0 := 0) rfl rfl) rfl hl.1 rfl (Nat.le_of_ble_eq_true rfl) d_Z_reachFromWordsOf_23 ⟨Nat.le_of_ble_eq_true rfl, Nat.le_of_ble_eq_true rfl⟩) ⟨hP, hK, hD, hS, hA, hE⟩ (fun u H locs hu hP hK hD hS => ?_)
  subst hu
  have hP : va_P D zcl (zW t0 g (z3 z (zw3 z a r3 (i + 1)))) H := hP
  have hK : va_K D zcl (zT g (z3 z (zw3 z a r3 (i + 1)))) s := hK
  have hD : va_D A (zW t0 g (z3 z (zw3 z a r3 (i + 1)))) := hD
  refine lv_iinc (lv' := [(2, .int (nI ((4 * i) + 4))), (0, .ref (g_h g)), (1, .ref a)]) (v := nI ((4 * i) + 4)) hx hb d_Z_reachFromWordsOf_26 hl (k := 2) rfl (nI_add _ _) (by decide) rfl (fun ls hl => ?_)
  have hl : lv_has ls 3 [(2, .int (nI (4 * (i + 1)))), (0, .ref (g_h g)), (1, .ref a)] := by rw [show 4 * (i + 1) = 4 * i + 4 by omega]; exact hl
  refine lv_goto (tgt := 2) hx hb d_Z_reachFromWordsOf_29 (by decide) ?_
  exact ih (i + 1) H locs ls ⟨lv_sub hl [1, 2, 0] rfl, hP, hK, hD, hS, by omega⟩ (by show _ < _; (try dsimp only); omega)
set_option maxHeartbeats 1000000 in
set_option maxRecDepth 100000 in
theorem c_Z_noteLost_ok (l : Launch) (D : va_G) (t0 : Nat) (g : ZG) (z : ZT) (sz : Nat) (hz : zOK z) : Met l y_Z_noteLost w_Z_noteLost ({ frames := 2, cells := 0, slots := 0, locals := 60 }) (zPre D t0 (zT g z) (zW t0 g z) sz [.ref (g_h g)]) (va_Qv (fun u => u = zq_note z 512) (fun (u : ZT) t => zPost D (zT g u) (va_A (zW t0 g z) sz) (zW t0 g u) t) (va_A (zW t0 g z) sz)) 0 0 (va_A (zW t0 g z) sz) := by
  refine Met.ofW (cc := c_Z_noteLost) (maxL := 3) (ret := none) (by decide) rfl ?_
  intro p e s m args below meth c s₁ B hml hv
  obtain ⟨rfl, hsz, hP, hK, hD0, hE⟩ := hv
  have hx := B.exec
  have hb := B.bytes
  have hr := B.returns
  have hts := atoms_spec (ws := w_Z_noteLost) B.pre
  have hk : ∀ w ∈ zB, w.before _ s = true := fun w h => hts w (List.mem_cons_of_mem _ h)
  have hown : s.vm.findClass "ZoneHeap" = some m.cls := findClass_of_methodNamed B.named
  have hlocks := B.notSynchronized
  subst hsz
  have hD := hD0.self (sz := s.heap.size)
  generalize hAe : va_A (zW t0 g z) s.heap.size = A at hD hE ⊢
  have hA : ∀ q : Nat, s.heap.size ≤ q → A q := fun q h => by rw [← hAe]; exact Or.inr h
  have hS : va_S A s.heap s.heap [] := va_S.rf
  have hl := lv_entry ([.ref (g_h g)]) (n := 3) (Nat.le_of_ble_eq_true rfl)
  rw [lg_entry_eq]
  generalize (lg_sl ([.ref (g_h g)]) ++ List.replicate (3 - (lg_sl ([.ref (g_h g)])).length) Slot.unset).toArray = ls at hl ⊢
  have hl : lv_has ls 3 [(0, .ref (g_h g))] := hl
  refine lv_aload_n hx hb d_Z_noteLost_0 rfl (lv_at hl 0 rfl) ?_
  refine lv_iconst (v := nI 0) hx hb d_Z_noteLost_1 (by decide) ?_
  refine va_put (D := D) (ci := 0) (v := .int (nI 0)) (ty := .int) (C := RZ) (T := TZ) (N := 11) hx hb hk inZ tyZ okZ nmZ hown hK hP hD hS 0 rfl rfl 10 (by decide) (hk _ zk66) (fun _ h9 => h9) rfl (by decide +kernel) rfl rfl (Nat.le_of_ble_eq_true rfl) d_Z_noteLost_2 (fun H locs hP hD hS => ?_)
  have hP : va_P D zcl (zW t0 g (zmk (z_oct z) (z_tk z) (z_ko z) (z_lb z) (z_lo z) (z_mb z) (z_rb z) (z_rn z) (z_lf z) 0 (z_md z) (z_cE z) (z_aE z) (z_cap z) (z_kl z) (z_LB z) (z_bs z) (z_bz z) (z_kp z) (z_rc z))) H := hP
  have hD : va_D A (zW t0 g (zmk (z_oct z) (z_tk z) (z_ko z) (z_lb z) (z_lo z) (z_mb z) (z_rb z) (z_rn z) (z_lf z) 0 (z_md z) (z_cE z) (z_aE z) (z_cap z) (z_kl z) (z_LB z) (z_bs z) (z_bz z) (z_kp z) (z_rc z))) := hD
  refine lv_iconst (v := nI 0) hx hb d_Z_noteLost_5 (by decide) ?_
  refine lv_istore_n (lv' := [(1, .int (nI 0)), (0, .ref (g_h g))]) hx hb d_Z_noteLost_6 rfl hl (by decide) rfl (fun ls hl => ?_)
  have hnl : ∀ c : Nat, (zq_nl z c).1 ≤ 255 := zq_nl_le
  refine zh_loopH (A := Nat) (fun q H locs ls => lv_has ls 3 [(0, .ref (g_h g)), (1, .int (nI q))] ∧ va_P D zcl (zW t0 g (zq_note z q)) H ∧ va_K D zcl (zT g (zq_note z q)) s ∧ va_D A (zW t0 g (zq_note z q)) ∧ va_S A s.heap H locs ∧ q ≤ 512) (fun q => 512 - q) ?_ 0 ⟨lv_sub hl [1, 0] rfl, hP, hK, hD, hS, Nat.zero_le _⟩
  rintro i H locs ls ⟨hl, hP, hK, hD, hS, hi⟩ ih
  have hl : lv_has ls 3 [(0, .ref (g_h g)), (1, .int (nI i))] := hl
  have hP : va_P D zcl (zW t0 g (zq_note z i)) H := hP
  have hK : va_K D zcl (zT g (zq_note z i)) s := hK
  have hD : va_D A (zW t0 g (zq_note z i)) := hD
  have hi : i ≤ 512 := hi
  have hz9 : zOK (zq_note z i) := ⟨hz.1, hz.2.1, hz.2.2.1, hz.2.2.2.1, hz.2.2.2.2.1, hnl i, hz.2.2.2.2.2.2⟩
  refine lv_iload_n hx hb d_Z_noteLost_7 rfl (lv_at hl 1 rfl) ?_
  refine lv_sipush (v := nI 512) hx hb d_Z_noteLost_8 (by decide) ?_
  refine lv_icmp_ge (tgt := 80) hx hb d_Z_noteLost_11 (by decide) (fun h => ?_) (fun h => ?_)
  · rw [nI_leI (by omega) (by omega)] at h
    have hie : i = 512 := by omega
    rw [hie] at hP hD hK
    exact W.vret hx hb hr (fun t ht hW => ⟨⟨(zq_note z 512), rfl, rfl, by rw [ht]; exact hP, va_K.moved hW.alike hK, hD⟩, hS.F ht⟩) hS.2.2 d_Z_noteLost_80
  rw [nI_leI (by omega) (by omega)] at h
  refine lv_aload_n hx hb d_Z_noteLost_14 rfl (lv_at hl 0 rfl) ?_
  refine lv_iload_n hx hb d_Z_noteLost_15 rfl (lv_at hl 1 rfl) ?_
  refine lv_bipush (v := nI 16) hx hb d_Z_noteLost_16 (by decide) ?_
  refine lv_imul hx hb d_Z_noteLost_18 ?_
  refine zh_t (show (nI i * nI 16) = nI (i * 16) from pk_mul _ _) ?_
  refine va_csq (zrV (n := 1) (As := [.int (nI (i * 16))]) (rest := []) ⟨hx, hb, hml, hown, hk⟩ (c_Z_standingAt_ok l D t0 g (zq_note z i) H.size (nI (i * 16)) hz9) zk107 zk109 ks_Z_standingAt zk1 kc_Z_standingAt ⟨rfl, by decide, by decide, by decide⟩ rfl rfl ⟨Nat.le_of_ble_eq_true rfl, Nat.le_of_ble_eq_true rfl⟩ ⟨hP, hK, hD, hS, hA, hE⟩ (va_recv hK hP (ci := 0) (q0 := 0) rfl rfl) rfl hl.1 rfl (Nat.le_of_ble_eq_true rfl) d_Z_noteLost_19 ⟨Nat.le_of_ble_eq_true rfl, Nat.le_of_ble_eq_true rfl⟩).run (fun r hr1 => ?_)
  have hr1 : r = zq_st z (nI (16 * i)) := by rw [hr1, Nat.mul_comm]; rfl
  rcases zopt (r) with hro | ⟨a, hro⟩
  · refine zh_v (show va_rf (r) = .null from by rw [hro]; rfl) ?_
    refine lv_astore_nN (lv' := [(2, .null), (0, .ref (g_h g)), (1, .int (nI i))]) hx hb d_Z_noteLost_22 rfl hl (by decide) rfl (fun ls hl => ?_)
    refine lv_aload_nN hx hb d_Z_noteLost_23 rfl (lv_at hl 0 rfl) ?_
    refine lv_ifnullN (tgt := 74) hx hb d_Z_noteLost_24 (by decide) ?_
    have hst : zq_st z (nI (16 * i)) = none := by rw [← hr1, hro]
    have e6 : zq_nl z (i + 1) = zq_nl z i := by show (if zq_lostP z i = true ∧ (zq_nl z i).1 < 255 then _ else _) = _; rw [if_neg (by unfold zq_lostP; rw [hst]; rintro ⟨q, -⟩; cases q)]
    have e5 : zq_note z (i + 1) = (zq_note z i) := by unfold zq_note; rw [e6]
    refine lv_iinc (lv' := [(1, .int (nI (i + 1))), (2, .null), (0, .ref (g_h g))]) (v := nI (i + 1)) hx hb d_Z_noteLost_74 hl (k := 2) rfl (nI_add _ _) (by decide) rfl (fun ls hl => ?_)
    refine lv_goto (tgt := 7) hx hb d_Z_noteLost_77 (by decide) ?_
    rw [← e5] at hP hK hD
    exact ih (i + 1) H locs ls ⟨lv_sub hl [2, 0] rfl, hP, hK, hD, hS, by omega⟩ (by show _ < _; (try dsimp only); omega)
  refine zh_v (show va_rf (r) = .ref a from by rw [hro]; rfl) ?_
  have hst : zq_st z (nI (16 * i)) = some a := by rw [← hr1, hro]
  have ha : a ∈ z_LB z := zq_st_in hz hst
  have hbs : z_bs z a = 16 * i := by obtain ⟨x, q1, q2, -, q4⟩ := zq_st_of hst; have := (nI_eq (by omega) (by omega)).mp q2; omega
  have hlp : zq_lostP z i = (!z_kp z a && !z_rc z a) := by unfold zq_lostP; rw [hst]
  have hP : va_P D zcl (zW t0 g (zmk (z_oct z) (z_tk z) (z_ko z) (z_lb z) (z_lo z) (z_mb z) (z_rb z) (z_rn z) ((zq_nl z i).2) ((zq_nl z i).1) (z_md z) (z_cE z) (z_aE z) (z_cap z) (z_kl z) (z_LB z) (z_bs z) (z_bz z) (z_kp z) (z_rc z))) H := hP
  have hD : va_D A (zW t0 g (zmk (z_oct z) (z_tk z) (z_ko z) (z_lb z) (z_lo z) (z_mb z) (z_rb z) (z_rn z) ((zq_nl z i).2) ((zq_nl z i).1) (z_md z) (z_cE z) (z_aE z) (z_cap z) (z_kl z) (z_LB z) (z_bs z) (z_bz z) (z_kp z) (z_rc z))) := hD
  have hK : va_K D zcl (zT g (zmk (z_oct z) (z_tk z) (z_ko z) (z_lb z) (z_lo z) (z_mb z) (z_rb z) (z_rn z) ((zq_nl z i).2) ((zq_nl z i).1) (z_md z) (z_cE z) (z_aE z) (z_cap z) (z_kl z) (z_LB z) (z_bs z) (z_bz z) (z_kp z) (z_rc z))) s := hK
  have hn9 := hnl i
  refine lv_astore_n (lv' := [(2, .ref a), (0, .ref (g_h g)), (1, .int (nI i))]) hx hb d_Z_noteLost_22 rfl hl (by decide) rfl (fun ls hl => ?_)
  refine lv_aload_n hx hb d_Z_noteLost_23 rfl (lv_at hl 0 rfl) ?_
  refine lv_ifnull hx hb d_Z_noteLost_24 ?_
  refine lv_aload_n hx hb d_Z_noteLost_27 rfl (lv_at hl 0 rfl) ?_
  obtain ⟨k9, hk9⟩ := zpool (t0 := t0) (g := g) (z := (zmk (z_oct z) (z_tk z) (z_ko z) (z_lb z) (z_lo z) (z_mb z) (z_rb z) (z_rn z) ((zq_nl z i).2) ((zq_nl z i).1) (z_md z) (z_cE z) (z_aE z) (z_cap z) (z_kl z) (z_LB z) (z_bs z) (z_bz z) (z_kp z) (z_rc z))) ha
  refine va_getN (D := D) (ci := 1) (v := .int (zb (z_kp z a))) (C := RB) (T := TB) (N := 4) hx hb hk inB hown hK hP k9 hk9 rfl 2 (by decide) (va_Nw.use rfl (hE.1.1 _ zn236)) (fun _ h9 => h9) rfl d_Z_noteLost_28 ?_
  refine lv_if_ne (tgt := 74) hx hb d_Z_noteLost_31 (by decide) (fun h => ?_) (fun h => ?_)
  · rw [zh_zb] at h
    have h := ts_nf h
    have e6 : zq_nl z (i + 1) = zq_nl z i := by show (if zq_lostP z i = true ∧ (zq_nl z i).1 < 255 then _ else _) = _; rw [if_neg (by rw [hlp, h]; rintro ⟨q, -⟩; cases q)]
    have e5 : zq_note z (i + 1) = (zmk (z_oct z) (z_tk z) (z_ko z) (z_lb z) (z_lo z) (z_mb z) (z_rb z) (z_rn z) ((zq_nl z i).2) ((zq_nl z i).1) (z_md z) (z_cE z) (z_aE z) (z_cap z) (z_kl z) (z_LB z) (z_bs z) (z_bz z) (z_kp z) (z_rc z)) := by unfold zq_note; rw [e6]
    refine lv_iinc (lv' := [(1, .int (nI (i + 1))), (2, .ref a), (0, .ref (g_h g))]) (v := nI (i + 1)) hx hb d_Z_noteLost_74 hl (k := 2) rfl (nI_add _ _) (by decide) rfl (fun ls hl => ?_)
    refine lv_goto (tgt := 7) hx hb d_Z_noteLost_77 (by decide) ?_
    rw [← e5] at hP hK hD
    exact ih (i + 1) H locs ls ⟨lv_sub hl [2, 0] rfl, hP, hK, hD, hS, by omega⟩ (by show _ < _; (try dsimp only); omega)
  rw [zh_zb] at h
  have hkp := h
  refine lv_aload_n hx hb d_Z_noteLost_34 rfl (lv_at hl 0 rfl) ?_
  obtain ⟨k9, hk9⟩ := zpool (t0 := t0) (g := g) (z := (zmk (z_oct z) (z_tk z) (z_ko z) (z_lb z) (z_lo z) (z_mb z) (z_rb z) (z_rn z) ((zq_nl z i).2) ((zq_nl z i).1) (z_md z) (z_cE z) (z_aE z) (z_cap z) (z_kl z) (z_LB z) (z_bs z) (z_bz z) (z_kp z) (z_rc z))) ha
  refine va_getN (D := D) (ci := 1) (v := .int (zb (z_rc z a))) (C := RB) (T := TB) (N := 4) hx hb hk inB hown hK hP k9 hk9 rfl 3 (by decide) (va_Nw.use rfl (hE.1.1 _ zn238)) (fun _ h9 => h9) rfl d_Z_noteLost_35 ?_
  refine lv_if_ne (tgt := 74) hx hb d_Z_noteLost_38 (by decide) (fun h => ?_) (fun h => ?_)
  · rw [zh_zb] at h
    have h := ts_nf h
    have e6 : zq_nl z (i + 1) = zq_nl z i := by show (if zq_lostP z i = true ∧ (zq_nl z i).1 < 255 then _ else _) = _; rw [if_neg (by rw [hlp, h]; rintro ⟨q, -⟩; rw [Bool.and_eq_true] at q; cases q.2)]
    have e5 : zq_note z (i + 1) = (zmk (z_oct z) (z_tk z) (z_ko z) (z_lb z) (z_lo z) (z_mb z) (z_rb z) (z_rn z) ((zq_nl z i).2) ((zq_nl z i).1) (z_md z) (z_cE z) (z_aE z) (z_cap z) (z_kl z) (z_LB z) (z_bs z) (z_bz z) (z_kp z) (z_rc z)) := by unfold zq_note; rw [e6]
    refine lv_iinc (lv' := [(1, .int (nI (i + 1))), (2, .ref a), (0, .ref (g_h g))]) (v := nI (i + 1)) hx hb d_Z_noteLost_74 hl (k := 2) rfl (nI_add _ _) (by decide) rfl (fun ls hl => ?_)
    refine lv_goto (tgt := 7) hx hb d_Z_noteLost_77 (by decide) ?_
    rw [← e5] at hP hK hD
    exact ih (i + 1) H locs ls ⟨lv_sub hl [2, 0] rfl, hP, hK, hD, hS, by omega⟩ (by show _ < _; (try dsimp only); omega)
  rw [zh_zb] at h
  have hrc := h
  refine lv_aload_n hx hb d_Z_noteLost_41 rfl (lv_at hl 1 rfl) ?_
  refine va_get (D := D) (ci := 0) (v := .int (nI ((zq_nl z i).1))) (C := RZ) (T := TZ) (N := 11) hx hb hk inZ hown hK hP 0 rfl rfl 10 (by decide) (hk _ zk66) (fun _ h9 => h9) rfl d_Z_noteLost_42 ?_
  refine lv_sipush (v := nI 255) hx hb d_Z_noteLost_45 (by decide) ?_
  refine lv_icmp_ge (tgt := 74) hx hb d_Z_noteLost_48 (by decide) (fun h => ?_) (fun h => ?_)
  · rw [nI_leI (by omega) (by omega)] at h
    have e6 : zq_nl z (i + 1) = zq_nl z i := by show (if zq_lostP z i = true ∧ (zq_nl z i).1 < 255 then _ else _) = _; rw [if_neg (by omega)]
    have e5 : zq_note z (i + 1) = (zmk (z_oct z) (z_tk z) (z_ko z) (z_lb z) (z_lo z) (z_mb z) (z_rb z) (z_rn z) ((zq_nl z i).2) ((zq_nl z i).1) (z_md z) (z_cE z) (z_aE z) (z_cap z) (z_kl z) (z_LB z) (z_bs z) (z_bz z) (z_kp z) (z_rc z)) := by unfold zq_note; rw [e6]
    refine lv_iinc (lv' := [(1, .int (nI (i + 1))), (2, .ref a), (0, .ref (g_h g))]) (v := nI (i + 1)) hx hb d_Z_noteLost_74 hl (k := 2) rfl (nI_add _ _) (by decide) rfl (fun ls hl => ?_)
    refine lv_goto (tgt := 7) hx hb d_Z_noteLost_77 (by decide) ?_
    rw [← e5] at hP hK hD
    exact ih (i + 1) H locs ls ⟨lv_sub hl [2, 0] rfl, hP, hK, hD, hS, by omega⟩ (by show _ < _; (try dsimp only); omega)
  rw [nI_leI (by omega) (by omega)] at h
  have e6 : zq_nl z (i + 1) = ((zq_nl z i).1 + 1, va_up (zq_nl z i).2 (zq_nl z i).1 (16 * i)) := by show (if zq_lostP z i = true ∧ (zq_nl z i).1 < 255 then _ else _) = _; rw [if_pos ⟨by rw [hlp, hkp, hrc]; rfl, by omega⟩]
  refine lv_aload_n hx hb d_Z_noteLost_51 rfl (lv_at hl 1 rfl) ?_
  refine va_get (D := D) (ci := 0) (v := .ref (g_aL g)) (C := RZ) (T := TZ) (N := 11) hx hb hk inZ hown hK hP 0 rfl rfl 9 (by decide) (hk _ zk65) (fun _ h9 => h9) rfl d_Z_noteLost_52 ?_
  refine lv_aload_n hx hb d_Z_noteLost_55 rfl (lv_at hl 1 rfl) ?_
  refine va_get (D := D) (ci := 0) (v := .int (nI ((zq_nl z i).1))) (C := RZ) (T := TZ) (N := 11) hx hb hk inZ hown hK hP 0 rfl rfl 10 (by decide) (hk _ zk66) (fun _ h9 => h9) rfl d_Z_noteLost_56 ?_
  refine lv_aload_n hx hb d_Z_noteLost_59 rfl (lv_at hl 0 rfl) ?_
  obtain ⟨k9, hk9⟩ := zpool (t0 := t0) (g := g) (z := (zmk (z_oct z) (z_tk z) (z_ko z) (z_lb z) (z_lo z) (z_mb z) (z_rb z) (z_rn z) ((zq_nl z i).2) ((zq_nl z i).1) (z_md z) (z_cE z) (z_aE z) (z_cap z) (z_kl z) (z_LB z) (z_bs z) (z_bz z) (z_kp z) (z_rc z))) ha
  refine va_getN (D := D) (ci := 1) (v := .int (nI (z_bs z a))) (C := RB) (T := TB) (N := 4) hx hb hk inB hown hK hP k9 hk9 rfl 0 (by decide) (va_Nw.use rfl (hE.1.1 _ zn232)) (fun _ h9 => h9) rfl d_Z_noteLost_60 ?_
  refine zh_t (show nI (z_bs z a) = nI (16 * i) from by rw [hbs]) ?_
  refine va_iast hx hb hK hP hD hS 5 3 rfl rfl (vp_in_nI (by omega) (by decide)) d_Z_noteLost_63 (fun H locs hP hD hS => ?_)
  rw [zh_upd (by omega)] at hP hD
  have hP : va_P D zcl (zW t0 g (zmk (z_oct z) (z_tk z) (z_ko z) (z_lb z) (z_lo z) (z_mb z) (z_rb z) (z_rn z) (va_up ((zq_nl z i).2) ((zq_nl z i).1) (16 * i)) ((zq_nl z i).1) (z_md z) (z_cE z) (z_aE z) (z_cap z) (z_kl z) (z_LB z) (z_bs z) (z_bz z) (z_kp z) (z_rc z))) H := hP
  have hD : va_D A (zW t0 g (zmk (z_oct z) (z_tk z) (z_ko z) (z_lb z) (z_lo z) (z_mb z) (z_rb z) (z_rn z) (va_up ((zq_nl z i).2) ((zq_nl z i).1) (16 * i)) ((zq_nl z i).1) (z_md z) (z_cE z) (z_aE z) (z_cap z) (z_kl z) (z_LB z) (z_bs z) (z_bz z) (z_kp z) (z_rc z))) := hD
  refine lv_aload_n hx hb d_Z_noteLost_64 rfl (lv_at hl 1 rfl) ?_
  refine lv_dup hx hb d_Z_noteLost_65 rfl ?_
  refine va_get (D := D) (ci := 0) (v := .int (nI ((zq_nl z i).1))) (C := RZ) (T := TZ) (N := 11) hx hb hk inZ hown hK hP 0 rfl rfl 10 (by decide) (hk _ zk66) (fun _ h9 => h9) rfl d_Z_noteLost_66 ?_
  refine lv_iconst (v := nI 1) hx hb d_Z_noteLost_69 (by decide) ?_
  refine lv_iadd hx hb d_Z_noteLost_70 ?_
  refine zh_t (show (nI ((zq_nl z i).1) + nI 1) = nI ((zq_nl z i).1 + 1) from nI_add _ _) ?_
  refine va_put (D := D) (ci := 0) (v := .int (nI ((zq_nl z i).1 + 1))) (ty := .int) (C := RZ) (T := TZ) (N := 11) hx hb hk inZ tyZ okZ nmZ hown hK hP hD hS 0 rfl rfl 10 (by decide) (hk _ zk66) (fun _ h9 => h9) rfl (by decide +kernel) rfl rfl (Nat.le_of_ble_eq_true rfl) d_Z_noteLost_71 (fun H locs hP hD hS => ?_)
  have hP : va_P D zcl (zW t0 g (zmk (z_oct z) (z_tk z) (z_ko z) (z_lb z) (z_lo z) (z_mb z) (z_rb z) (z_rn z) (va_up ((zq_nl z i).2) ((zq_nl z i).1) (16 * i)) ((zq_nl z i).1 + 1) (z_md z) (z_cE z) (z_aE z) (z_cap z) (z_kl z) (z_LB z) (z_bs z) (z_bz z) (z_kp z) (z_rc z))) H := hP
  have hD : va_D A (zW t0 g (zmk (z_oct z) (z_tk z) (z_ko z) (z_lb z) (z_lo z) (z_mb z) (z_rb z) (z_rn z) (va_up ((zq_nl z i).2) ((zq_nl z i).1) (16 * i)) ((zq_nl z i).1 + 1) (z_md z) (z_cE z) (z_aE z) (z_cap z) (z_kl z) (z_LB z) (z_bs z) (z_bz z) (z_kp z) (z_rc z))) := hD
  refine lv_iinc (lv' := [(1, .int (nI (i + 1))), (2, .ref a), (0, .ref (g_h g))]) (v := nI (i + 1)) hx hb d_Z_noteLost_74 hl (k := 2) rfl (nI_add _ _) (by decide) rfl (fun ls hl => ?_)
  refine lv_goto (tgt := 7) hx hb d_Z_noteLost_77 (by decide) ?_
  have e5 : zq_note z (i + 1) = (zmk (z_oct z) (z_tk z) (z_ko z) (z_lb z) (z_lo z) (z_mb z) (z_rb z) (z_rn z) (va_up ((zq_nl z i).2) ((zq_nl z i).1) (16 * i)) ((zq_nl z i).1 + 1) (z_md z) (z_cE z) (z_aE z) (z_cap z) (z_kl z) (z_LB z) (z_bs z) (z_bz z) (z_kp z) (z_rc z)) := by unfold zq_note; rw [e6]
  rw [← e5] at hP hD
  have hK : va_K D zcl (zT g (zq_note z (i + 1))) s := hK
  exact ih (i + 1) H locs ls ⟨lv_sub hl [2, 0] rfl, hP, hK, hD, hS, by omega⟩ (by show _ < _; (try dsimp only); omega)
end
section
def zq_t3 (z : ZT) (a b : Int32) : T3 := zs3 z 256 0 (zr3 z b (zr3 z a (zq_frc z (z_rn z), z_rb z, 0)))
def zq_lost (z : ZT) (a b : Int32) : ZT := zq_note (z3 z (zq_t3 z a b)) 512
theorem zs3_stop {z : ZT} {i : Nat} {t : T3} (hi : i ≤ 255) (h : ¬ (i < t.2.2 ∧ i < 255)) : zs3 z (256 - i) i t = t := by
  obtain ⟨f, hf⟩ : ∃ f, 256 - i = f + 1 := ⟨255 - i, by omega⟩
  rw [hf]
  simp only [zs3, if_neg h]
theorem zs3_step {z : ZT} {i a : Nat} {t : T3} (h : i < t.2.2 ∧ i < 255) (ha : t.2.1 i = some a) : zs3 z (256 - i) i t = zs3 z (256 - (i + 1)) (i + 1) (zw3 z a t (z_bz z a / 4)) := by
  obtain ⟨f, hf⟩ : ∃ f, 256 - i = f + 1 := ⟨255 - i, by omega⟩
  rw [hf, show 256 - (i + 1) = f by omega]
  simp only [zs3, if_pos h, ha]
theorem zOK.note {z : ZT} (hz : zOK z) (c : Nat) : zOK (zq_note z c) := ⟨hz.1, hz.2.1, hz.2.2.1, hz.2.2.2.1, hz.2.2.2.2.1, zq_nl_le c, hz.2.2.2.2.2.2⟩
set_option maxHeartbeats 1000000 in
set_option maxRecDepth 100000 in
theorem c_Z_lost_ok (l : Launch) (D : va_G) (t0 : Nat) (g : ZG) (z : ZT) (sz : Nat) (v1 v2 : Int32) (hz : zOK z) : Met l y_Z_lost w_Z_lost ({ frames := 5, cells := 0, slots := 0, locals := 150 }) (zPre D t0 (zT g z) (zW t0 g z) sz [.ref (g_h g), .int v1, .int v2]) (va_Qi (fun r u => u = zq_lost z v1 v2 ∧ r = nI (z_ln u)) (fun (u : ZT) t => zPost D (zT g u) (va_A (zW t0 g z) sz) (zW t0 g u) t) (va_A (zW t0 g z) sz)) 0 0 (va_A (zW t0 g z) sz) := by
  refine Met.ofW (cc := c_Z_lost) (maxL := 4) (ret := (some .int)) (by decide) rfl ?_
  intro p e s m args below meth c s₁ B hml hv
  obtain ⟨rfl, hsz, hP, hK, hD0, hE⟩ := hv
  have hx := B.exec
  have hb := B.bytes
  have hr := B.returns
  have hts := atoms_spec (ws := w_Z_lost) B.pre
  have hk : ∀ w ∈ zB, w.before _ s = true := fun w h => hts w (List.mem_cons_of_mem _ h)
  have hown : s.vm.findClass "ZoneHeap" = some m.cls := findClass_of_methodNamed B.named
  have hlocks := B.notSynchronized
  subst hsz
  have hD := hD0.self (sz := s.heap.size)
  generalize hAe : va_A (zW t0 g z) s.heap.size = A at hD hE ⊢
  have hA : ∀ q : Nat, s.heap.size ≤ q → A q := fun q h => by rw [← hAe]; exact Or.inr h
  have hS : va_S A s.heap s.heap [] := va_S.rf
  have hl := lv_entry ([.ref (g_h g), .int v1, .int v2]) (n := 4) (Nat.le_of_ble_eq_true rfl)
  rw [lg_entry_eq]
  generalize (lg_sl ([.ref (g_h g), .int v1, .int v2]) ++ List.replicate (4 - (lg_sl ([.ref (g_h g), .int v1, .int v2])).length) Slot.unset).toArray = ls at hl ⊢
  have hl : lv_has ls 4 [(0, .ref (g_h g)), (1, .int v1), (2, .int v2)] := hl
  refine lv_aload_n hx hb d_Z_lost_0 rfl (lv_at hl 0 rfl) ?_
  refine zcv (zrV (n := 0) (As := []) (rest := []) ⟨hx, hb, hml, hown, hk⟩ (c_Z_forgetReached_ok l D t0 g z s.heap.size hz) zk95 zk97 ks_Z_forgetReached zk1 kc_Z_forgetReached ⟨rfl, by decide, by decide, by decide⟩ rfl rfl ⟨Nat.le_of_ble_eq_true rfl, Nat.le_of_ble_eq_true rfl⟩ ⟨hP, hK, hD, hS, hA, hE⟩ (va_recv hK hP (ci := 0) (q0 := 0) rfl rfl) rfl hl.1 rfl (Nat.le_of_ble_eq_true rfl) d_Z_lost_1 ⟨Nat.le_of_ble_eq_true rfl, Nat.le_of_ble_eq_true rfl⟩) ⟨hP, hK, hD, hS, hA, hE⟩ (fun u H locs hu hP hK hD hS => ?_)
  subst hu
  have hP : va_P D zcl (zW t0 g (z3 z (zq_frc z (z_rn z), z_rb z, 0))) H := hP
  have hK : va_K D zcl (zT g (z3 z (zq_frc z (z_rn z), z_rb z, 0))) s := hK
  have hD : va_D A (zW t0 g (z3 z (zq_frc z (z_rn z), z_rb z, 0))) := hD
  obtain ⟨r0, hr0⟩ : ∃ q : T3, q = (zq_frc z (z_rn z), z_rb z, 0) := ⟨_, rfl⟩
  rw [← hr0] at hP hD hK
  have hk0 : z3ok z r0 := by rw [hr0]; exact ⟨Nat.zero_le _, fun j hj => by have hj : j < 0 := hj; omega⟩
  refine lv_aload_n hx hb d_Z_lost_4 rfl (lv_at hl 0 rfl) ?_
  refine lv_iload_n hx hb d_Z_lost_5 rfl (lv_at hl 1 rfl) ?_
  refine zcv (zrV (n := 1) (As := [.int v1]) (rest := []) ⟨hx, hb, hml, hown, hk⟩ (c_Z_reach_ok l D t0 g z H.size r0 v1 hz hk0) zk99 zk101 ks_Z_reach zk1 kc_Z_reach ⟨rfl, by decide, by decide, by decide⟩ rfl rfl ⟨Nat.le_of_ble_eq_true rfl, Nat.le_of_ble_eq_true rfl⟩ ⟨hP, hK, hD, hS, hA, hE⟩ (va_recv hK hP (ci := 0) (q0 := 0) rfl rfl) rfl hl.1 rfl (Nat.le_of_ble_eq_true rfl) d_Z_lost_6 ⟨Nat.le_of_ble_eq_true rfl, Nat.le_of_ble_eq_true rfl⟩) ⟨hP, hK, hD, hS, hA, hE⟩ (fun u H locs hu hP hK hD hS => ?_)
  subst hu
  have hP : va_P D zcl (zW t0 g (z3 z (zr3 z v1 r0))) H := hP
  have hK : va_K D zcl (zT g (z3 z (zr3 z v1 r0))) s := hK
  have hD : va_D A (zW t0 g (z3 z (zr3 z v1 r0))) := hD
  obtain ⟨r1, hr1⟩ : ∃ q : T3, q = zr3 z v1 r0 := ⟨_, rfl⟩
  rw [← hr1] at hP hD hK
  have hk1 : z3ok z r1 := by rw [hr1]; exact hk0.reach hz
  refine lv_aload_n hx hb d_Z_lost_9 rfl (lv_at hl 0 rfl) ?_
  refine lv_iload_n hx hb d_Z_lost_10 rfl (lv_at hl 2 rfl) ?_
  refine zcv (zrV (n := 1) (As := [.int v2]) (rest := []) ⟨hx, hb, hml, hown, hk⟩ (c_Z_reach_ok l D t0 g z H.size r1 v2 hz hk1) zk99 zk101 ks_Z_reach zk1 kc_Z_reach ⟨rfl, by decide, by decide, by decide⟩ rfl rfl ⟨Nat.le_of_ble_eq_true rfl, Nat.le_of_ble_eq_true rfl⟩ ⟨hP, hK, hD, hS, hA, hE⟩ (va_recv hK hP (ci := 0) (q0 := 0) rfl rfl) rfl hl.1 rfl (Nat.le_of_ble_eq_true rfl) d_Z_lost_11 ⟨Nat.le_of_ble_eq_true rfl, Nat.le_of_ble_eq_true rfl⟩) ⟨hP, hK, hD, hS, hA, hE⟩ (fun u H locs hu hP hK hD hS => ?_)
  subst hu
  have hP : va_P D zcl (zW t0 g (z3 z (zr3 z v2 r1))) H := hP
  have hK : va_K D zcl (zT g (z3 z (zr3 z v2 r1))) s := hK
  have hD : va_D A (zW t0 g (z3 z (zr3 z v2 r1))) := hD
  obtain ⟨r2, hr2⟩ : ∃ q : T3, q = zr3 z v2 r1 := ⟨_, rfl⟩
  rw [← hr2] at hP hD hK
  have hk2 : z3ok z r2 := by rw [hr2]; exact hk1.reach hz
  refine lv_iconst (v := nI 0) hx hb d_Z_lost_14 (by decide) ?_
  refine lv_istore_n (lv' := [(3, .int (nI 0)), (0, .ref (g_h g)), (1, .int v1), (2, .int v2)]) hx hb d_Z_lost_15 rfl hl (by decide) rfl (fun ls hl => ?_)
  refine zh_loopH (A := Nat × T3) (fun q H locs ls => lv_has ls 4 [(0, .ref (g_h g)), (3, .int (nI q.1))] ∧ va_P D zcl (zW t0 g (z3 z q.2)) H ∧ va_K D zcl (zT g (z3 z q.2)) s ∧ va_D A (zW t0 g (z3 z q.2)) ∧ va_S A s.heap H locs ∧ q.1 ≤ 255 ∧ z3ok z q.2 ∧ zs3 z (256 - q.1) q.1 q.2 = zs3 z 256 0 r2) (fun q => 255 - q.1) ?_ (0, r2) ⟨lv_sub hl [1, 0] rfl, hP, hK, hD, hS, Nat.zero_le _, hk2, rfl⟩
  rintro ⟨i, r3⟩ H locs ls ⟨hl, hP, hK, hD, hS, hi, h3, hfin⟩ ih
  have hl : lv_has ls 4 [(0, .ref (g_h g)), (3, .int (nI i))] := hl
  have hP : va_P D zcl (zW t0 g (z3 z r3)) H := hP
  have hK : va_K D zcl (zT g (z3 z r3)) s := hK
  have hD : va_D A (zW t0 g (z3 z r3)) := hD
  have hi : i ≤ 255 := hi
  have h3 : z3ok z r3 := h3
  have hfin : zs3 z (256 - i) i r3 = zs3 z 256 0 r2 := hfin
  have hP : va_P D zcl (zW t0 g (zmk (z_oct z) (z_tk z) (z_ko z) (z_lb z) (z_lo z) (z_mb z) r3.2.1 r3.2.2 (z_lf z) (z_ln z) (z_md z) (z_cE z) (z_aE z) (z_cap z) (z_kl z) (z_LB z) (z_bs z) (z_bz z) (z_kp z) r3.1)) H := hP
  have hD : va_D A (zW t0 g (zmk (z_oct z) (z_tk z) (z_ko z) (z_lb z) (z_lo z) (z_mb z) r3.2.1 r3.2.2 (z_lf z) (z_ln z) (z_md z) (z_cE z) (z_aE z) (z_cap z) (z_kl z) (z_LB z) (z_bs z) (z_bz z) (z_kp z) r3.1)) := hD
  have hK : va_K D zcl (zT g (zmk (z_oct z) (z_tk z) (z_ko z) (z_lb z) (z_lo z) (z_mb z) r3.2.1 r3.2.2 (z_lf z) (z_ln z) (z_md z) (z_cE z) (z_aE z) (z_cap z) (z_kl z) (z_LB z) (z_bs z) (z_bz z) (z_kp z) r3.1)) s := hK
  have h31 := h3.1
  refine lv_iload_n hx hb d_Z_lost_16 rfl (lv_at hl 1 rfl) ?_
  refine lv_aload_n hx hb d_Z_lost_17 rfl (lv_at hl 0 rfl) ?_
  refine va_get (D := D) (ci := 0) (v := .int (nI r3.2.2)) (C := RZ) (T := TZ) (N := 11) hx hb hk inZ hown hK hP 0 rfl rfl 8 (by decide) (hk _ zk64) (fun _ h9 => h9) rfl d_Z_lost_18 ?_
  refine lv_icmp_ge (tgt := 47) hx hb d_Z_lost_21 (by decide) (fun h => ?_) (fun h => ?_)
  · rw [nI_leI (by omega) (by omega)] at h
    have e3 : r3 = zq_t3 z v1 v2 := by rw [zs3_stop hi (by omega)] at hfin; rw [hfin, hr2, hr1, hr0]; rfl
    have hP : va_P D zcl (zW t0 g (z3 z r3)) H := hP
    have hD : va_D A (zW t0 g (z3 z r3)) := hD
    have hK : va_K D zcl (zT g (z3 z r3)) s := hK
    refine lv_aload_n hx hb d_Z_lost_47 rfl (lv_at hl 0 rfl) ?_
    refine zcv (zrV (n := 0) (As := []) (rest := []) ⟨hx, hb, hml, hown, hk⟩ (c_Z_noteLost_ok l D t0 g (z3 z r3) H.size (hz.t3 h3)) zk131 zk133 ks_Z_noteLost zk1 kc_Z_noteLost ⟨rfl, by decide, by decide, by decide⟩ rfl rfl ⟨Nat.le_of_ble_eq_true rfl, Nat.le_of_ble_eq_true rfl⟩ ⟨hP, hK, hD, hS, hA, hE⟩ (va_recv hK hP (ci := 0) (q0 := 0) rfl rfl) rfl hl.1 rfl (Nat.le_of_ble_eq_true rfl) d_Z_lost_48 ⟨Nat.le_of_ble_eq_true rfl, Nat.le_of_ble_eq_true rfl⟩) ⟨hP, hK, hD, hS, hA, hE⟩ (fun u H locs hu hP hK hD hS => ?_)
    subst hu
    have hP : va_P D zcl (zW t0 g (zq_note (z3 z r3) 512)) H := hP
    have hK : va_K D zcl (zT g (zq_note (z3 z r3) 512)) s := hK
    have hD : va_D A (zW t0 g (zq_note (z3 z r3) 512)) := hD
    refine lv_aload_n hx hb d_Z_lost_51 rfl (lv_at hl 0 rfl) ?_
    refine va_get (D := D) (ci := 0) (v := .int (nI (z_ln (zq_note (z3 z r3) 512)))) (C := RZ) (T := TZ) (N := 11) hx hb hk inZ hown hK hP 0 rfl rfl 10 (by decide) (hk _ zk66) (fun _ h9 => h9) rfl d_Z_lost_52 ?_
    exact W.iret hx hb hr (fun t ht hW => ⟨⟨_, (zq_note (z3 z r3) 512), rfl, ⟨by rw [e3]; rfl, rfl⟩, by rw [ht]; exact hP, va_K.moved hW.alike hK, hD⟩, hS.F ht⟩) hS.2.2 d_Z_lost_55
  rw [nI_leI (by omega) (by omega)] at h
  have hlt := h
  refine lv_iload_n hx hb d_Z_lost_24 rfl (lv_at hl 1 rfl) ?_
  refine lv_sipush (v := nI 255) hx hb d_Z_lost_25 (by decide) ?_
  refine lv_icmp_ge (tgt := 47) hx hb d_Z_lost_28 (by decide) (fun h => ?_) (fun h => ?_)
  · rw [nI_leI (by omega) (by omega)] at h
    have e3 : r3 = zq_t3 z v1 v2 := by rw [zs3_stop hi (by omega)] at hfin; rw [hfin, hr2, hr1, hr0]; rfl
    have hP : va_P D zcl (zW t0 g (z3 z r3)) H := hP
    have hD : va_D A (zW t0 g (z3 z r3)) := hD
    have hK : va_K D zcl (zT g (z3 z r3)) s := hK
    refine lv_aload_n hx hb d_Z_lost_47 rfl (lv_at hl 0 rfl) ?_
    refine zcv (zrV (n := 0) (As := []) (rest := []) ⟨hx, hb, hml, hown, hk⟩ (c_Z_noteLost_ok l D t0 g (z3 z r3) H.size (hz.t3 h3)) zk131 zk133 ks_Z_noteLost zk1 kc_Z_noteLost ⟨rfl, by decide, by decide, by decide⟩ rfl rfl ⟨Nat.le_of_ble_eq_true rfl, Nat.le_of_ble_eq_true rfl⟩ ⟨hP, hK, hD, hS, hA, hE⟩ (va_recv hK hP (ci := 0) (q0 := 0) rfl rfl) rfl hl.1 rfl (Nat.le_of_ble_eq_true rfl) d_Z_lost_48 ⟨Nat.le_of_ble_eq_true rfl, Nat.le_of_ble_eq_true rfl⟩) ⟨hP, hK, hD, hS, hA, hE⟩ (fun u H locs hu hP hK hD hS => ?_)
    subst hu
    have hP : va_P D zcl (zW t0 g (zq_note (z3 z r3) 512)) H := hP
    have hK : va_K D zcl (zT g (zq_note (z3 z r3) 512)) s := hK
    have hD : va_D A (zW t0 g (zq_note (z3 z r3) 512)) := hD
    refine lv_aload_n hx hb d_Z_lost_51 rfl (lv_at hl 0 rfl) ?_
    refine va_get (D := D) (ci := 0) (v := .int (nI (z_ln (zq_note (z3 z r3) 512)))) (C := RZ) (T := TZ) (N := 11) hx hb hk inZ hown hK hP 0 rfl rfl 10 (by decide) (hk _ zk66) (fun _ h9 => h9) rfl d_Z_lost_52 ?_
    exact W.iret hx hb hr (fun t ht hW => ⟨⟨_, (zq_note (z3 z r3) 512), rfl, ⟨by rw [e3]; rfl, rfl⟩, by rw [ht]; exact hP, va_K.moved hW.alike hK, hD⟩, hS.F ht⟩) hS.2.2 d_Z_lost_55
  rw [nI_leI (by omega) (by omega)] at h
  obtain ⟨a, hra, ha⟩ := h3.2 i (by omega)
  refine lv_aload_n hx hb d_Z_lost_31 rfl (lv_at hl 0 rfl) ?_
  refine lv_aload_n hx hb d_Z_lost_32 rfl (lv_at hl 0 rfl) ?_
  refine va_get (D := D) (ci := 0) (v := .ref (g_aR g)) (C := RZ) (T := TZ) (N := 11) hx hb hk inZ hown hK hP 0 rfl rfl 7 (by decide) (hk _ zk63) (fun _ h9 => h9) rfl d_Z_lost_33 ?_
  refine lv_iload_n hx hb d_Z_lost_36 rfl (lv_at hl 1 rfl) ?_
  refine va_aldq hx hb hK hP 4 2 rfl rfl (vp_in_nI (by omega) (by decide)) d_Z_lost_37 ?_
  refine zh_v (show va_rf (r3.2.1 (nI i).toNatClampNeg) = va_rf (r3.2.1 i) from by rw [nI_clamp (by omega)]) ?_
  refine zh_v (show va_rf (r3.2.1 i) = .ref a from by rw [hra]; rfl) ?_
  have hP : va_P D zcl (zW t0 g (z3 z r3)) H := hP
  have hD : va_D A (zW t0 g (z3 z r3)) := hD
  have hK : va_K D zcl (zT g (z3 z r3)) s := hK
  refine zcv (zrV (n := 1) (As := [.ref a]) (rest := []) ⟨hx, hb, hml, hown, hk⟩ (c_Z_reachFromWordsOf_ok l D t0 g z H.size r3 a ha hz h3) zk123 zk125 ks_Z_reachFromWordsOf zk1 kc_Z_reachFromWordsOf ⟨rfl, by decide, by decide, by decide⟩ rfl rfl ⟨Nat.le_of_ble_eq_true rfl, Nat.le_of_ble_eq_true rfl⟩ ⟨hP, hK, hD, hS, hA, hE⟩ (va_recv hK hP (ci := 0) (q0 := 0) rfl rfl) rfl hl.1 rfl (Nat.le_of_ble_eq_true rfl) d_Z_lost_38 ⟨Nat.le_of_ble_eq_true rfl, Nat.le_of_ble_eq_true rfl⟩) ⟨hP, hK, hD, hS, hA, hE⟩ (fun u H locs hu hP hK hD hS => ?_)
  subst hu
  have hP : va_P D zcl (zW t0 g (z3 z (zw3 z a r3 (z_bz z a / 4)))) H := hP
  have hK : va_K D zcl (zT g (z3 z (zw3 z a r3 (z_bz z a / 4)))) s := hK
  have hD : va_D A (zW t0 g (z3 z (zw3 z a r3 (z_bz z a / 4)))) := hD
  refine lv_iinc (lv' := [(3, .int (nI (i + 1))), (0, .ref (g_h g))]) (v := nI (i + 1)) hx hb d_Z_lost_41 hl (k := 1) rfl (nI_add _ _) (by decide) rfl (fun ls hl => ?_)
  refine lv_goto (tgt := 16) hx hb d_Z_lost_44 (by decide) ?_
  exact ih (i + 1, zw3 z a r3 (z_bz z a / 4)) H locs ls ⟨lv_sub hl [1, 0] rfl, hP, hK, hD, hS, by show _ ≤ _; dsimp only; omega, h3.words hz _, by rw [← hfin, zs3_step ⟨by omega, by omega⟩ hra]⟩ (by show _ < _; (try dsimp only); omega)
end
section
-- methods that throw: their second end, the throw itself, calls of such methods
def zXc (D : va_G) (tys : List (ClassId × FieldType)) (w : va_W) (A : Nat → Prop) (EX : String → Prop) : String → State → State → Prop := vx_X (fun _ : Unit => True) (fun E _ t => EX E ∧ zPost D tys A w t) A
abbrev zNm : List String := ["java/lang/RuntimeException", "java/lang/Exception"]
def zat (ik ic : Nat) (cls : String) : Prop := (∀ w ∈ vx_atS "ZoneHeap" ic cls zNm, (w ∈ tables_1 ∧ goodWord w = true) ∨ w ∈ zNw) ∧ (∀ w ∈ Cond.classLink "ZoneHeap" ik cls :: Cond.initialized cls :: vx_atS "ZoneHeap" ic cls zNm, vx_ot w = true) ∧ Bundle.fit cls = true
theorem zat_A : zat 131 135 "java/lang/IllegalArgumentException" := ⟨by decide +kernel, by decide +kernel, by decide +kernel⟩
theorem zat_S : zat 145 149 "java/lang/IllegalStateException" := ⟨by decide +kernel, by decide +kernel, by decide +kernel⟩
theorem zat_I : zat 121 125 "java/lang/IndexOutOfBoundsException" := ⟨by decide +kernel, by decide +kernel, by decide +kernel⟩
section
variable {p : Program} {l : Launch} {e : Env} {R : Room} {s : State} {m : MethodId} {args : Array Value} {below : List Frame} {meth : Method} {c : Code} {H : Heap} {locs : List Loc} {cells slots : Nat} {Q : State → Prop} {pc : Nat} {ls : Array Slot} {st0 rest : List Value}
variable {D : va_G} {t0 : Nat} {tys : List (ClassId × FieldType)} {w : va_W} {A : Nat → Prop} {mc ms : Nat} {a : Array Value} {U : Type} {T9 : U → List (ClassId × FieldType)} {w9 : U → va_W} {EX : String → Prop}
theorem zthrow {cc : ByteArray} {ik is ic : Nat} {cls text : String} {Qc : Array Value → State → Outcome → State → Prop} (hst : l.stackTraces = false) (hx : p.tables.exec = Jvm.exec) (hb : c.code = cc) (hk : ∀ w ∈ zB, w.before args s = true) (hown : s.vm.findClass "ZoneHeap" = some m.cls) (hex : ∀ x ∈ c.exceptionTable.toList, False) (hlocks : meth.locks = false)
    (hw : zHere D t0 tys w A s H locs) (h1 : Cond.classLink "ZoneHeap" ik cls ∈ zB) (h2 : Cond.initialized cls ∈ zB) (h3 : (is, text) ∈ zTx) (h4 : zat ik ic cls) (hsize : ls.size = c.maxLocals)
    (d0 : decode cc pc = .ok (.new ik, 3)) (d3 : decode cc (pc + 3) = .ok (.dup, 1)) (d4 : decode cc (pc + 4) = .ok (.ldc is, 2)) (d6 : decode cc (pc + 6) = .ok (.invokespecial ic, 3)) (d9 : decode cc (pc + 9) = .ok (.athrow, 1)) (hEX : EX cls)
    (hR : 5 < R.frames) (hL : 82 ≤ R.locals) (hcells : cells + 1 ≤ R.cells) (hslots : slots + 6 ≤ R.slots) (hc : cells + 1 ≤ mc) (hs : slots + 6 ≤ ms) :
    W p l e R s m args below meth c H locs cells slots (vx_MQ below Qc (zXc D tys w A EX) args s mc ms A) (F0 m pc ls []) := by
  obtain ⟨hP, hK, hD, hS, hA, hE⟩ := hw
  obtain ⟨sa, hsa⟩ := hE.1.2.2.2 _ h3
  refine vx_throwS (own := "ZoneHeap") (names := zNm) (rest := []) hx hb hst hown h4.2.2 (by decide +kernel) (hk _ h1) (hk _ h2) hsa (fun w9 hw9 => (h4.1 w9 hw9).elim (fun h => hk _ (zkm2 h.1 h.2)) (fun h => va_Nw.use (zNw_tab w9 h) (hE.1.1 w9 h))) h4.2.1 hE.2.1 hE.2.2.1 hS hsize d0 d3 d4 d6 d9 (fun x hx9 => (hex x hx9).elim) hR (by show 0 + (13 * 3 + 43) ≤ R.locals; omega) hcells hslots hlocks (fun t ha hz hq => ⟨(), trivial, ⟨hEX, hP.kept (fun k q hk9 => hq q.1 (hP k q hk9).lt), va_K.moved ha hK, hD⟩, Nat.le_trans hS.1 hz, fun q h1 h2 => by rw [hq q (Nat.lt_of_lt_of_le h1 hS.1)]; exact hS.2.1 q h1 h2⟩) hS.2.2 hc hs
theorem zpass {q9 : Nat} {ce : Cell} {E : String} {Qc : Array Value → State → Outcome → State → Prop} (hex : ∀ x ∈ c.exceptionTable.toList, False) (hlocks : meth.locks = false) (hK : va_K D zcl tys s)
    (hEX : EX E) (hP : va_P D zcl w H) (hD : va_D A w) (hS : va_S A s.heap H locs) (hce : H[q9]? = some ce) (hcv : ce.vm = .none) (hcl : s.vm.findClass E = some ce.cls) (hc : cells ≤ mc) (hs : slots ≤ ms) :
    vx_W p l e R s m args below meth c H locs cells slots (vx_MQ below Qc (zXc D tys w A EX) args s mc ms A) (F0 m pc ls rest) q9 :=
  vx_out (E := E) (fun x hx => (hex x hx).elim) hlocks hce hcv hcl (fun t ht ha => ⟨(), trivial, ⟨hEX, by rw [ht]; exact hP, va_K.moved ha hK, hD⟩, hS.F ht⟩) hS.2.2 hc hs
theorem vx_callq {S SX : Type} {post : Option Nat → S → Prop} {px : SX → Prop} {B : S → State → Prop} {BX : String → SX → State → Prop} {AX A0 A1 : Nat → Prop} {free : Addr → Prop} {H0 : Heap} (hr : vx_Run p l e R s m args below meth c H locs cells slots mc ms (F0 m pc ls st0) rest (va_Qq post B A1 a) (vx_X px BX AX) free) (hS : va_S A0 H0 H locs) (hA : ∀ q, q < H.size → A1 q → A0 q) (hf : ∀ q, free q → A0 q) (hAX : ∀ q, q < H.size → AX q → A0 q)
    (kx : ∀ (E : String) (ce : Cell) (q9 : Addr) (u : SX) (t : State) (H1 : Heap) (locs1 : List Loc), t.heap = H1 → s.vm.Alike t.vm → px u → BX E u t → H.size ≤ H1.size → (∀ q : Nat, q < H.size → ¬ AX q → H1[q]? = H[q]?) → va_S A0 H0 H1 locs1 → H1[q9]? = some ce → ce.vm = .none → s.vm.findClass E = some ce.cls → vx_W p l e R s m args below meth c H1 locs1 (cells + mc) (slots + ms) Q (F0 m pc ls rest) q9)
    (kk : ∀ (r : Option Nat) (u : S) (t : State) (H1 : Heap) (locs1 : List Loc), t.heap = H1 → s.vm.Alike t.vm → post r u → B u t → H.size ≤ H1.size → (∀ q : Nat, q < H.size → ¬ A1 q → H1[q]? = H[q]?) → va_S A0 H0 H1 locs1 → W p l e R s m args below meth c H1 locs1 (cells + mc) (slots + ms) Q (F0 m (pc + 3) ls (va_rf r :: rest))) : W p l e R s m args below meth c H locs cells slots Q (F0 m pc ls st0) := by
  intro T hT X
  rcases hr T hT X with ⟨v, st₀, t, T', L, h0, X', hL, e1, e2, ⟨⟨r, u, hv, hp, hb⟩, hF⟩, st⟩ | ⟨q, st₀, t, T', L, E, ce, h0, X', hL, e1, e2, ⟨u, hp, hb, hF⟩, hce, hcv, hcl, st⟩
  · cases hv
    obtain ⟨k1, k2, k3⟩ := vx_keep h0 e1 hS hA hf hL hF
    obtain ⟨t2, a1, b1⟩ := kk r u t T'.heap (locs ++ L) e1.symm (by rw [← e2]; exact X'.warmed.alike) hp hb k1 k2 k3 T' rfl X'
    exact ⟨t2, st t2 a1, b1⟩
  · obtain ⟨k1, k2, k3⟩ := vx_keep h0 e1 hS hAX hf hL hF
    obtain ⟨t2, a1, b1⟩ := kx E ce q u t T'.heap (locs ++ L) e1.symm (by rw [← e2]; exact X'.warmed.alike) hp hb k1 k2 k3 (by rw [e1]; exact hce) hcv hcl T' rfl X'
    exact ⟨t2, st.trans a1, b1⟩
theorem zxcv {post : U → Prop} (hr : vx_Run p l e R s m args below meth c H locs cells slots mc ms (F0 m pc ls st0) rest (va_Qv post (fun u t => zPost D (T9 u) (va_A w H.size) (w9 u) t) (va_A w H.size) a) (zXc D tys w (va_A w H.size) EX) (va_A w H.size)) (hw : zHere D t0 tys w A s H locs)
    (kx : ∀ (E : String) (ce : Cell) (q9 : Addr) (H1 : Heap) (locs1 : List Loc), EX E → va_P D zcl w H1 → va_D A w → va_S A s.heap H1 locs1 → H1[q9]? = some ce → ce.vm = .none → s.vm.findClass E = some ce.cls → vx_W p l e R s m args below meth c H1 locs1 (cells + mc) (slots + ms) Q (F0 m pc ls rest) q9)
    (kk : ∀ (u : U) (H1 : Heap) (locs1 : List Loc), post u → va_P D zcl (w9 u) H1 → va_K D zcl (T9 u) s → va_D A (w9 u) → va_S A s.heap H1 locs1 → W p l e R s m args below meth c H1 locs1 (cells + mc) (slots + ms) Q (F0 m (pc + 3) ls (rest))) : W p l e R s m args below meth c H locs cells slots Q (F0 m pc ls st0) :=
  vx_callv hr hw.2.2.2.1 (fun q _ h => hw.free q h) hw.free (fun q _ h => hw.free q h)
    (fun E ce q9 _ t H1 locs1 ht _ _ hB _ _ hS1 hce hcv hcl => kx E ce q9 H1 locs1 hB.1 (by rw [← ht]; exact hB.2.1) (hB.2.2.2.weaken (fun _ q _ h => hw.free q.1 h)) hS1 hce hcv hcl)
    (fun u t H1 locs1 ht hvm hp hB _ _ hS1 => kk u H1 locs1 hp (by rw [← ht]; exact hB.1) (va_K.moved hvm.symm hB.2.1) (hB.2.2.weaken (fun _ q _ h => hw.free q.1 h)) hS1)
theorem zxci {post : Int32 → U → Prop} (hr : vx_Run p l e R s m args below meth c H locs cells slots mc ms (F0 m pc ls st0) rest (va_Qi post (fun u t => zPost D (T9 u) (va_A w H.size) (w9 u) t) (va_A w H.size) a) (zXc D tys w (va_A w H.size) EX) (va_A w H.size)) (hw : zHere D t0 tys w A s H locs)
    (kx : ∀ (E : String) (ce : Cell) (q9 : Addr) (H1 : Heap) (locs1 : List Loc), EX E → va_P D zcl w H1 → va_D A w → va_S A s.heap H1 locs1 → H1[q9]? = some ce → ce.vm = .none → s.vm.findClass E = some ce.cls → vx_W p l e R s m args below meth c H1 locs1 (cells + mc) (slots + ms) Q (F0 m pc ls rest) q9)
    (kk : ∀ (r : Int32) (u : U) (H1 : Heap) (locs1 : List Loc), post r u → va_P D zcl (w9 u) H1 → va_K D zcl (T9 u) s → va_D A (w9 u) → va_S A s.heap H1 locs1 → W p l e R s m args below meth c H1 locs1 (cells + mc) (slots + ms) Q (F0 m (pc + 3) ls (.int r :: rest))) : W p l e R s m args below meth c H locs cells slots Q (F0 m pc ls st0) :=
  vx_calli hr hw.2.2.2.1 (fun q _ h => hw.free q h) hw.free (fun q _ h => hw.free q h)
    (fun E ce q9 _ t H1 locs1 ht _ _ hB _ _ hS1 hce hcv hcl => kx E ce q9 H1 locs1 hB.1 (by rw [← ht]; exact hB.2.1) (hB.2.2.2.weaken (fun _ q _ h => hw.free q.1 h)) hS1 hce hcv hcl)
    (fun r u t H1 locs1 ht hvm hp hB _ _ hS1 => kk r u H1 locs1 hp (by rw [← ht]; exact hB.1) (va_K.moved hvm.symm hB.2.1) (hB.2.2.weaken (fun _ q _ h => hw.free q.1 h)) hS1)
theorem zxcq {post : Option Nat → U → Prop} (hr : vx_Run p l e R s m args below meth c H locs cells slots mc ms (F0 m pc ls st0) rest (va_Qq post (fun u t => zPost D (T9 u) (va_A w H.size) (w9 u) t) (va_A w H.size) a) (zXc D tys w (va_A w H.size) EX) (va_A w H.size)) (hw : zHere D t0 tys w A s H locs)
    (kx : ∀ (E : String) (ce : Cell) (q9 : Addr) (H1 : Heap) (locs1 : List Loc), EX E → va_P D zcl w H1 → va_D A w → va_S A s.heap H1 locs1 → H1[q9]? = some ce → ce.vm = .none → s.vm.findClass E = some ce.cls → vx_W p l e R s m args below meth c H1 locs1 (cells + mc) (slots + ms) Q (F0 m pc ls rest) q9)
    (kk : ∀ (r : Option Nat) (u : U) (H1 : Heap) (locs1 : List Loc), post r u → va_P D zcl (w9 u) H1 → va_K D zcl (T9 u) s → va_D A (w9 u) → va_S A s.heap H1 locs1 → W p l e R s m args below meth c H1 locs1 (cells + mc) (slots + ms) Q (F0 m (pc + 3) ls (va_rf r :: rest))) : W p l e R s m args below meth c H locs cells slots Q (F0 m pc ls st0) :=
  vx_callq hr hw.2.2.2.1 (fun q _ h => hw.free q h) hw.free (fun q _ h => hw.free q h)
    (fun E ce q9 _ t H1 locs1 ht _ _ hB _ _ hS1 hce hcv hcl => kx E ce q9 H1 locs1 hB.1 (by rw [← ht]; exact hB.2.1) (hB.2.2.2.weaken (fun _ q _ h => hw.free q.1 h)) hS1 hce hcv hcl)
    (fun r u t H1 locs1 ht hvm hp hB _ _ hS1 => kk r u H1 locs1 hp (by rw [← ht]; exact hB.1) (va_K.moved hvm.symm hB.2.1) (hB.2.2.weaken (fun _ q _ h => hw.free q.1 h)) hS1)
end
end
section
def zq_rw (z : ZT) (v : Int32) : Nat := if 0 ≤ v.toInt ∧ v.toInt ≤ 8188 then (match zq_hv z v with | none => 2 | some a => if z_bs z a ≤ v.toInt.toNat + 3 ∧ v.toInt.toNat + 3 < z_bs z a + z_bz z a then 0 else 2) else 1
def zq_ls (z : ZT) (v : Int32) : Nat := match zq_st z v with
  | none => 1
  | some a => if z_kp z a = true then 2 else 0
theorem zq_rw_bad {z : ZT} {v : Int32} (h : ¬ (0 ≤ v.toInt ∧ v.toInt ≤ 8188)) : zq_rw z v = 1 := if_neg h
theorem zq_rw_none {z : ZT} {v : Int32} (h : 0 ≤ v.toInt ∧ v.toInt ≤ 8188) (hv : zq_hv z v = none) : zq_rw z v = 2 := by
  unfold zq_rw
  rw [if_pos h, hv]
theorem zq_rw_some {z : ZT} {v : Int32} {a : Nat} (h : 0 ≤ v.toInt ∧ v.toInt ≤ 8188) (hv : zq_hv z v = some a) : zq_rw z v = if z_bs z a ≤ v.toInt.toNat + 3 ∧ v.toInt.toNat + 3 < z_bs z a + z_bz z a then 0 else 2 := by
  unfold zq_rw
  rw [if_pos h, hv]
theorem zq_rw_0 {z : ZT} {v : Int32} (h : zq_rw z v = 0) : ∃ x a : Nat, v = nI x ∧ x + 4 ≤ 8192 ∧ zq_hv z v = some a := by
  by_cases q : 0 ≤ v.toInt ∧ v.toInt ≤ 8188
  · cases hv : zq_hv z v with
    | none => rw [zq_rw_none q hv] at h; omega
    | some a =>
      obtain ⟨x, h1, h2, -⟩ := zq_hv_of hv
      rw [h2, nI_toInt (by omega)] at q
      exact ⟨x, a, h2, by omega, rfl⟩
  · rw [zq_rw_bad q] at h; omega
set_option maxHeartbeats 1000000 in
set_option maxRecDepth 100000 in
theorem c_Z_refuseWrongSize_ok (l : Launch) (D : va_G) (t0 : Nat) (tys : List (ClassId × FieldType)) (w : va_W) (sz : Nat) (v : Int32) (hst : l.stackTraces = false) : vx_Met l y_Z_refuseWrongSize w_Z_refuseWrongSize ({ frames := 6, cells := 1, slots := 6, locals := 90 }) (zPre D t0 (tys) (w) sz [.int v]) (va_Qv (fun _ => (0 ≤ v.toInt ∧ v.toInt ≤ 2048)) (fun (u : Unit) t => zPost D (tys) (va_A (w) sz) (w) t) (va_A (w) sz)) (zXc D (tys) (w) (va_A (w) sz) (fun E => E = "java/lang/IllegalArgumentException" ∧ ¬ (0 ≤ v.toInt ∧ v.toInt ≤ 2048))) 1 6 (va_A (w) sz) := by
  refine vx_ofW (cc := c_Z_refuseWrongSize) (maxL := 1) (ret := none) (by decide) rfl ?_
  intro p e s m args below meth c s₁ B hml hex hv
  obtain ⟨rfl, hsz, hP, hK, hD0, hE⟩ := hv
  have hx := B.exec
  have hb := B.bytes
  have hr := B.returns
  have hts := atoms_spec (ws := w_Z_refuseWrongSize) B.pre
  have hk : ∀ w ∈ zB, w.before _ s = true := fun w h => hts w (List.mem_cons_of_mem _ h)
  have hown : s.vm.findClass "ZoneHeap" = some m.cls := findClass_of_methodNamed B.named
  have hlocks := B.notSynchronized
  subst hsz
  have hD := hD0.self (sz := s.heap.size)
  generalize hAe : va_A (w) s.heap.size = A at hD hE ⊢
  have hA : ∀ q : Nat, s.heap.size ≤ q → A q := fun q h => by rw [← hAe]; exact Or.inr h
  have hS : va_S A s.heap s.heap [] := va_S.rf
  have hl := lv_entry ([.int v]) (n := 1) (Nat.le_of_ble_eq_true rfl)
  rw [lg_entry_eq]
  generalize (lg_sl ([.int v]) ++ List.replicate (1 - (lg_sl ([.int v])).length) Slot.unset).toArray = ls at hl ⊢
  have hl : lv_has ls 1 [(0, .int v)] := hl
  refine lv_iload_n hx hb d_Z_refuseWrongSize_0 rfl (lv_at hl 0 rfl) ?_
  refine lv_if_lt (tgt := 11) hx hb d_Z_refuseWrongSize_1 (by decide) (fun h => ?_) (fun h => ?_)
  · exact zthrow (is := 136) (text := "no block has so many octets") hst hx hb hk hown hex hlocks ⟨hP, hK, hD, hS, hA, hE⟩ zk146 zk9 (by decide +kernel) zat_A (hl.1.trans hml.symm) d_Z_refuseWrongSize_11 d_Z_refuseWrongSize_14 d_Z_refuseWrongSize_15 d_Z_refuseWrongSize_17 d_Z_refuseWrongSize_20 (⟨rfl, by have := zi_lt0 h; omega⟩) (Nat.le_of_ble_eq_true rfl) (Nat.le_of_ble_eq_true rfl) (Nat.le_of_ble_eq_true rfl) (Nat.le_of_ble_eq_true rfl) (Nat.le_of_ble_eq_true rfl) (Nat.le_of_ble_eq_true rfl)
  obtain ⟨x, hx31, rfl⟩ := nI_of h
  refine lv_iload_n hx hb d_Z_refuseWrongSize_4 rfl (lv_at hl 0 rfl) ?_
  refine lv_sipush (v := nI 2048) hx hb d_Z_refuseWrongSize_5 (by decide) ?_
  refine lv_icmp_le (tgt := 21) hx hb d_Z_refuseWrongSize_8 (by decide) (fun h => ?_) (fun h => ?_)
  rotate_left 1
  · rw [nI_leI (by omega) (by omega)] at h
    exact zthrow (is := 136) (text := "no block has so many octets") hst hx hb hk hown hex hlocks ⟨hP, hK, hD, hS, hA, hE⟩ zk146 zk9 (by decide +kernel) zat_A (hl.1.trans hml.symm) d_Z_refuseWrongSize_11 d_Z_refuseWrongSize_14 d_Z_refuseWrongSize_15 d_Z_refuseWrongSize_17 d_Z_refuseWrongSize_20 (⟨rfl, by rw [nI_toInt hx31]; omega⟩) (Nat.le_of_ble_eq_true rfl) (Nat.le_of_ble_eq_true rfl) (Nat.le_of_ble_eq_true rfl) (Nat.le_of_ble_eq_true rfl) (Nat.le_of_ble_eq_true rfl) (Nat.le_of_ble_eq_true rfl)
  rw [nI_leI (by omega) (by omega)] at h
  refine vx_ret ?_
  refine W.widen (k := 1) (n := 6) (by omega) (by omega) ?_
  exact W.vret hx hb hr (fun t ht hW => ⟨⟨(), rfl, by show 0 ≤ (nI x).toInt ∧ (nI x).toInt ≤ 2048; rw [nI_toInt hx31]; omega, by rw [ht]; exact hP, va_K.moved hW.alike hK, hD⟩, hS.F ht⟩) hS.2.2 d_Z_refuseWrongSize_21
set_option maxHeartbeats 1000000 in
set_option maxRecDepth 100000 in
theorem c_Z_refuseWrongOctet_ok (l : Launch) (D : va_G) (t0 : Nat) (tys : List (ClassId × FieldType)) (w : va_W) (sz : Nat) (v : Int32) (hst : l.stackTraces = false) : vx_Met l y_Z_refuseWrongOctet w_Z_refuseWrongOctet ({ frames := 6, cells := 1, slots := 6, locals := 90 }) (zPre D t0 (tys) (w) sz [.int v]) (va_Qv (fun _ => ∃ x : Nat, zq_at v = some x) (fun (u : Unit) t => zPost D (tys) (va_A (w) sz) (w) t) (va_A (w) sz)) (zXc D (tys) (w) (va_A (w) sz) (fun E => E = "java/lang/IndexOutOfBoundsException" ∧ zq_at v = none)) 1 6 (va_A (w) sz) := by
  refine vx_ofW (cc := c_Z_refuseWrongOctet) (maxL := 1) (ret := none) (by decide) rfl ?_
  intro p e s m args below meth c s₁ B hml hex hv
  obtain ⟨rfl, hsz, hP, hK, hD0, hE⟩ := hv
  have hx := B.exec
  have hb := B.bytes
  have hr := B.returns
  have hts := atoms_spec (ws := w_Z_refuseWrongOctet) B.pre
  have hk : ∀ w ∈ zB, w.before _ s = true := fun w h => hts w (List.mem_cons_of_mem _ h)
  have hown : s.vm.findClass "ZoneHeap" = some m.cls := findClass_of_methodNamed B.named
  have hlocks := B.notSynchronized
  subst hsz
  have hD := hD0.self (sz := s.heap.size)
  generalize hAe : va_A (w) s.heap.size = A at hD hE ⊢
  have hA : ∀ q : Nat, s.heap.size ≤ q → A q := fun q h => by rw [← hAe]; exact Or.inr h
  have hS : va_S A s.heap s.heap [] := va_S.rf
  have hl := lv_entry ([.int v]) (n := 1) (Nat.le_of_ble_eq_true rfl)
  rw [lg_entry_eq]
  generalize (lg_sl ([.int v]) ++ List.replicate (1 - (lg_sl ([.int v])).length) Slot.unset).toArray = ls at hl ⊢
  have hl : lv_has ls 1 [(0, .int v)] := hl
  refine lv_iload_n hx hb d_Z_refuseWrongOctet_0 rfl (lv_at hl 0 rfl) ?_
  refine vp_callSi (zrS (n := 1) (As := [.int v]) (rest := []) ⟨hx, hb, hml, hown, hk⟩ (c_Z_isOctet_ok l D t0 tys w s.heap.size v) zk111 zk112 zk1 kc_Z_isOctet ⟨by decide, by decide, by decide⟩ rfl rfl ⟨Nat.le_of_ble_eq_true rfl, Nat.le_of_ble_eq_true rfl⟩ ⟨hP, hK, hD, hS, hA, hE⟩ rfl hl.1 rfl (Nat.le_of_ble_eq_true rfl) d_Z_refuseWrongOctet_1 ⟨Nat.le_of_ble_eq_true rfl, Nat.le_of_ble_eq_true rfl⟩).run (fun r hr1 => ?_)
  subst hr1
  refine lv_if_ne (tgt := 17) hx hb d_Z_refuseWrongOctet_4 (by decide) (fun h => ?_) (fun h => ?_)
  rotate_left 1
  · rw [zh_zb] at h
    have hq : zq_at v = none := by cases hq : zq_at v with | none => rfl | some x => rw [hq] at h; cases h
    exact zthrow (is := 141) (text := "no such octet") hst hx hb hk hown hex hlocks ⟨hP, hK, hD, hS, hA, hE⟩ zk384 zk18 (by decide +kernel) zat_I (hl.1.trans hml.symm) d_Z_refuseWrongOctet_7 d_Z_refuseWrongOctet_10 d_Z_refuseWrongOctet_11 d_Z_refuseWrongOctet_13 d_Z_refuseWrongOctet_16 (⟨rfl, hq⟩) (Nat.le_of_ble_eq_true rfl) (Nat.le_of_ble_eq_true rfl) (Nat.le_of_ble_eq_true rfl) (Nat.le_of_ble_eq_true rfl) (Nat.le_of_ble_eq_true rfl) (Nat.le_of_ble_eq_true rfl)
  rw [zh_zb] at h
  have hq : ∃ x : Nat, zq_at v = some x := by cases hq : zq_at v with | none => rw [hq] at h; exact absurd rfl h | some x => exact ⟨x, rfl⟩
  refine vx_ret ?_
  refine W.widen (k := 1) (n := 6) (by omega) (by omega) ?_
  exact W.vret hx hb hr (fun t ht hW => ⟨⟨(), rfl, hq, by rw [ht]; exact hP, va_K.moved hW.alike hK, hD⟩, hS.F ht⟩) hS.2.2 d_Z_refuseWrongOctet_17
set_option maxHeartbeats 1000000 in
set_option maxRecDepth 100000 in
theorem c_Z_refuseWrongWord_ok (l : Launch) (D : va_G) (t0 : Nat) (g : ZG) (z : ZT) (sz : Nat) (v : Int32) (hz : zOK z) (hst : l.stackTraces = false) : vx_Met l y_Z_refuseWrongWord w_Z_refuseWrongWord ({ frames := 6, cells := 1, slots := 6, locals := 90 }) (zPre D t0 (zT g z) (zW t0 g z) sz [.ref (g_h g), .int v]) (va_Qv (fun _ => zq_rw z v = 0) (fun (u : Unit) t => zPost D (zT g z) (va_A (zW t0 g z) sz) (zW t0 g z) t) (va_A (zW t0 g z) sz)) (zXc D (zT g z) (zW t0 g z) (va_A (zW t0 g z) sz) (fun E => (E = "java/lang/IndexOutOfBoundsException" ∧ zq_rw z v = 1) ∨ (E = "java/lang/IllegalStateException" ∧ zq_rw z v = 2))) 1 6 (va_A (zW t0 g z) sz) := by
  refine vx_ofW (cc := c_Z_refuseWrongWord) (maxL := 3) (ret := none) (by decide) rfl ?_
  intro p e s m args below meth c s₁ B hml hex hv
  obtain ⟨rfl, hsz, hP, hK, hD0, hE⟩ := hv
  have hx := B.exec
  have hb := B.bytes
  have hr := B.returns
  have hts := atoms_spec (ws := w_Z_refuseWrongWord) B.pre
  have hk : ∀ w ∈ zB, w.before _ s = true := fun w h => hts w (List.mem_cons_of_mem _ h)
  have hown : s.vm.findClass "ZoneHeap" = some m.cls := findClass_of_methodNamed B.named
  have hlocks := B.notSynchronized
  subst hsz
  have hD := hD0.self (sz := s.heap.size)
  generalize hAe : va_A (zW t0 g z) s.heap.size = A at hD hE ⊢
  have hA : ∀ q : Nat, s.heap.size ≤ q → A q := fun q h => by rw [← hAe]; exact Or.inr h
  have hS : va_S A s.heap s.heap [] := va_S.rf
  have hl := lv_entry ([.ref (g_h g), .int v]) (n := 3) (Nat.le_of_ble_eq_true rfl)
  rw [lg_entry_eq]
  generalize (lg_sl ([.ref (g_h g), .int v]) ++ List.replicate (3 - (lg_sl ([.ref (g_h g), .int v])).length) Slot.unset).toArray = ls at hl ⊢
  have hl : lv_has ls 3 [(0, .ref (g_h g)), (1, .int v)] := hl
  refine lv_iload_n hx hb d_Z_refuseWrongWord_0 rfl (lv_at hl 1 rfl) ?_
  refine lv_if_lt (tgt := 11) hx hb d_Z_refuseWrongWord_1 (by decide) (fun h => ?_) (fun h => ?_)
  · exact zthrow (is := 143) (text := "no such four octets") hst hx hb hk hown hex hlocks ⟨hP, hK, hD, hS, hA, hE⟩ zk384 zk18 (by decide +kernel) zat_I (hl.1.trans hml.symm) d_Z_refuseWrongWord_11 d_Z_refuseWrongWord_14 d_Z_refuseWrongWord_15 d_Z_refuseWrongWord_17 d_Z_refuseWrongWord_20 (Or.inl ⟨rfl, zq_rw_bad (by have := zi_lt0 h; omega)⟩) (Nat.le_of_ble_eq_true rfl) (Nat.le_of_ble_eq_true rfl) (Nat.le_of_ble_eq_true rfl) (Nat.le_of_ble_eq_true rfl) (Nat.le_of_ble_eq_true rfl) (Nat.le_of_ble_eq_true rfl)
  obtain ⟨x, hx31, rfl⟩ := nI_of h
  refine lv_iload_n hx hb d_Z_refuseWrongWord_4 rfl (lv_at hl 1 rfl) ?_
  refine lv_sipush (v := nI 8188) hx hb d_Z_refuseWrongWord_5 (by decide) ?_
  refine lv_icmp_le (tgt := 21) hx hb d_Z_refuseWrongWord_8 (by decide) (fun h => ?_) (fun h => ?_)
  rotate_left 1
  · rw [nI_leI (by omega) (by omega)] at h
    exact zthrow (is := 143) (text := "no such four octets") hst hx hb hk hown hex hlocks ⟨hP, hK, hD, hS, hA, hE⟩ zk384 zk18 (by decide +kernel) zat_I (hl.1.trans hml.symm) d_Z_refuseWrongWord_11 d_Z_refuseWrongWord_14 d_Z_refuseWrongWord_15 d_Z_refuseWrongWord_17 d_Z_refuseWrongWord_20 (Or.inl ⟨rfl, zq_rw_bad (by rw [nI_toInt hx31]; omega)⟩) (Nat.le_of_ble_eq_true rfl) (Nat.le_of_ble_eq_true rfl) (Nat.le_of_ble_eq_true rfl) (Nat.le_of_ble_eq_true rfl) (Nat.le_of_ble_eq_true rfl) (Nat.le_of_ble_eq_true rfl)
  rw [nI_leI (by omega) (by omega)] at h
  have hin : 0 ≤ (nI x).toInt ∧ (nI x).toInt ≤ 8188 := by rw [nI_toInt hx31]; omega
  refine lv_aload_n hx hb d_Z_refuseWrongWord_21 rfl (lv_at hl 0 rfl) ?_
  refine lv_iload_n hx hb d_Z_refuseWrongWord_22 rfl (lv_at hl 1 rfl) ?_
  refine va_csq (zrV (n := 1) (As := [.int (nI x)]) (rest := []) ⟨hx, hb, hml, hown, hk⟩ (c_Z_liveHaving_ok l D t0 g z s.heap.size (nI x) hz) zk114 zk116 ks_Z_liveHaving zk1 kc_Z_liveHaving ⟨rfl, by decide, by decide, by decide⟩ rfl rfl ⟨Nat.le_of_ble_eq_true rfl, Nat.le_of_ble_eq_true rfl⟩ ⟨hP, hK, hD, hS, hA, hE⟩ (va_recv hK hP (ci := 0) (q0 := 0) rfl rfl) rfl hl.1 rfl (Nat.le_of_ble_eq_true rfl) d_Z_refuseWrongWord_23 ⟨Nat.le_of_ble_eq_true rfl, Nat.le_of_ble_eq_true rfl⟩).run (fun r hr1 => ?_)
  rcases zopt (r) with hro | ⟨a, hro⟩
  · refine zh_v (show va_rf (r) = .null from by rw [hro]; rfl) ?_
    refine lv_astore_nN (lv' := [(2, .null), (0, .ref (g_h g)), (1, .int (nI x))]) hx hb d_Z_refuseWrongWord_26 rfl hl (by decide) rfl (fun ls hl => ?_)
    refine lv_aload_nN hx hb d_Z_refuseWrongWord_27 rfl (lv_at hl 0 rfl) ?_
    refine lv_ifnullN (tgt := 43) hx hb d_Z_refuseWrongWord_28 (by decide) ?_
    exact zthrow (is := 147) (text := "not all four are live") hst hx hb hk hown hex hlocks ⟨hP, hK, hD, hS, hA, hE⟩ zk265 zk12 (by decide +kernel) zat_S (hl.1.trans hml.symm) d_Z_refuseWrongWord_43 d_Z_refuseWrongWord_46 d_Z_refuseWrongWord_47 d_Z_refuseWrongWord_49 d_Z_refuseWrongWord_52 (Or.inr ⟨rfl, zq_rw_none hin (by rw [← hr1, hro])⟩) (Nat.le_of_ble_eq_true rfl) (Nat.le_of_ble_eq_true rfl) (Nat.le_of_ble_eq_true rfl) (Nat.le_of_ble_eq_true rfl) (Nat.le_of_ble_eq_true rfl) (Nat.le_of_ble_eq_true rfl)
  refine zh_v (show va_rf (r) = .ref a from by rw [hro]; rfl) ?_
  have hv : zq_hv z (nI x) = some a := by rw [← hr1, hro]
  have ha : a ∈ z_LB z := zq_hv_in hz hv
  have hrw := zq_rw_some hin hv
  rw [nI_toInt hx31, show ((x : Int)).toNat = x from rfl] at hrw
  refine lv_astore_n (lv' := [(2, .ref a), (0, .ref (g_h g)), (1, .int (nI x))]) hx hb d_Z_refuseWrongWord_26 rfl hl (by decide) rfl (fun ls hl => ?_)
  refine lv_aload_n hx hb d_Z_refuseWrongWord_27 rfl (lv_at hl 0 rfl) ?_
  refine lv_ifnull hx hb d_Z_refuseWrongWord_28 ?_
  refine lv_aload_n hx hb d_Z_refuseWrongWord_31 rfl (lv_at hl 0 rfl) ?_
  refine lv_iload_n hx hb d_Z_refuseWrongWord_32 rfl (lv_at hl 2 rfl) ?_
  refine lv_iconst (v := nI 4) hx hb d_Z_refuseWrongWord_33 (by decide) ?_
  refine lv_iadd hx hb d_Z_refuseWrongWord_34 ?_
  refine zh_t (show (nI x + nI 4) = nI (x + 4) from nI_add _ _) ?_
  refine lv_iconst (v := nI 1) hx hb d_Z_refuseWrongWord_35 (by decide) ?_
  refine lv_isub hx hb d_Z_refuseWrongWord_36 ?_
  refine zh_t (show (nI (x + 4) - nI 1) = nI (x + 4 - 1) from pk_sub (by omega)) ?_
  refine zh_t (show nI (x + 4 - 1) = nI (x + 3) from congrArg nI (by omega)) ?_
  refine vp_callSi (zrVN (n := 1) (As := [.int (nI (x + 3))]) (rest := []) ⟨hx, hb, hml, hown, hk⟩ (c_B_has_ok l D t0 g z s.heap.size a (x + 3) ha hz (by omega)) zn118 zk120 ks_B_has zk11 kc_B_has ⟨by decide, by decide, by decide⟩ rfl rfl ⟨Nat.le_of_ble_eq_true rfl, Nat.le_of_ble_eq_true rfl⟩ ⟨hP, hK, hD, hS, hA, hE⟩ (by obtain ⟨k9, hk9⟩ := zpool (t0 := t0) (g := g) (z := z) ha; exact va_recv hK hP (ci := 1) rfl hk9) rfl hl.1 rfl (Nat.le_of_ble_eq_true rfl) d_Z_refuseWrongWord_37 ⟨Nat.le_of_ble_eq_true rfl, Nat.le_of_ble_eq_true rfl⟩).run (fun r hr2 => ?_)
  subst hr2
  refine lv_if_ne (tgt := 53) hx hb d_Z_refuseWrongWord_40 (by decide) (fun h => ?_) (fun h => ?_)
  rotate_left 1
  · rw [zh_zb] at h
    exact zthrow (is := 147) (text := "not all four are live") hst hx hb hk hown hex hlocks ⟨hP, hK, hD, hS, hA, hE⟩ zk265 zk12 (by decide +kernel) zat_S (hl.1.trans hml.symm) d_Z_refuseWrongWord_43 d_Z_refuseWrongWord_46 d_Z_refuseWrongWord_47 d_Z_refuseWrongWord_49 d_Z_refuseWrongWord_52 (Or.inr ⟨rfl, by rw [hrw, if_neg (of_decide_eq_false h)]⟩) (Nat.le_of_ble_eq_true rfl) (Nat.le_of_ble_eq_true rfl) (Nat.le_of_ble_eq_true rfl) (Nat.le_of_ble_eq_true rfl) (Nat.le_of_ble_eq_true rfl) (Nat.le_of_ble_eq_true rfl)
  rw [zh_zb] at h
  refine vx_ret ?_
  refine W.widen (k := 1) (n := 6) (by omega) (by omega) ?_
  exact W.vret hx hb hr (fun t ht hW => ⟨⟨(), rfl, by show zq_rw z (nI x) = 0; rw [hrw, if_pos (of_decide_eq_true (ts_nf h))], by rw [ht]; exact hP, va_K.moved hW.alike hK, hD⟩, hS.F ht⟩) hS.2.2 d_Z_refuseWrongWord_53
set_option maxHeartbeats 1000000 in
set_option maxRecDepth 100000 in
theorem c_Z_liveStandingAt_ok (l : Launch) (D : va_G) (t0 : Nat) (g : ZG) (z : ZT) (sz : Nat) (v : Int32) (hz : zOK z) (hst : l.stackTraces = false) : vx_Met l y_Z_liveStandingAt w_Z_liveStandingAt ({ frames := 6, cells := 1, slots := 6, locals := 90 }) (zPre D t0 (zT g z) (zW t0 g z) sz [.ref (g_h g), .int v]) (va_Qq (fun r _ => zq_ls z v = 0 ∧ r = zq_st z v) (fun (u : Unit) t => zPost D (zT g z) (va_A (zW t0 g z) sz) (zW t0 g z) t) (va_A (zW t0 g z) sz)) (zXc D (zT g z) (zW t0 g z) (va_A (zW t0 g z) sz) (fun E => (E = "java/lang/IllegalArgumentException" ∧ zq_ls z v = 1) ∨ (E = "java/lang/IllegalStateException" ∧ zq_ls z v = 2))) 1 6 (va_A (zW t0 g z) sz) := by
  refine vx_ofW (cc := c_Z_liveStandingAt) (maxL := 3) (ret := (some (.object "ZoneHeap$Block"))) (by decide) rfl ?_
  intro p e s m args below meth c s₁ B hml hex hv
  obtain ⟨rfl, hsz, hP, hK, hD0, hE⟩ := hv
  have hx := B.exec
  have hb := B.bytes
  have hr := B.returns
  have hts := atoms_spec (ws := w_Z_liveStandingAt) B.pre
  have hk : ∀ w ∈ zB, w.before _ s = true := fun w h => hts w (List.mem_cons_of_mem _ h)
  have hown : s.vm.findClass "ZoneHeap" = some m.cls := findClass_of_methodNamed B.named
  have hlocks := B.notSynchronized
  subst hsz
  have hD := hD0.self (sz := s.heap.size)
  generalize hAe : va_A (zW t0 g z) s.heap.size = A at hD hE ⊢
  have hA : ∀ q : Nat, s.heap.size ≤ q → A q := fun q h => by rw [← hAe]; exact Or.inr h
  have hS : va_S A s.heap s.heap [] := va_S.rf
  have hl := lv_entry ([.ref (g_h g), .int v]) (n := 3) (Nat.le_of_ble_eq_true rfl)
  rw [lg_entry_eq]
  generalize (lg_sl ([.ref (g_h g), .int v]) ++ List.replicate (3 - (lg_sl ([.ref (g_h g), .int v])).length) Slot.unset).toArray = ls at hl ⊢
  have hl : lv_has ls 3 [(0, .ref (g_h g)), (1, .int v)] := hl
  refine lv_aload_n hx hb d_Z_liveStandingAt_0 rfl (lv_at hl 0 rfl) ?_
  refine lv_iload_n hx hb d_Z_liveStandingAt_1 rfl (lv_at hl 1 rfl) ?_
  refine va_csq (zrV (n := 1) (As := [.int v]) (rest := []) ⟨hx, hb, hml, hown, hk⟩ (c_Z_standingAt_ok l D t0 g z s.heap.size v hz) zk107 zk109 ks_Z_standingAt zk1 kc_Z_standingAt ⟨rfl, by decide, by decide, by decide⟩ rfl rfl ⟨Nat.le_of_ble_eq_true rfl, Nat.le_of_ble_eq_true rfl⟩ ⟨hP, hK, hD, hS, hA, hE⟩ (va_recv hK hP (ci := 0) (q0 := 0) rfl rfl) rfl hl.1 rfl (Nat.le_of_ble_eq_true rfl) d_Z_liveStandingAt_2 ⟨Nat.le_of_ble_eq_true rfl, Nat.le_of_ble_eq_true rfl⟩).run (fun r hr1 => ?_)
  rcases zopt (r) with hro | ⟨a, hro⟩
  · refine zh_v (show va_rf (r) = .null from by rw [hro]; rfl) ?_
    refine lv_astore_nN (lv' := [(2, .null), (0, .ref (g_h g)), (1, .int v)]) hx hb d_Z_liveStandingAt_5 rfl hl (by decide) rfl (fun ls hl => ?_)
    refine lv_aload_nN hx hb d_Z_liveStandingAt_6 rfl (lv_at hl 0 rfl) ?_
    refine lv_ifnonnullN hx hb d_Z_liveStandingAt_7 ?_
    exact zthrow (is := 153) (text := "no block stands there") hst hx hb hk hown hex hlocks ⟨hP, hK, hD, hS, hA, hE⟩ zk146 zk9 (by decide +kernel) zat_A (hl.1.trans hml.symm) d_Z_liveStandingAt_10 d_Z_liveStandingAt_13 d_Z_liveStandingAt_14 d_Z_liveStandingAt_16 d_Z_liveStandingAt_19 (Or.inl ⟨rfl, by unfold zq_ls; rw [← hr1, hro]⟩) (Nat.le_of_ble_eq_true rfl) (Nat.le_of_ble_eq_true rfl) (Nat.le_of_ble_eq_true rfl) (Nat.le_of_ble_eq_true rfl) (Nat.le_of_ble_eq_true rfl) (Nat.le_of_ble_eq_true rfl)
  refine zh_v (show va_rf (r) = .ref a from by rw [hro]; rfl) ?_
  have hst2 : zq_st z v = some a := by rw [← hr1, hro]
  have ha : a ∈ z_LB z := zq_st_in hz hst2
  refine lv_astore_n (lv' := [(2, .ref a), (0, .ref (g_h g)), (1, .int v)]) hx hb d_Z_liveStandingAt_5 rfl hl (by decide) rfl (fun ls hl => ?_)
  refine lv_aload_n hx hb d_Z_liveStandingAt_6 rfl (lv_at hl 0 rfl) ?_
  refine lv_ifnonnull (tgt := 20) hx hb d_Z_liveStandingAt_7 (by decide) ?_
  refine lv_aload_n hx hb d_Z_liveStandingAt_20 rfl (lv_at hl 0 rfl) ?_
  obtain ⟨k9, hk9⟩ := zpool (t0 := t0) (g := g) (z := z) ha
  refine va_getN (D := D) (ci := 1) (v := .int (zb (z_kp z a))) (C := RB) (T := TB) (N := 4) hx hb hk inB hown hK hP k9 hk9 rfl 2 (by decide) (va_Nw.use rfl (hE.1.1 _ zn236)) (fun _ h9 => h9) rfl d_Z_liveStandingAt_21 ?_
  refine lv_if_eq (tgt := 37) hx hb d_Z_liveStandingAt_24 (by decide) (fun h => ?_) (fun h => ?_)
  rotate_left 1
  · rw [zh_zb] at h
    exact zthrow (is := 155) (text := "the block was given back") hst hx hb hk hown hex hlocks ⟨hP, hK, hD, hS, hA, hE⟩ zk265 zk12 (by decide +kernel) zat_S (hl.1.trans hml.symm) d_Z_liveStandingAt_27 d_Z_liveStandingAt_30 d_Z_liveStandingAt_31 d_Z_liveStandingAt_33 d_Z_liveStandingAt_36 (Or.inr ⟨rfl, by unfold zq_ls; rw [hst2]; show (if z_kp z a = true then 2 else 0) = 2; rw [if_pos (ts_nf h)]⟩) (Nat.le_of_ble_eq_true rfl) (Nat.le_of_ble_eq_true rfl) (Nat.le_of_ble_eq_true rfl) (Nat.le_of_ble_eq_true rfl) (Nat.le_of_ble_eq_true rfl) (Nat.le_of_ble_eq_true rfl)
  rw [zh_zb] at h
  refine lv_aload_n hx hb d_Z_liveStandingAt_37 rfl (lv_at hl 0 rfl) ?_
  refine vx_ret ?_
  refine W.widen (k := 1) (n := 6) (by omega) (by omega) ?_
  exact W.aret (v := va_rf (some a)) hx hb hr (Or.inl ⟨_, rfl⟩) (va_rf_or _) (fun t ht hW => ⟨⟨some a, (), rfl, ⟨by unfold zq_ls; rw [hst2]; show (if z_kp z a = true then 2 else 0) = 0; rw [if_neg (by rw [h]; intro q; cases q)], hst2.symm⟩, by rw [ht]; exact hP, va_K.moved hW.alike hK, hD⟩, hS.F ht⟩) hS.2.2 d_Z_liveStandingAt_38
end
section
theorem zh_i8 (m : Nat) : (nI m).toInt8.toInt32 = sb_b (m % 256) := by
  unfold sb_b
  congr 1
  apply Int8.toBitVec_inj.mp
  rw [Int32.toBitVec_toInt8, Int32.toBitVec_toInt8]
  show (BitVec.ofNat 32 m).signExtend 8 = (BitVec.ofNat 32 (m % 256)).signExtend 8
  apply BitVec.eq_of_getLsbD_eq
  intro i hi
  rw [BitVec.getLsbD_signExtend, BitVec.getLsbD_signExtend, if_pos (by omega), if_pos (by omega), BitVec.getLsbD_ofNat, BitVec.getLsbD_ofNat, show (256 : Nat) = 2 ^ 8 from rfl, Nat.testBit_mod_two_pow]
  simp [hi]
theorem wb_of32 (x : Int32) : ∃ n : Nat, n < 2 ^ 32 ∧ x = nI n := ⟨x.toBitVec.toNat, x.toBitVec.isLt, Int32.toBitVec_inj.mp (by show _ = BitVec.ofNat 32 _; simp)⟩
theorem zh_byte {n j : Nat} (hn : n < 2 ^ 32) (hj : j < 4) : (((nI n).toUInt32 >>> ((nI (8 * j)).toUInt32 &&& Int32.toUInt32 31)).toInt32).toInt8.toInt32 = sb_b (n / 2 ^ (8 * j) % 256) := by
  have hs : ∀ k, k < 32 → (((nI k).toUInt32 &&& Int32.toUInt32 31).toBitVec % 32).toNat = k := by decide +kernel
  rw [pk_ushrN hn (nI (8 * j)) (8 * j) (hs _ (by omega)), zh_i8]
theorem zh_updb {e b : Nat} {f : Nat → Nat} (h : e < 2 ^ 31) : upd (fun j => sb_b (f j)) (nI e).toNatClampNeg (vp_nar .byte (sb_b b)) = fun j => sb_b (va_up f e b j) := by
  funext j
  rw [nI_clamp h, show vp_nar .byte (sb_b b) = sb_b b from pk_vb (nI b)]
  unfold upd va_up
  split <;> rfl
def zq_wr (oct : Nat → Nat) (x n : Nat) : Nat → Nat := va_up (va_up (va_up (va_up oct (x + 0) (n / 2 ^ (8 * 0) % 256)) (x + 1) (n / 2 ^ (8 * 1) % 256)) (x + 2) (n / 2 ^ (8 * 2) % 256)) (x + 3) (n / 2 ^ (8 * 3) % 256)
def zq_kind (z : ZT) (x : Nat) : Nat := match z_tk z (x / 16) with
  | none => if (1 ≤ x / 16 ∧ z_tk z (x / 16 - 1) ≠ none) ∨ (x / 16 + 1 < 512 ∧ z_tk z (x / 16 + 1) ≠ none) then 3 else 0
  | some a => if z_bs z a ≤ x ∧ x < z_bs z a + z_bz z a then (if z_kp z a = true then 2 else 1) else 3
set_option maxHeartbeats 1000000 in
set_option maxRecDepth 100000 in
theorem c_Z_get_ok (l : Launch) (D : va_G) (t0 : Nat) (g : ZG) (z : ZT) (sz : Nat) (v : Int32) (hz : zOK z) (hst : l.stackTraces = false) : vx_Met l y_Z_get w_Z_get ({ frames := 7, cells := 2, slots := 10, locals := 150 }) (zPre D t0 (zT g z) (zW t0 g z) sz [.ref (g_h g), .int v]) (va_Qi (fun r u => (0 ≤ v.toInt ∧ v.toInt ≤ 2048) ∧ ∃ k : Nat, zr_room (zt_gap (z_tk z) (zc v.toInt.toNat)) (zc v.toInt.toNat) k ∧ r = nI (16 * k) ∧ ((k = 0 ∧ u = z) ∨ (k ≠ 0 ∧ ∃ q : Nat, q ∉ z_LB z ∧ u = zq_make z q k v.toInt.toNat))) (fun (u : ZT) t => zPost D (zT g u) (va_A (zW t0 g z) sz) (zW t0 g u) t) (va_A (zW t0 g z) sz)) (zXc D (zT g z) (zW t0 g z) (va_A (zW t0 g z) sz) (fun E => E = "java/lang/IllegalArgumentException" ∧ ¬ (0 ≤ v.toInt ∧ v.toInt ≤ 2048))) 2 10 (va_A (zW t0 g z) sz) := by
  refine vx_ofW (cc := c_Z_get) (maxL := 3) (ret := (some .int)) (by decide) rfl ?_
  intro p e s m args below meth c s₁ B hml hex hv
  obtain ⟨rfl, hsz, hP, hK, hD0, hE⟩ := hv
  have hx := B.exec
  have hb := B.bytes
  have hr := B.returns
  have hts := atoms_spec (ws := w_Z_get) B.pre
  have hk : ∀ w ∈ zB, w.before _ s = true := fun w h => hts w (List.mem_cons_of_mem _ h)
  have hown : s.vm.findClass "ZoneHeap" = some m.cls := findClass_of_methodNamed B.named
  have hlocks := B.notSynchronized
  subst hsz
  have hD := hD0.self (sz := s.heap.size)
  generalize hAe : va_A (zW t0 g z) s.heap.size = A at hD hE ⊢
  have hA : ∀ q : Nat, s.heap.size ≤ q → A q := fun q h => by rw [← hAe]; exact Or.inr h
  have hS : va_S A s.heap s.heap [] := va_S.rf
  have hl := lv_entry ([.ref (g_h g), .int v]) (n := 3) (Nat.le_of_ble_eq_true rfl)
  rw [lg_entry_eq]
  generalize (lg_sl ([.ref (g_h g), .int v]) ++ List.replicate (3 - (lg_sl ([.ref (g_h g), .int v])).length) Slot.unset).toArray = ls at hl ⊢
  have hl : lv_has ls 3 [(0, .ref (g_h g)), (1, .int v)] := hl
  refine lv_iload_n hx hb d_Z_get_0 rfl (lv_at hl 1 rfl) ?_
  refine zxcv (zxS (n := 1) (As := [.int v]) (rest := []) ⟨hx, hb, hml, hown, hk⟩ (c_Z_refuseWrongSize_ok l D t0 (zT g z) (zW t0 g z) s.heap.size v hst) zk143 zk144 zk1 kc_Z_refuseWrongSize ⟨by decide, by decide, by decide⟩ rfl rfl ⟨Nat.le_of_ble_eq_true rfl, Nat.le_of_ble_eq_true rfl⟩ ⟨hP, hK, hD, hS, hA, hE⟩ rfl hl.1 rfl (Nat.le_of_ble_eq_true rfl) d_Z_get_1 ⟨Nat.le_of_ble_eq_true rfl, Nat.le_of_ble_eq_true rfl⟩) ⟨hP, hK, hD, hS, hA, hE⟩ (fun E ce q9 H locs hEX hP hD hS hce hcv hcl => ?_) (fun u H locs hu hP hK hD hS => ?_)
  · exact zpass hex hlocks hK (hEX) hP hD hS hce hcv hcl (Nat.le_of_ble_eq_true rfl) (Nat.le_of_ble_eq_true rfl)
  have hP : va_P D zcl (zW t0 g z) H := hP
  have hD : va_D A (zW t0 g z) := hD
  have hK : va_K D zcl (zT g z) s := hK
  have hok : (0 ≤ v.toInt ∧ v.toInt ≤ 2048) := hu
  obtain ⟨n, hn, rfl⟩ : ∃ n : Nat, n ≤ 2048 ∧ v = nI n := ⟨v.toInt.toNat, by omega, Int32.toInt_inj.mp (by rw [nI_toInt (by omega)]; omega)⟩
  have hvn : (nI n).toInt.toNat = n := by rw [nI_toInt (by omega)]; rfl
  refine lv_aload_n hx hb d_Z_get_4 rfl (lv_at hl 0 rfl) ?_
  refine lv_iload_n hx hb d_Z_get_5 rfl (lv_at hl 1 rfl) ?_
  refine zcq (zrV (n := 1) (As := [.int (nI n)]) (rest := []) ⟨hx, hb, hml, hown, hk⟩ (c_Z_make_ok l D t0 g z H.size n hn) zk213 zk215 ks_Z_make zk1 kc_Z_make ⟨rfl, by decide, by decide, by decide⟩ rfl rfl ⟨Nat.le_of_ble_eq_true rfl, Nat.le_of_ble_eq_true rfl⟩ ⟨hP, hK, hD, hS, hA, hE⟩ (va_recv hK hP (ci := 0) (q0 := 0) rfl rfl) rfl hl.1 rfl (Nat.le_of_ble_eq_true rfl) d_Z_get_6 ⟨Nat.le_of_ble_eq_true rfl, Nat.le_of_ble_eq_true rfl⟩) ⟨hP, hK, hD, hS, hA, hE⟩ (fun r u H locs hu hP hK hD hS => ?_)
  obtain ⟨k, hroom, hcase⟩ := hu
  rcases hcase with ⟨hk0, rfl, hue⟩ | ⟨hk0, q, hq, rfl, rfl⟩
  · rw [hue] at hP hD hK
    refine zh_v (show va_rf none = .null from rfl) ?_
    refine lv_astore_nN (lv' := [(2, .null), (0, .ref (g_h g)), (1, .int (nI n))]) hx hb d_Z_get_9 rfl hl (by decide) rfl (fun ls hl => ?_)
    refine lv_aload_nN hx hb d_Z_get_10 rfl (lv_at hl 0 rfl) ?_
    refine lv_ifnonnullN hx hb d_Z_get_11 ?_
    refine lv_iconst (v := nI 0) hx hb d_Z_get_14 (by decide) ?_
    refine lv_goto (tgt := 22) hx hb d_Z_get_15 (by decide) ?_
    refine vx_ret ?_
    exact W.iret hx hb hr (fun t ht hW => ⟨⟨_, z, rfl, ⟨hok, k, by rw [hvn]; exact hroom, by rw [hk0], Or.inl ⟨hk0, rfl⟩⟩, by rw [ht]; exact hP, va_K.moved hW.alike hK, hD⟩, hS.F ht⟩) hS.2.2 d_Z_get_22
  refine zh_v (show va_rf (some q) = .ref q from rfl) ?_
  have hP : va_P D zcl (zW t0 g (zq_make z q k n)) H := hP
  have hD : va_D A (zW t0 g (zq_make z q k n)) := hD
  have hK : va_K D zcl (zT g (zq_make z q k n)) s := hK
  have hk5 : k + zc n + 1 ≤ 512 := by
    rcases hroom with ⟨e0, -⟩ | ⟨e1, e2, -, -⟩
    · exact absurd e0 hk0
    · exact e2
  have hqm : q ∈ z_LB (zq_make z q k n) := List.mem_append_right _ List.mem_cons_self
  refine lv_astore_n (lv' := [(2, .ref q), (0, .ref (g_h g)), (1, .int (nI n))]) hx hb d_Z_get_9 rfl hl (by decide) rfl (fun ls hl => ?_)
  refine lv_aload_n hx hb d_Z_get_10 rfl (lv_at hl 0 rfl) ?_
  refine lv_ifnonnull (tgt := 18) hx hb d_Z_get_11 (by decide) ?_
  refine lv_aload_n hx hb d_Z_get_18 rfl (lv_at hl 0 rfl) ?_
  obtain ⟨k9, hk9⟩ := zpool (t0 := t0) (g := g) (z := (zq_make z q k n)) hqm
  refine va_getN (D := D) (ci := 1) (v := .int (nI (z_bs (zq_make z q k n) q))) (C := RB) (T := TB) (N := 4) hx hb hk inB hown hK hP k9 hk9 rfl 0 (by decide) (va_Nw.use rfl (hE.1.1 _ zn232)) (fun _ h9 => h9) rfl d_Z_get_19 ?_
  refine zh_t (show nI (z_bs (zq_make z q k n) q) = nI (16 * k) from congrArg nI (va_up_self _ _ _)) ?_
  refine vx_ret ?_
  exact W.iret hx hb hr (fun t ht hW => ⟨⟨_, (zq_make z q k n), rfl, ⟨hok, k, by rw [hvn]; exact hroom, rfl, Or.inr ⟨hk0, q, hq, by rw [hvn]⟩⟩, by rw [ht]; exact hP, va_K.moved hW.alike hK, hD⟩, hS.F ht⟩) hS.2.2 d_Z_get_22
set_option maxHeartbeats 1000000 in
set_option maxRecDepth 100000 in
theorem c_Z_block_ok (l : Launch) (D : va_G) (t0 : Nat) (g : ZG) (z : ZT) (sz : Nat) (v : Int32) (hz : zOK z) (hst : l.stackTraces = false) : vx_Met l y_Z_block w_Z_block ({ frames := 7, cells := 1, slots := 6, locals := 130 }) (zPre D t0 (zT g z) (zW t0 g z) sz [.ref (g_h g), .int v]) (va_Qi (fun r _ => (∃ x : Nat, zq_at v = some x) ∧ r = (match zq_hv z v with | none => -1 | some a => nI (z_bs z a))) (fun (u : Unit) t => zPost D (zT g z) (va_A (zW t0 g z) sz) (zW t0 g z) t) (va_A (zW t0 g z) sz)) (zXc D (zT g z) (zW t0 g z) (va_A (zW t0 g z) sz) (fun E => E = "java/lang/IndexOutOfBoundsException" ∧ zq_at v = none)) 1 6 (va_A (zW t0 g z) sz) := by
  refine vx_ofW (cc := c_Z_block) (maxL := 3) (ret := (some .int)) (by decide) rfl ?_
  intro p e s m args below meth c s₁ B hml hex hv
  obtain ⟨rfl, hsz, hP, hK, hD0, hE⟩ := hv
  have hx := B.exec
  have hb := B.bytes
  have hr := B.returns
  have hts := atoms_spec (ws := w_Z_block) B.pre
  have hk : ∀ w ∈ zB, w.before _ s = true := fun w h => hts w (List.mem_cons_of_mem _ h)
  have hown : s.vm.findClass "ZoneHeap" = some m.cls := findClass_of_methodNamed B.named
  have hlocks := B.notSynchronized
  subst hsz
  have hD := hD0.self (sz := s.heap.size)
  generalize hAe : va_A (zW t0 g z) s.heap.size = A at hD hE ⊢
  have hA : ∀ q : Nat, s.heap.size ≤ q → A q := fun q h => by rw [← hAe]; exact Or.inr h
  have hS : va_S A s.heap s.heap [] := va_S.rf
  have hl := lv_entry ([.ref (g_h g), .int v]) (n := 3) (Nat.le_of_ble_eq_true rfl)
  rw [lg_entry_eq]
  generalize (lg_sl ([.ref (g_h g), .int v]) ++ List.replicate (3 - (lg_sl ([.ref (g_h g), .int v])).length) Slot.unset).toArray = ls at hl ⊢
  have hl : lv_has ls 3 [(0, .ref (g_h g)), (1, .int v)] := hl
  refine lv_iload_n hx hb d_Z_block_0 rfl (lv_at hl 1 rfl) ?_
  refine zxcv (zxS (n := 1) (As := [.int v]) (rest := []) ⟨hx, hb, hml, hown, hk⟩ (c_Z_refuseWrongOctet_ok l D t0 (zT g z) (zW t0 g z) s.heap.size v hst) zk381 zk382 zk1 kc_Z_refuseWrongOctet ⟨by decide, by decide, by decide⟩ rfl rfl ⟨Nat.le_of_ble_eq_true rfl, Nat.le_of_ble_eq_true rfl⟩ ⟨hP, hK, hD, hS, hA, hE⟩ rfl hl.1 rfl (Nat.le_of_ble_eq_true rfl) d_Z_block_1 ⟨Nat.le_of_ble_eq_true rfl, Nat.le_of_ble_eq_true rfl⟩) ⟨hP, hK, hD, hS, hA, hE⟩ (fun E ce q9 H locs hEX hP hD hS hce hcv hcl => ?_) (fun u H locs hu hP hK hD hS => ?_)
  · exact zpass hex hlocks hK (hEX) hP hD hS hce hcv hcl (Nat.le_of_ble_eq_true rfl) (Nat.le_of_ble_eq_true rfl)
  have hP : va_P D zcl (zW t0 g z) H := hP
  have hD : va_D A (zW t0 g z) := hD
  have hK : va_K D zcl (zT g z) s := hK
  refine lv_aload_n hx hb d_Z_block_4 rfl (lv_at hl 0 rfl) ?_
  refine lv_iload_n hx hb d_Z_block_5 rfl (lv_at hl 1 rfl) ?_
  refine va_csq (zrV (n := 1) (As := [.int v]) (rest := []) ⟨hx, hb, hml, hown, hk⟩ (c_Z_liveHaving_ok l D t0 g z H.size v hz) zk114 zk116 ks_Z_liveHaving zk1 kc_Z_liveHaving ⟨rfl, by decide, by decide, by decide⟩ rfl rfl ⟨Nat.le_of_ble_eq_true rfl, Nat.le_of_ble_eq_true rfl⟩ ⟨hP, hK, hD, hS, hA, hE⟩ (va_recv hK hP (ci := 0) (q0 := 0) rfl rfl) rfl hl.1 rfl (Nat.le_of_ble_eq_true rfl) d_Z_block_6 ⟨Nat.le_of_ble_eq_true rfl, Nat.le_of_ble_eq_true rfl⟩).run (fun r hr1 => ?_)
  rcases zopt (r) with hro | ⟨a, hro⟩
  · refine zh_v (show va_rf (r) = .null from by rw [hro]; rfl) ?_
    refine lv_astore_nN (lv' := [(2, .null), (0, .ref (g_h g)), (1, .int v)]) hx hb d_Z_block_9 rfl hl (by decide) rfl (fun ls hl => ?_)
    refine lv_aload_nN hx hb d_Z_block_10 rfl (lv_at hl 0 rfl) ?_
    refine lv_ifnonnullN hx hb d_Z_block_11 ?_
    refine lv_iconst (v := ((-1))) hx hb d_Z_block_14 (by decide) ?_
    refine lv_goto (tgt := 22) hx hb d_Z_block_15 (by decide) ?_
    refine vx_ret ?_
    exact W.iret hx hb hr (fun t ht hW => ⟨⟨_, (), rfl, ⟨hu, by rw [← hr1, hro]⟩, by rw [ht]; exact hP, va_K.moved hW.alike hK, hD⟩, hS.F ht⟩) hS.2.2 d_Z_block_22
  refine zh_v (show va_rf (r) = .ref a from by rw [hro]; rfl) ?_
  have ha : a ∈ z_LB z := zq_hv_in hz (by rw [← hr1, hro])
  refine lv_astore_n (lv' := [(2, .ref a), (0, .ref (g_h g)), (1, .int v)]) hx hb d_Z_block_9 rfl hl (by decide) rfl (fun ls hl => ?_)
  refine lv_aload_n hx hb d_Z_block_10 rfl (lv_at hl 0 rfl) ?_
  refine lv_ifnonnull (tgt := 18) hx hb d_Z_block_11 (by decide) ?_
  refine lv_aload_n hx hb d_Z_block_18 rfl (lv_at hl 0 rfl) ?_
  obtain ⟨k9, hk9⟩ := zpool (t0 := t0) (g := g) (z := z) ha
  refine va_getN (D := D) (ci := 1) (v := .int (nI (z_bs z a))) (C := RB) (T := TB) (N := 4) hx hb hk inB hown hK hP k9 hk9 rfl 0 (by decide) (va_Nw.use rfl (hE.1.1 _ zn232)) (fun _ h9 => h9) rfl d_Z_block_19 ?_
  refine vx_ret ?_
  exact W.iret hx hb hr (fun t ht hW => ⟨⟨_, (), rfl, ⟨hu, by rw [← hr1, hro]⟩, by rw [ht]; exact hP, va_K.moved hW.alike hK, hD⟩, hS.F ht⟩) hS.2.2 d_Z_block_22
set_option maxHeartbeats 1000000 in
set_option maxRecDepth 100000 in
theorem c_Z_read_ok (l : Launch) (D : va_G) (t0 : Nat) (g : ZG) (z : ZT) (sz : Nat) (v : Int32) (hz : zOK z) (hst : l.stackTraces = false) : vx_Met l y_Z_read w_Z_read ({ frames := 7, cells := 1, slots := 6, locals := 130 }) (zPre D t0 (zT g z) (zW t0 g z) sz [.ref (g_h g), .int v]) (va_Qi (fun r _ => zq_rw z v = 0 ∧ r = nI (zwd (z_oct z) v.toInt.toNat)) (fun (u : Unit) t => zPost D (zT g z) (va_A (zW t0 g z) sz) (zW t0 g z) t) (va_A (zW t0 g z) sz)) (zXc D (zT g z) (zW t0 g z) (va_A (zW t0 g z) sz) (fun E => (E = "java/lang/IndexOutOfBoundsException" ∧ zq_rw z v = 1) ∨ (E = "java/lang/IllegalStateException" ∧ zq_rw z v = 2))) 1 6 (va_A (zW t0 g z) sz) := by
  refine vx_ofW (cc := c_Z_read) (maxL := 2) (ret := (some .int)) (by decide) rfl ?_
  intro p e s m args below meth c s₁ B hml hex hv
  obtain ⟨rfl, hsz, hP, hK, hD0, hE⟩ := hv
  have hx := B.exec
  have hb := B.bytes
  have hr := B.returns
  have hts := atoms_spec (ws := w_Z_read) B.pre
  have hk : ∀ w ∈ zB, w.before _ s = true := fun w h => hts w (List.mem_cons_of_mem _ h)
  have hown : s.vm.findClass "ZoneHeap" = some m.cls := findClass_of_methodNamed B.named
  have hlocks := B.notSynchronized
  subst hsz
  have hD := hD0.self (sz := s.heap.size)
  generalize hAe : va_A (zW t0 g z) s.heap.size = A at hD hE ⊢
  have hA : ∀ q : Nat, s.heap.size ≤ q → A q := fun q h => by rw [← hAe]; exact Or.inr h
  have hS : va_S A s.heap s.heap [] := va_S.rf
  have hl := lv_entry ([.ref (g_h g), .int v]) (n := 2) (Nat.le_of_ble_eq_true rfl)
  rw [lg_entry_eq]
  generalize (lg_sl ([.ref (g_h g), .int v]) ++ List.replicate (2 - (lg_sl ([.ref (g_h g), .int v])).length) Slot.unset).toArray = ls at hl ⊢
  have hl : lv_has ls 2 [(0, .ref (g_h g)), (1, .int v)] := hl
  refine lv_aload_n hx hb d_Z_read_0 rfl (lv_at hl 0 rfl) ?_
  refine lv_iload_n hx hb d_Z_read_1 rfl (lv_at hl 1 rfl) ?_
  refine zxcv (zxV (n := 1) (As := [.int v]) (rest := []) ⟨hx, hb, hml, hown, hk⟩ (c_Z_refuseWrongWord_ok l D t0 g z s.heap.size v hz hst) zk418 zk420 ks_Z_refuseWrongWord zk1 kc_Z_refuseWrongWord ⟨rfl, by decide, by decide, by decide⟩ rfl rfl ⟨Nat.le_of_ble_eq_true rfl, Nat.le_of_ble_eq_true rfl⟩ ⟨hP, hK, hD, hS, hA, hE⟩ (va_recv hK hP (ci := 0) (q0 := 0) rfl rfl) rfl hl.1 rfl (Nat.le_of_ble_eq_true rfl) d_Z_read_2 ⟨Nat.le_of_ble_eq_true rfl, Nat.le_of_ble_eq_true rfl⟩) ⟨hP, hK, hD, hS, hA, hE⟩ (fun E ce q9 H locs hEX hP hD hS hce hcv hcl => ?_) (fun u H locs hu hP hK hD hS => ?_)
  · exact zpass hex hlocks hK (hEX) hP hD hS hce hcv hcl (Nat.le_of_ble_eq_true rfl) (Nat.le_of_ble_eq_true rfl)
  have hP : va_P D zcl (zW t0 g z) H := hP
  have hD : va_D A (zW t0 g z) := hD
  have hK : va_K D zcl (zT g z) s := hK
  obtain ⟨x, a, rfl, hx4, hv⟩ := zq_rw_0 hu
  have hvn : (nI x).toInt.toNat = x := by rw [nI_toInt (by omega)]; rfl
  refine lv_aload_n hx hb d_Z_read_5 rfl (lv_at hl 0 rfl) ?_
  refine lv_iload_n hx hb d_Z_read_6 rfl (lv_at hl 1 rfl) ?_
  refine vp_callSi (zrV (n := 1) (As := [.int (nI x)]) (rest := []) ⟨hx, hb, hml, hown, hk⟩ (c_Z_wordAt_ok l D t0 g z H.size x hz hx4) zk127 zk129 ks_Z_wordAt zk1 kc_Z_wordAt ⟨rfl, by decide, by decide, by decide⟩ rfl rfl ⟨Nat.le_of_ble_eq_true rfl, Nat.le_of_ble_eq_true rfl⟩ ⟨hP, hK, hD, hS, hA, hE⟩ (va_recv hK hP (ci := 0) (q0 := 0) rfl rfl) rfl hl.1 rfl (Nat.le_of_ble_eq_true rfl) d_Z_read_7 ⟨Nat.le_of_ble_eq_true rfl, Nat.le_of_ble_eq_true rfl⟩).run (fun r hr1 => ?_)
  refine vx_ret ?_
  exact W.iret hx hb hr (fun t ht hW => ⟨⟨_, (), rfl, ⟨hu, by rw [hvn]; exact hr1⟩, by rw [ht]; exact hP, va_K.moved hW.alike hK, hD⟩, hS.F ht⟩) hS.2.2 d_Z_read_10
set_option maxHeartbeats 1000000 in
set_option maxRecDepth 100000 in
theorem c_Z_lostAt_ok (l : Launch) (D : va_G) (t0 : Nat) (g : ZG) (z : ZT) (sz : Nat) (v : Int32) (hz : zOK z) (hst : l.stackTraces = false) : vx_Met l y_Z_lostAt w_Z_lostAt ({ frames := 6, cells := 1, slots := 6, locals := 90 }) (zPre D t0 (zT g z) (zW t0 g z) sz [.ref (g_h g), .int v]) (va_Qi (fun r _ => (0 ≤ v.toInt ∧ v.toInt < z_ln z) ∧ r = nI (z_lf z v.toInt.toNat)) (fun (u : Unit) t => zPost D (zT g z) (va_A (zW t0 g z) sz) (zW t0 g z) t) (va_A (zW t0 g z) sz)) (zXc D (zT g z) (zW t0 g z) (va_A (zW t0 g z) sz) (fun E => E = "java/lang/IndexOutOfBoundsException" ∧ ¬ (0 ≤ v.toInt ∧ v.toInt < z_ln z))) 1 6 (va_A (zW t0 g z) sz) := by
  refine vx_ofW (cc := c_Z_lostAt) (maxL := 2) (ret := (some .int)) (by decide) rfl ?_
  intro p e s m args below meth c s₁ B hml hex hv
  obtain ⟨rfl, hsz, hP, hK, hD0, hE⟩ := hv
  have hx := B.exec
  have hb := B.bytes
  have hr := B.returns
  have hts := atoms_spec (ws := w_Z_lostAt) B.pre
  have hk : ∀ w ∈ zB, w.before _ s = true := fun w h => hts w (List.mem_cons_of_mem _ h)
  have hown : s.vm.findClass "ZoneHeap" = some m.cls := findClass_of_methodNamed B.named
  have hlocks := B.notSynchronized
  subst hsz
  have hD := hD0.self (sz := s.heap.size)
  generalize hAe : va_A (zW t0 g z) s.heap.size = A at hD hE ⊢
  have hA : ∀ q : Nat, s.heap.size ≤ q → A q := fun q h => by rw [← hAe]; exact Or.inr h
  have hS : va_S A s.heap s.heap [] := va_S.rf
  have hl := lv_entry ([.ref (g_h g), .int v]) (n := 2) (Nat.le_of_ble_eq_true rfl)
  rw [lg_entry_eq]
  generalize (lg_sl ([.ref (g_h g), .int v]) ++ List.replicate (2 - (lg_sl ([.ref (g_h g), .int v])).length) Slot.unset).toArray = ls at hl ⊢
  have hl : lv_has ls 2 [(0, .ref (g_h g)), (1, .int v)] := hl
  have hln := hz.2.2.2.2.2.1
  refine lv_iload_n hx hb d_Z_lostAt_0 rfl (lv_at hl 1 rfl) ?_
  refine lv_if_lt (tgt := 12) hx hb d_Z_lostAt_1 (by decide) (fun h => ?_) (fun h => ?_)
  · exact zthrow (is := 123) (text := "no such lost block") hst hx hb hk hown hex hlocks ⟨hP, hK, hD, hS, hA, hE⟩ zk384 zk18 (by decide +kernel) zat_I (hl.1.trans hml.symm) d_Z_lostAt_12 d_Z_lostAt_15 d_Z_lostAt_16 d_Z_lostAt_18 d_Z_lostAt_21 (⟨rfl, by have := zi_lt0 h; omega⟩) (Nat.le_of_ble_eq_true rfl) (Nat.le_of_ble_eq_true rfl) (Nat.le_of_ble_eq_true rfl) (Nat.le_of_ble_eq_true rfl) (Nat.le_of_ble_eq_true rfl) (Nat.le_of_ble_eq_true rfl)
  obtain ⟨x, hx31, rfl⟩ := nI_of h
  refine lv_iload_n hx hb d_Z_lostAt_4 rfl (lv_at hl 1 rfl) ?_
  refine lv_aload_n hx hb d_Z_lostAt_5 rfl (lv_at hl 0 rfl) ?_
  refine va_get (D := D) (ci := 0) (v := .int (nI (z_ln z))) (C := RZ) (T := TZ) (N := 11) hx hb hk inZ hown hK hP 0 rfl rfl 10 (by decide) (hk _ zk66) (fun _ h9 => h9) rfl d_Z_lostAt_6 ?_
  refine lv_icmp_lt (tgt := 22) hx hb d_Z_lostAt_9 (by decide) (fun h => ?_) (fun h => ?_)
  rotate_left 1
  · rw [nI_ltI (by omega) (by omega)] at h
    exact zthrow (is := 123) (text := "no such lost block") hst hx hb hk hown hex hlocks ⟨hP, hK, hD, hS, hA, hE⟩ zk384 zk18 (by decide +kernel) zat_I (hl.1.trans hml.symm) d_Z_lostAt_12 d_Z_lostAt_15 d_Z_lostAt_16 d_Z_lostAt_18 d_Z_lostAt_21 (⟨rfl, by rw [nI_toInt hx31]; omega⟩) (Nat.le_of_ble_eq_true rfl) (Nat.le_of_ble_eq_true rfl) (Nat.le_of_ble_eq_true rfl) (Nat.le_of_ble_eq_true rfl) (Nat.le_of_ble_eq_true rfl) (Nat.le_of_ble_eq_true rfl)
  rw [nI_ltI (by omega) (by omega)] at h
  refine lv_aload_n hx hb d_Z_lostAt_22 rfl (lv_at hl 0 rfl) ?_
  refine va_get (D := D) (ci := 0) (v := .ref (g_aL g)) (C := RZ) (T := TZ) (N := 11) hx hb hk inZ hown hK hP 0 rfl rfl 9 (by decide) (hk _ zk65) (fun _ h9 => h9) rfl d_Z_lostAt_23 ?_
  refine lv_iload_n hx hb d_Z_lostAt_26 rfl (lv_at hl 1 rfl) ?_
  refine va_iald hx hb hK hP 5 3 rfl rfl (vp_in_nI (by omega) (by decide)) d_Z_lostAt_27 ?_
  refine zh_t (show nI (z_lf z (nI x).toNatClampNeg) = nI (z_lf z x) from by rw [nI_clamp (by omega)]) ?_
  refine vx_ret ?_
  refine W.widen (k := 1) (n := 6) (by omega) (by omega) ?_
  exact W.iret hx hb hr (fun t ht hW => ⟨⟨_, (), rfl, ⟨by rw [nI_toInt hx31]; omega, by rw [nI_toInt hx31]; rfl⟩, by rw [ht]; exact hP, va_K.moved hW.alike hK, hD⟩, hS.F ht⟩) hS.2.2 d_Z_lostAt_28
set_option maxHeartbeats 1000000 in
set_option maxRecDepth 100000 in
theorem c_Z_kind_ok (l : Launch) (D : va_G) (t0 : Nat) (g : ZG) (z : ZT) (sz : Nat) (v : Int32) (hz : zOK z) (hst : l.stackTraces = false) : vx_Met l y_Z_kind w_Z_kind ({ frames := 7, cells := 1, slots := 6, locals := 130 }) (zPre D t0 (zT g z) (zW t0 g z) sz [.ref (g_h g), .int v]) (va_Qi (fun r _ => ∃ x : Nat, zq_at v = some x ∧ r = nI (zq_kind z x)) (fun (u : Unit) t => zPost D (zT g z) (va_A (zW t0 g z) sz) (zW t0 g z) t) (va_A (zW t0 g z) sz)) (zXc D (zT g z) (zW t0 g z) (va_A (zW t0 g z) sz) (fun E => E = "java/lang/IndexOutOfBoundsException" ∧ zq_at v = none)) 1 6 (va_A (zW t0 g z) sz) := by
  refine vx_ofW (cc := c_Z_kind) (maxL := 4) (ret := (some .int)) (by decide) rfl ?_
  intro p e s m args below meth c s₁ B hml hex hv
  obtain ⟨rfl, hsz, hP, hK, hD0, hE⟩ := hv
  have hx := B.exec
  have hb := B.bytes
  have hr := B.returns
  have hts := atoms_spec (ws := w_Z_kind) B.pre
  have hk : ∀ w ∈ zB, w.before _ s = true := fun w h => hts w (List.mem_cons_of_mem _ h)
  have hown : s.vm.findClass "ZoneHeap" = some m.cls := findClass_of_methodNamed B.named
  have hlocks := B.notSynchronized
  subst hsz
  have hD := hD0.self (sz := s.heap.size)
  generalize hAe : va_A (zW t0 g z) s.heap.size = A at hD hE ⊢
  have hA : ∀ q : Nat, s.heap.size ≤ q → A q := fun q h => by rw [← hAe]; exact Or.inr h
  have hS : va_S A s.heap s.heap [] := va_S.rf
  have hl := lv_entry ([.ref (g_h g), .int v]) (n := 4) (Nat.le_of_ble_eq_true rfl)
  rw [lg_entry_eq]
  generalize (lg_sl ([.ref (g_h g), .int v]) ++ List.replicate (4 - (lg_sl ([.ref (g_h g), .int v])).length) Slot.unset).toArray = ls at hl ⊢
  have hl : lv_has ls 4 [(0, .ref (g_h g)), (1, .int v)] := hl
  refine lv_iload_n hx hb d_Z_kind_0 rfl (lv_at hl 1 rfl) ?_
  refine zxcv (zxS (n := 1) (As := [.int v]) (rest := []) ⟨hx, hb, hml, hown, hk⟩ (c_Z_refuseWrongOctet_ok l D t0 (zT g z) (zW t0 g z) s.heap.size v hst) zk381 zk382 zk1 kc_Z_refuseWrongOctet ⟨by decide, by decide, by decide⟩ rfl rfl ⟨Nat.le_of_ble_eq_true rfl, Nat.le_of_ble_eq_true rfl⟩ ⟨hP, hK, hD, hS, hA, hE⟩ rfl hl.1 rfl (Nat.le_of_ble_eq_true rfl) d_Z_kind_1 ⟨Nat.le_of_ble_eq_true rfl, Nat.le_of_ble_eq_true rfl⟩) ⟨hP, hK, hD, hS, hA, hE⟩ (fun E ce q9 H locs hEX hP hD hS hce hcv hcl => ?_) (fun u H locs hu hP hK hD hS => ?_)
  · exact zpass hex hlocks hK (hEX) hP hD hS hce hcv hcl (Nat.le_of_ble_eq_true rfl) (Nat.le_of_ble_eq_true rfl)
  have hP : va_P D zcl (zW t0 g z) H := hP
  have hD : va_D A (zW t0 g z) := hD
  have hK : va_K D zcl (zT g z) s := hK
  obtain ⟨x, hq⟩ := hu
  obtain ⟨hx8, rfl⟩ := zq_at_of hq
  refine lv_iload_n hx hb d_Z_kind_4 rfl (lv_at hl 1 rfl) ?_
  refine lv_bipush (v := nI 16) hx hb d_Z_kind_5 (by decide) ?_
  refine lv_idiv hx hb d_Z_kind_7 (by decide) ?_
  refine zh_t (show (nI x / nI 16) = nI (x / 16) from pk_div (by omega) (by decide) (by decide)) ?_
  refine lv_istore_n (lv' := [(2, .int (nI (x / 16))), (0, .ref (g_h g)), (1, .int (nI x))]) hx hb d_Z_kind_8 rfl hl (by decide) rfl (fun ls hl => ?_)
  refine lv_aload_n hx hb d_Z_kind_9 rfl (lv_at hl 1 rfl) ?_
  refine va_get (D := D) (ci := 0) (v := .ref (g_aT g)) (C := RZ) (T := TZ) (N := 11) hx hb hk inZ hown hK hP 0 rfl rfl 1 (by decide) (hk _ zk57) (fun _ h9 => h9) rfl d_Z_kind_10 ?_
  refine lv_iload_n hx hb d_Z_kind_13 rfl (lv_at hl 0 rfl) ?_
  refine va_aldq hx hb hK hP 2 1 rfl rfl (vp_in_nI (by omega) (by decide)) d_Z_kind_14 ?_
  refine zh_v (show va_rf (z_tk z (nI (x / 16)).toNatClampNeg) = va_rf (z_tk z (x / 16)) from by rw [nI_clamp (by omega)]) ?_
  rcases zopt (z_tk z (x / 16)) with htk | ⟨a, htk⟩
  · refine zh_v (show va_rf (z_tk z (x / 16)) = .null from by rw [htk]; rfl) ?_
    refine lv_astore_nN (lv' := [(3, .null), (2, .int (nI (x / 16))), (0, .ref (g_h g)), (1, .int (nI x))]) hx hb d_Z_kind_15 rfl hl (by decide) rfl (fun ls hl => ?_)
    refine lv_aload_nN hx hb d_Z_kind_16 rfl (lv_at hl 0 rfl) ?_
    refine lv_ifnonnullN hx hb d_Z_kind_17 ?_
    refine lv_aload_n hx hb d_Z_kind_20 rfl (lv_at hl 2 rfl) ?_
    refine lv_iload_n hx hb d_Z_kind_21 rfl (lv_at hl 1 rfl) ?_
    refine lv_iconst (v := nI 1) hx hb d_Z_kind_22 (by decide) ?_
    refine lv_isub hx hb d_Z_kind_23 ?_
    refine vp_callSi (zrV (n := 1) (As := [.int (nI (x / 16) - nI 1)]) (rest := []) ⟨hx, hb, hml, hown, hk⟩ (c_Z_isTaken_ok l D t0 g z H.size (nI (x / 16) - nI 1)) zk400 zk402 ks_Z_isTaken zk1 kc_Z_isTaken ⟨rfl, by decide, by decide, by decide⟩ rfl rfl ⟨Nat.le_of_ble_eq_true rfl, Nat.le_of_ble_eq_true rfl⟩ ⟨hP, hK, hD, hS, hA, hE⟩ (va_recv hK hP (ci := 0) (q0 := 0) rfl rfl) rfl hl.1 rfl (Nat.le_of_ble_eq_true rfl) d_Z_kind_24 ⟨Nat.le_of_ble_eq_true rfl, Nat.le_of_ble_eq_true rfl⟩).run (fun r hr1 => ?_)
    rw [pk_sub_toInt (by omega) (by decide)] at hr1
    subst hr1
    refine lv_if_ne (tgt := 40) hx hb d_Z_kind_27 (by decide) (fun h => ?_) (fun h => ?_)
    · rw [zh_zb] at h
      have h := of_decide_eq_true (ts_nf h)
      refine lv_iconst (v := nI 3) hx hb d_Z_kind_40 (by decide) ?_
      refine lv_goto (tgt := 45) hx hb d_Z_kind_41 (by decide) ?_
      refine vx_ret ?_
      exact W.iret hx hb hr (fun t ht hW => ⟨⟨_, (), rfl, ⟨x, hq, by show nI 3 = nI (zq_kind z x); unfold zq_kind; rw [htk]; show nI 3 = nI (if _ then 3 else 0); rw [if_pos (Or.inl ⟨by omega, by have h3 := h.2.2; rw [show (((x / 16 : Nat) : Int) - (1 : Nat)).toNat = x / 16 - 1 by omega] at h3; exact h3⟩)]⟩, by rw [ht]; exact hP, va_K.moved hW.alike hK, hD⟩, hS.F ht⟩) hS.2.2 d_Z_kind_45
    rw [zh_zb] at h
    have hno := of_decide_eq_false h
    refine lv_aload_n hx hb d_Z_kind_30 rfl (lv_at hl 2 rfl) ?_
    refine lv_iload_n hx hb d_Z_kind_31 rfl (lv_at hl 1 rfl) ?_
    refine lv_iconst (v := nI 1) hx hb d_Z_kind_32 (by decide) ?_
    refine lv_iadd hx hb d_Z_kind_33 ?_
    refine zh_t (show (nI (x / 16) + nI 1) = nI ((x / 16) + 1) from nI_add _ _) ?_
    refine vp_callSi (zrV (n := 1) (As := [.int (nI ((x / 16) + 1))]) (rest := []) ⟨hx, hb, hml, hown, hk⟩ (c_Z_isTaken_ok l D t0 g z H.size (nI (x / 16 + 1))) zk400 zk402 ks_Z_isTaken zk1 kc_Z_isTaken ⟨rfl, by decide, by decide, by decide⟩ rfl rfl ⟨Nat.le_of_ble_eq_true rfl, Nat.le_of_ble_eq_true rfl⟩ ⟨hP, hK, hD, hS, hA, hE⟩ (va_recv hK hP (ci := 0) (q0 := 0) rfl rfl) rfl hl.1 rfl (Nat.le_of_ble_eq_true rfl) d_Z_kind_34 ⟨Nat.le_of_ble_eq_true rfl, Nat.le_of_ble_eq_true rfl⟩).run (fun r hr2 => ?_)
    rw [nI_toInt (by omega)] at hr2
    subst hr2
    refine lv_if_eq (tgt := 44) hx hb d_Z_kind_37 (by decide) (fun h => ?_) (fun h => ?_)
    · rw [zh_zb] at h
      have h := of_decide_eq_false h
      refine lv_iconst (v := nI 0) hx hb d_Z_kind_44 (by decide) ?_
      refine vx_ret ?_
      exact W.iret hx hb hr (fun t ht hW => ⟨⟨_, (), rfl, ⟨x, hq, by show nI 0 = nI (zq_kind z x); unfold zq_kind; rw [htk]; show nI 0 = nI (if _ then 3 else 0); rw [if_neg (by rintro (⟨q1, q2⟩ | ⟨q1, q2⟩); (exact hno ⟨by omega, by omega, by rw [show (((x / 16 : Nat) : Int) - (1 : Nat)).toNat = x / 16 - 1 by omega]; exact q2⟩); (exact h ⟨by omega, by omega, q2⟩))]⟩, by rw [ht]; exact hP, va_K.moved hW.alike hK, hD⟩, hS.F ht⟩) hS.2.2 d_Z_kind_45
    rw [zh_zb] at h
    have h := of_decide_eq_true (ts_nf h)
    refine lv_iconst (v := nI 3) hx hb d_Z_kind_40 (by decide) ?_
    refine lv_goto (tgt := 45) hx hb d_Z_kind_41 (by decide) ?_
    refine vx_ret ?_
    exact W.iret hx hb hr (fun t ht hW => ⟨⟨_, (), rfl, ⟨x, hq, by show nI 3 = nI (zq_kind z x); unfold zq_kind; rw [htk]; show nI 3 = nI (if _ then 3 else 0); rw [if_pos (Or.inr ⟨by omega, h.2.2⟩)]⟩, by rw [ht]; exact hP, va_K.moved hW.alike hK, hD⟩, hS.F ht⟩) hS.2.2 d_Z_kind_45
  refine zh_v (show va_rf (z_tk z (x / 16)) = .ref a from by rw [htk]; rfl) ?_
  have ha : a ∈ z_LB z := hz.1 _ a (by omega) htk
  refine lv_astore_n (lv' := [(3, .ref a), (2, .int (nI (x / 16))), (0, .ref (g_h g)), (1, .int (nI x))]) hx hb d_Z_kind_15 rfl hl (by decide) rfl (fun ls hl => ?_)
  refine lv_aload_n hx hb d_Z_kind_16 rfl (lv_at hl 0 rfl) ?_
  refine lv_ifnonnull (tgt := 46) hx hb d_Z_kind_17 (by decide) ?_
  refine lv_aload_n hx hb d_Z_kind_46 rfl (lv_at hl 0 rfl) ?_
  refine lv_iload_n hx hb d_Z_kind_47 rfl (lv_at hl 3 rfl) ?_
  refine vp_callSi (zrVN (n := 1) (As := [.int (nI x)]) (rest := []) ⟨hx, hb, hml, hown, hk⟩ (c_B_has_ok l D t0 g z H.size a x ha hz hx8) zn118 zk120 ks_B_has zk11 kc_B_has ⟨by decide, by decide, by decide⟩ rfl rfl ⟨Nat.le_of_ble_eq_true rfl, Nat.le_of_ble_eq_true rfl⟩ ⟨hP, hK, hD, hS, hA, hE⟩ (by obtain ⟨k9, hk9⟩ := zpool (t0 := t0) (g := g) (z := z) ha; exact va_recv hK hP (ci := 1) rfl hk9) rfl hl.1 rfl (Nat.le_of_ble_eq_true rfl) d_Z_kind_48 ⟨Nat.le_of_ble_eq_true rfl, Nat.le_of_ble_eq_true rfl⟩).run (fun r hr1 => ?_)
  subst hr1
  refine lv_if_ne (tgt := 56) hx hb d_Z_kind_51 (by decide) (fun h => ?_) (fun h => ?_)
  rotate_left 1
  · rw [zh_zb] at h
    have h := of_decide_eq_false h
    refine lv_iconst (v := nI 3) hx hb d_Z_kind_54 (by decide) ?_
    refine vx_ret ?_
    exact W.iret hx hb hr (fun t ht hW => ⟨⟨_, (), rfl, ⟨x, hq, by show nI 3 = nI (zq_kind z x); unfold zq_kind; rw [htk]; show nI 3 = nI (if z_bs z a ≤ x ∧ x < z_bs z a + z_bz z a then (if z_kp z a = true then 2 else 1) else 3); rw [if_neg h]⟩, by rw [ht]; exact hP, va_K.moved hW.alike hK, hD⟩, hS.F ht⟩) hS.2.2 d_Z_kind_55
  rw [zh_zb] at h
  have hhas := of_decide_eq_true (ts_nf h)
  refine lv_aload_n hx hb d_Z_kind_56 rfl (lv_at hl 0 rfl) ?_
  obtain ⟨k9, hk9⟩ := zpool (t0 := t0) (g := g) (z := z) ha
  refine va_getN (D := D) (ci := 1) (v := .int (zb (z_kp z a))) (C := RB) (T := TB) (N := 4) hx hb hk inB hown hK hP k9 hk9 rfl 2 (by decide) (va_Nw.use rfl (hE.1.1 _ zn236)) (fun _ h9 => h9) rfl d_Z_kind_57 ?_
  refine lv_if_eq (tgt := 67) hx hb d_Z_kind_60 (by decide) (fun h => ?_) (fun h => ?_)
  · rw [zh_zb] at h
    refine lv_iconst (v := nI 1) hx hb d_Z_kind_67 (by decide) ?_
    refine vx_ret ?_
    exact W.iret hx hb hr (fun t ht hW => ⟨⟨_, (), rfl, ⟨x, hq, by show nI 1 = nI (zq_kind z x); unfold zq_kind; rw [htk]; show nI 1 = nI (if z_bs z a ≤ x ∧ x < z_bs z a + z_bz z a then (if z_kp z a = true then 2 else 1) else 3); rw [if_pos hhas, if_neg (by rw [h]; intro q; cases q)]⟩, by rw [ht]; exact hP, va_K.moved hW.alike hK, hD⟩, hS.F ht⟩) hS.2.2 d_Z_kind_68
  rw [zh_zb] at h
  refine lv_iconst (v := nI 2) hx hb d_Z_kind_63 (by decide) ?_
  refine lv_goto (tgt := 68) hx hb d_Z_kind_64 (by decide) ?_
  refine vx_ret ?_
  exact W.iret hx hb hr (fun t ht hW => ⟨⟨_, (), rfl, ⟨x, hq, by show nI 2 = nI (zq_kind z x); unfold zq_kind; rw [htk]; show nI 2 = nI (if z_bs z a ≤ x ∧ x < z_bs z a + z_bz z a then (if z_kp z a = true then 2 else 1) else 3); rw [if_pos hhas, if_pos (ts_nf h)]⟩, by rw [ht]; exact hP, va_K.moved hW.alike hK, hD⟩, hS.F ht⟩) hS.2.2 d_Z_kind_68
set_option maxHeartbeats 1000000 in
set_option maxRecDepth 100000 in
theorem c_Z_write_ok (l : Launch) (D : va_G) (t0 : Nat) (g : ZG) (z : ZT) (sz : Nat) (v v2 : Int32) (hz : zOK z) (hst : l.stackTraces = false) : vx_Met l y_Z_write w_Z_write ({ frames := 7, cells := 1, slots := 6, locals := 130 }) (zPre D t0 (zT g z) (zW t0 g z) sz [.ref (g_h g), .int v, .int v2]) (va_Qv (fun u => zq_rw z v = 0 ∧ u = zu_oct z (zq_wr (z_oct z) v.toInt.toNat v2.toBitVec.toNat)) (fun (u : ZT) t => zPost D (zT g u) (va_A (zW t0 g z) sz) (zW t0 g u) t) (va_A (zW t0 g z) sz)) (zXc D (zT g z) (zW t0 g z) (va_A (zW t0 g z) sz) (fun E => (E = "java/lang/IndexOutOfBoundsException" ∧ zq_rw z v = 1) ∨ (E = "java/lang/IllegalStateException" ∧ zq_rw z v = 2))) 1 6 (va_A (zW t0 g z) sz) := by
  refine vx_ofW (cc := c_Z_write) (maxL := 4) (ret := none) (by decide) rfl ?_
  intro p e s m args below meth c s₁ B hml hex hv
  obtain ⟨rfl, hsz, hP, hK, hD0, hE⟩ := hv
  have hx := B.exec
  have hb := B.bytes
  have hr := B.returns
  have hts := atoms_spec (ws := w_Z_write) B.pre
  have hk : ∀ w ∈ zB, w.before _ s = true := fun w h => hts w (List.mem_cons_of_mem _ h)
  have hown : s.vm.findClass "ZoneHeap" = some m.cls := findClass_of_methodNamed B.named
  have hlocks := B.notSynchronized
  subst hsz
  have hD := hD0.self (sz := s.heap.size)
  generalize hAe : va_A (zW t0 g z) s.heap.size = A at hD hE ⊢
  have hA : ∀ q : Nat, s.heap.size ≤ q → A q := fun q h => by rw [← hAe]; exact Or.inr h
  have hS : va_S A s.heap s.heap [] := va_S.rf
  have hl := lv_entry ([.ref (g_h g), .int v, .int v2]) (n := 4) (Nat.le_of_ble_eq_true rfl)
  rw [lg_entry_eq]
  generalize (lg_sl ([.ref (g_h g), .int v, .int v2]) ++ List.replicate (4 - (lg_sl ([.ref (g_h g), .int v, .int v2])).length) Slot.unset).toArray = ls at hl ⊢
  have hl : lv_has ls 4 [(0, .ref (g_h g)), (1, .int v), (2, .int v2)] := hl
  refine lv_aload_n hx hb d_Z_write_0 rfl (lv_at hl 0 rfl) ?_
  refine lv_iload_n hx hb d_Z_write_1 rfl (lv_at hl 1 rfl) ?_
  refine zxcv (zxV (n := 1) (As := [.int v]) (rest := []) ⟨hx, hb, hml, hown, hk⟩ (c_Z_refuseWrongWord_ok l D t0 g z s.heap.size v hz hst) zk418 zk420 ks_Z_refuseWrongWord zk1 kc_Z_refuseWrongWord ⟨rfl, by decide, by decide, by decide⟩ rfl rfl ⟨Nat.le_of_ble_eq_true rfl, Nat.le_of_ble_eq_true rfl⟩ ⟨hP, hK, hD, hS, hA, hE⟩ (va_recv hK hP (ci := 0) (q0 := 0) rfl rfl) rfl hl.1 rfl (Nat.le_of_ble_eq_true rfl) d_Z_write_2 ⟨Nat.le_of_ble_eq_true rfl, Nat.le_of_ble_eq_true rfl⟩) ⟨hP, hK, hD, hS, hA, hE⟩ (fun E ce q9 H locs hEX hP hD hS hce hcv hcl => ?_) (fun u H locs hu hP hK hD hS => ?_)
  · exact zpass hex hlocks hK (hEX) hP hD hS hce hcv hcl (Nat.le_of_ble_eq_true rfl) (Nat.le_of_ble_eq_true rfl)
  have hP : va_P D zcl (zW t0 g z) H := hP
  have hD : va_D A (zW t0 g z) := hD
  have hK : va_K D zcl (zT g z) s := hK
  obtain ⟨x, a, rfl, hx4, hv⟩ := zq_rw_0 hu
  have hvn : (nI x).toInt.toNat = x := by rw [nI_toInt (by omega)]; rfl
  obtain ⟨n, hn, rfl⟩ := wb_of32 v2
  have hnn : (nI n).toBitVec.toNat = n := pk_tn hn
  refine lv_iconst (v := nI 0) hx hb d_Z_write_5 (by decide) ?_
  refine lv_istore_n (lv' := [(3, .int (nI 0)), (0, .ref (g_h g)), (1, .int (nI x)), (2, .int (nI n))]) hx hb d_Z_write_6 rfl hl (by decide) rfl (fun ls hl => ?_)
  refine lv_iload_n hx hb d_Z_write_7 rfl (lv_at hl 0 rfl) ?_
  refine lv_iconst (v := nI 4) hx hb d_Z_write_8 (by decide) ?_
  refine lv_icmp_ge (tgt := 33) hx hb d_Z_write_9 (by decide) (fun h => ?_) (fun h => ?_)
  · rw [nI_leI (by omega) (by omega)] at h
    exact absurd h (by omega)
  rw [nI_leI (by omega) (by omega)] at h
  refine lv_aload_n hx hb d_Z_write_12 rfl (lv_at hl 1 rfl) ?_
  refine va_get (D := D) (ci := 0) (v := .ref (g_aO g)) (C := RZ) (T := TZ) (N := 11) hx hb hk inZ hown hK hP 0 rfl rfl 0 (by decide) (hk _ zk56) (fun _ h9 => h9) rfl d_Z_write_13 ?_
  refine lv_iload_n hx hb d_Z_write_16 rfl (lv_at hl 2 rfl) ?_
  refine lv_iload_n hx hb d_Z_write_17 rfl (lv_at hl 0 rfl) ?_
  refine lv_iadd hx hb d_Z_write_18 ?_
  refine zh_t (show (nI x + nI 0) = nI (x + 0) from nI_add _ _) ?_
  refine lv_iload_n hx hb d_Z_write_19 rfl (lv_at hl 3 rfl) ?_
  refine lv_bipush (v := nI 8) hx hb d_Z_write_20 (by decide) ?_
  refine lv_iload_n hx hb d_Z_write_22 rfl (lv_at hl 0 rfl) ?_
  refine lv_imul hx hb d_Z_write_23 ?_
  refine zh_t (show (nI 8 * nI 0) = nI (8 * 0) from pk_mul _ _) ?_
  refine lv_iushr hx hb d_Z_write_24 rfl ?_
  refine lv_i2b hx hb d_Z_write_25 rfl ?_
  refine zh_t (show (((((nI n).toUInt32 >>> ((nI (8 * 0)).toUInt32 &&& Int32.toUInt32 31)).toInt32)).toInt8.toInt32) = sb_b (n / 2 ^ (8 * 0) % 256) from zh_byte hn (by decide)) ?_
  refine va_bast hx hb hK hP hD hS 1 0 rfl rfl (vp_in_nI (by omega) (by decide)) d_Z_write_26 (fun H locs hP hD hS => ?_)
  rw [zh_updb (by omega)] at hP hD
  have hP : va_P D zcl (zW t0 g (zmk (va_up (z_oct z) (x + 0) (n / 2 ^ (8 * 0) % 256)) (z_tk z) (z_ko z) (z_lb z) (z_lo z) (z_mb z) (z_rb z) (z_rn z) (z_lf z) (z_ln z) (z_md z) (z_cE z) (z_aE z) (z_cap z) (z_kl z) (z_LB z) (z_bs z) (z_bz z) (z_kp z) (z_rc z))) H := hP
  have hD : va_D A (zW t0 g (zmk (va_up (z_oct z) (x + 0) (n / 2 ^ (8 * 0) % 256)) (z_tk z) (z_ko z) (z_lb z) (z_lo z) (z_mb z) (z_rb z) (z_rn z) (z_lf z) (z_ln z) (z_md z) (z_cE z) (z_aE z) (z_cap z) (z_kl z) (z_LB z) (z_bs z) (z_bz z) (z_kp z) (z_rc z))) := hD
  refine lv_iinc (lv' := [(3, .int (nI (0 + 1))), (0, .ref (g_h g)), (1, .int (nI x)), (2, .int (nI n))]) (v := nI (0 + 1)) hx hb d_Z_write_27 hl (k := 0) rfl (nI_add _ _) (by decide) rfl (fun ls hl => ?_)
  have hl : lv_has ls 4 [(3, .int (nI 1)), (0, .ref (g_h g)), (1, .int (nI x)), (2, .int (nI n))] := hl
  refine lv_goto (tgt := 7) hx hb d_Z_write_30 (by decide) ?_
  refine lv_iload_n hx hb d_Z_write_7 rfl (lv_at hl 0 rfl) ?_
  refine lv_iconst (v := nI 4) hx hb d_Z_write_8 (by decide) ?_
  refine lv_icmp_ge (tgt := 33) hx hb d_Z_write_9 (by decide) (fun h => ?_) (fun h => ?_)
  · rw [nI_leI (by omega) (by omega)] at h
    exact absurd h (by omega)
  rw [nI_leI (by omega) (by omega)] at h
  refine lv_aload_n hx hb d_Z_write_12 rfl (lv_at hl 1 rfl) ?_
  refine va_get (D := D) (ci := 0) (v := .ref (g_aO g)) (C := RZ) (T := TZ) (N := 11) hx hb hk inZ hown hK hP 0 rfl rfl 0 (by decide) (hk _ zk56) (fun _ h9 => h9) rfl d_Z_write_13 ?_
  refine lv_iload_n hx hb d_Z_write_16 rfl (lv_at hl 2 rfl) ?_
  refine lv_iload_n hx hb d_Z_write_17 rfl (lv_at hl 0 rfl) ?_
  refine lv_iadd hx hb d_Z_write_18 ?_
  refine zh_t (show (nI x + nI 1) = nI (x + 1) from nI_add _ _) ?_
  refine lv_iload_n hx hb d_Z_write_19 rfl (lv_at hl 3 rfl) ?_
  refine lv_bipush (v := nI 8) hx hb d_Z_write_20 (by decide) ?_
  refine lv_iload_n hx hb d_Z_write_22 rfl (lv_at hl 0 rfl) ?_
  refine lv_imul hx hb d_Z_write_23 ?_
  refine zh_t (show (nI 8 * nI 1) = nI (8 * 1) from pk_mul _ _) ?_
  refine lv_iushr hx hb d_Z_write_24 rfl ?_
  refine lv_i2b hx hb d_Z_write_25 rfl ?_
  refine zh_t (show (((((nI n).toUInt32 >>> ((nI (8 * 1)).toUInt32 &&& Int32.toUInt32 31)).toInt32)).toInt8.toInt32) = sb_b (n / 2 ^ (8 * 1) % 256) from zh_byte hn (by decide)) ?_
  refine va_bast hx hb hK hP hD hS 1 0 rfl rfl (vp_in_nI (by omega) (by decide)) d_Z_write_26 (fun H locs hP hD hS => ?_)
  rw [zh_updb (by omega)] at hP hD
  have hP : va_P D zcl (zW t0 g (zmk (va_up (va_up (z_oct z) (x + 0) (n / 2 ^ (8 * 0) % 256)) (x + 1) (n / 2 ^ (8 * 1) % 256)) (z_tk z) (z_ko z) (z_lb z) (z_lo z) (z_mb z) (z_rb z) (z_rn z) (z_lf z) (z_ln z) (z_md z) (z_cE z) (z_aE z) (z_cap z) (z_kl z) (z_LB z) (z_bs z) (z_bz z) (z_kp z) (z_rc z))) H := hP
  have hD : va_D A (zW t0 g (zmk (va_up (va_up (z_oct z) (x + 0) (n / 2 ^ (8 * 0) % 256)) (x + 1) (n / 2 ^ (8 * 1) % 256)) (z_tk z) (z_ko z) (z_lb z) (z_lo z) (z_mb z) (z_rb z) (z_rn z) (z_lf z) (z_ln z) (z_md z) (z_cE z) (z_aE z) (z_cap z) (z_kl z) (z_LB z) (z_bs z) (z_bz z) (z_kp z) (z_rc z))) := hD
  refine lv_iinc (lv' := [(3, .int (nI (1 + 1))), (0, .ref (g_h g)), (1, .int (nI x)), (2, .int (nI n))]) (v := nI (1 + 1)) hx hb d_Z_write_27 hl (k := 0) rfl (nI_add _ _) (by decide) rfl (fun ls hl => ?_)
  have hl : lv_has ls 4 [(3, .int (nI 2)), (0, .ref (g_h g)), (1, .int (nI x)), (2, .int (nI n))] := hl
  refine lv_goto (tgt := 7) hx hb d_Z_write_30 (by decide) ?_
  refine lv_iload_n hx hb d_Z_write_7 rfl (lv_at hl 0 rfl) ?_
  refine lv_iconst (v := nI 4) hx hb d_Z_write_8 (by decide) ?_
  refine lv_icmp_ge (tgt := 33) hx hb d_Z_write_9 (by decide) (fun h => ?_) (fun h => ?_)
  · rw [nI_leI (by omega) (by omega)] at h
    exact absurd h (by omega)
  rw [nI_leI (by omega) (by omega)] at h
  refine lv_aload_n hx hb d_Z_write_12 rfl (lv_at hl 1 rfl) ?_
  refine va_get (D := D) (ci := 0) (v := .ref (g_aO g)) (C := RZ) (T := TZ) (N := 11) hx hb hk inZ hown hK hP 0 rfl rfl 0 (by decide) (hk _ zk56) (fun _ h9 => h9) rfl d_Z_write_13 ?_
  refine lv_iload_n hx hb d_Z_write_16 rfl (lv_at hl 2 rfl) ?_
  refine lv_iload_n hx hb d_Z_write_17 rfl (lv_at hl 0 rfl) ?_
  refine lv_iadd hx hb d_Z_write_18 ?_
  refine zh_t (show (nI x + nI 2) = nI (x + 2) from nI_add _ _) ?_
  refine lv_iload_n hx hb d_Z_write_19 rfl (lv_at hl 3 rfl) ?_
  refine lv_bipush (v := nI 8) hx hb d_Z_write_20 (by decide) ?_
  refine lv_iload_n hx hb d_Z_write_22 rfl (lv_at hl 0 rfl) ?_
  refine lv_imul hx hb d_Z_write_23 ?_
  refine zh_t (show (nI 8 * nI 2) = nI (8 * 2) from pk_mul _ _) ?_
  refine lv_iushr hx hb d_Z_write_24 rfl ?_
  refine lv_i2b hx hb d_Z_write_25 rfl ?_
  refine zh_t (show (((((nI n).toUInt32 >>> ((nI (8 * 2)).toUInt32 &&& Int32.toUInt32 31)).toInt32)).toInt8.toInt32) = sb_b (n / 2 ^ (8 * 2) % 256) from zh_byte hn (by decide)) ?_
  refine va_bast hx hb hK hP hD hS 1 0 rfl rfl (vp_in_nI (by omega) (by decide)) d_Z_write_26 (fun H locs hP hD hS => ?_)
  rw [zh_updb (by omega)] at hP hD
  have hP : va_P D zcl (zW t0 g (zmk (va_up (va_up (va_up (z_oct z) (x + 0) (n / 2 ^ (8 * 0) % 256)) (x + 1) (n / 2 ^ (8 * 1) % 256)) (x + 2) (n / 2 ^ (8 * 2) % 256)) (z_tk z) (z_ko z) (z_lb z) (z_lo z) (z_mb z) (z_rb z) (z_rn z) (z_lf z) (z_ln z) (z_md z) (z_cE z) (z_aE z) (z_cap z) (z_kl z) (z_LB z) (z_bs z) (z_bz z) (z_kp z) (z_rc z))) H := hP
  have hD : va_D A (zW t0 g (zmk (va_up (va_up (va_up (z_oct z) (x + 0) (n / 2 ^ (8 * 0) % 256)) (x + 1) (n / 2 ^ (8 * 1) % 256)) (x + 2) (n / 2 ^ (8 * 2) % 256)) (z_tk z) (z_ko z) (z_lb z) (z_lo z) (z_mb z) (z_rb z) (z_rn z) (z_lf z) (z_ln z) (z_md z) (z_cE z) (z_aE z) (z_cap z) (z_kl z) (z_LB z) (z_bs z) (z_bz z) (z_kp z) (z_rc z))) := hD
  refine lv_iinc (lv' := [(3, .int (nI (2 + 1))), (0, .ref (g_h g)), (1, .int (nI x)), (2, .int (nI n))]) (v := nI (2 + 1)) hx hb d_Z_write_27 hl (k := 0) rfl (nI_add _ _) (by decide) rfl (fun ls hl => ?_)
  have hl : lv_has ls 4 [(3, .int (nI 3)), (0, .ref (g_h g)), (1, .int (nI x)), (2, .int (nI n))] := hl
  refine lv_goto (tgt := 7) hx hb d_Z_write_30 (by decide) ?_
  refine lv_iload_n hx hb d_Z_write_7 rfl (lv_at hl 0 rfl) ?_
  refine lv_iconst (v := nI 4) hx hb d_Z_write_8 (by decide) ?_
  refine lv_icmp_ge (tgt := 33) hx hb d_Z_write_9 (by decide) (fun h => ?_) (fun h => ?_)
  · rw [nI_leI (by omega) (by omega)] at h
    exact absurd h (by omega)
  rw [nI_leI (by omega) (by omega)] at h
  refine lv_aload_n hx hb d_Z_write_12 rfl (lv_at hl 1 rfl) ?_
  refine va_get (D := D) (ci := 0) (v := .ref (g_aO g)) (C := RZ) (T := TZ) (N := 11) hx hb hk inZ hown hK hP 0 rfl rfl 0 (by decide) (hk _ zk56) (fun _ h9 => h9) rfl d_Z_write_13 ?_
  refine lv_iload_n hx hb d_Z_write_16 rfl (lv_at hl 2 rfl) ?_
  refine lv_iload_n hx hb d_Z_write_17 rfl (lv_at hl 0 rfl) ?_
  refine lv_iadd hx hb d_Z_write_18 ?_
  refine zh_t (show (nI x + nI 3) = nI (x + 3) from nI_add _ _) ?_
  refine lv_iload_n hx hb d_Z_write_19 rfl (lv_at hl 3 rfl) ?_
  refine lv_bipush (v := nI 8) hx hb d_Z_write_20 (by decide) ?_
  refine lv_iload_n hx hb d_Z_write_22 rfl (lv_at hl 0 rfl) ?_
  refine lv_imul hx hb d_Z_write_23 ?_
  refine zh_t (show (nI 8 * nI 3) = nI (8 * 3) from pk_mul _ _) ?_
  refine lv_iushr hx hb d_Z_write_24 rfl ?_
  refine lv_i2b hx hb d_Z_write_25 rfl ?_
  refine zh_t (show (((((nI n).toUInt32 >>> ((nI (8 * 3)).toUInt32 &&& Int32.toUInt32 31)).toInt32)).toInt8.toInt32) = sb_b (n / 2 ^ (8 * 3) % 256) from zh_byte hn (by decide)) ?_
  refine va_bast hx hb hK hP hD hS 1 0 rfl rfl (vp_in_nI (by omega) (by decide)) d_Z_write_26 (fun H locs hP hD hS => ?_)
  rw [zh_updb (by omega)] at hP hD
  have hP : va_P D zcl (zW t0 g (zmk (va_up (va_up (va_up (va_up (z_oct z) (x + 0) (n / 2 ^ (8 * 0) % 256)) (x + 1) (n / 2 ^ (8 * 1) % 256)) (x + 2) (n / 2 ^ (8 * 2) % 256)) (x + 3) (n / 2 ^ (8 * 3) % 256)) (z_tk z) (z_ko z) (z_lb z) (z_lo z) (z_mb z) (z_rb z) (z_rn z) (z_lf z) (z_ln z) (z_md z) (z_cE z) (z_aE z) (z_cap z) (z_kl z) (z_LB z) (z_bs z) (z_bz z) (z_kp z) (z_rc z))) H := hP
  have hD : va_D A (zW t0 g (zmk (va_up (va_up (va_up (va_up (z_oct z) (x + 0) (n / 2 ^ (8 * 0) % 256)) (x + 1) (n / 2 ^ (8 * 1) % 256)) (x + 2) (n / 2 ^ (8 * 2) % 256)) (x + 3) (n / 2 ^ (8 * 3) % 256)) (z_tk z) (z_ko z) (z_lb z) (z_lo z) (z_mb z) (z_rb z) (z_rn z) (z_lf z) (z_ln z) (z_md z) (z_cE z) (z_aE z) (z_cap z) (z_kl z) (z_LB z) (z_bs z) (z_bz z) (z_kp z) (z_rc z))) := hD
  refine lv_iinc (lv' := [(3, .int (nI (3 + 1))), (0, .ref (g_h g)), (1, .int (nI x)), (2, .int (nI n))]) (v := nI (3 + 1)) hx hb d_Z_write_27 hl (k := 0) rfl (nI_add _ _) (by decide) rfl (fun ls hl => ?_)
  have hl : lv_has ls 4 [(3, .int (nI 4)), (0, .ref (g_h g)), (1, .int (nI x)), (2, .int (nI n))] := hl
  refine lv_goto (tgt := 7) hx hb d_Z_write_30 (by decide) ?_
  refine lv_iload_n hx hb d_Z_write_7 rfl (lv_at hl 0 rfl) ?_
  refine lv_iconst (v := nI 4) hx hb d_Z_write_8 (by decide) ?_
  refine lv_icmp_ge (tgt := 33) hx hb d_Z_write_9 (by decide) (fun h => ?_) (fun h => ?_)
  rotate_left 1
  · rw [nI_leI (by omega) (by omega)] at h
    exact absurd h (by omega)
  rw [nI_leI (by omega) (by omega)] at h
  refine vx_ret ?_
  exact W.vret hx hb hr (fun t ht hW => ⟨⟨(zu_oct z (zq_wr (z_oct z) x n)), rfl, ⟨hu, by rw [hvn, hnn]⟩, by rw [ht]; exact hP, va_K.moved hW.alike hK, hD⟩, hS.F ht⟩) hS.2.2 d_Z_write_33
end
section
-- the reference: what holds of its state, what its methods do
def mOK (z : MT) : Prop := zr_ok (m_many z) (fun k => m_pl z k / 16) (m_sz z) (m_sta z) ∧ (∀ k : Nat, (k < m_many z → m_pl z k = 16 * (m_pl z k / 16)) ∧ m_sin z k ≤ m_backs z) ∧ (∀ x : Nat, m_oct z x < 256) ∧ m_lm z ≤ 255 ∧ m_backs z < 100000
theorem mOK.many {z : MT} (h : mOK z) : m_many z ≤ 255 := h.1.many
theorem mOK.at {z : MT} (h : mOK z) {k : Nat} (hk : k < m_many z) : 16 ≤ m_pl z k ∧ m_pl z k + 16 * zc (m_sz z k) + 16 ≤ 8192 ∧ m_sz z k ≤ 2048 ∧ (m_sta z k = 1 ∨ m_sta z k = 2) ∧ m_sin z k < 100000 ∧ m_pl z k + m_sz z k ≤ 8192 := by
  obtain ⟨h1, h2, h3, h4⟩ := h.1.1 k hk
  obtain ⟨h5, h6⟩ := h.2.1 k
  have h5 := h5 hk
  have h7 := h.2.2.2.2
  have h8 := zc_ge (m_sz z k)
  have h1 : 1 ≤ m_pl z k / 16 := h1
  have h2 : m_pl z k / 16 + zc (m_sz z k) + 1 ≤ 512 := h2
  exact ⟨by omega, by omega, h3, h4, by omega, by omega⟩
def mkept (z : MT) : Nat := zsum (fun k => if m_sta z k = 2 then m_sz z k else 0) (m_many z)
def mroom (z : MT) (n k : Nat) : Prop := zr_room (fun c => zr_fit (m_many z) (fun k => m_pl z k / 16) (m_sz z) c (zc n)) (zc n) k
def mq_make (z : MT) (k n : Nat) : MT := (mmk (m_err z) (m_oct z) (va_up (m_pl z) (m_many z) (16 * k)) (va_up (m_sz z) (m_many z) n) (va_up (m_sta z) (m_many z) 1) (m_sin z) (m_rea z) (m_fnd z) (m_many z + 1) (m_made z + 1) (m_backs z) (m_lm z))
def mq_mark (z : MT) (b : Nat) : MT := (mmk (m_err z) (m_oct z) (m_pl z) (m_sz z) (va_up (m_sta z) b 2) (va_up (m_sin z) b (m_backs z + 1)) (m_rea z) (m_fnd z) (m_many z) (m_made z) (m_backs z + 1) (m_lm z))
def mq_drop (z : MT) (o : Nat) : MT := (mmk (m_err z) (m_oct z) (va_up (m_pl z) o (m_pl z (m_many z - 1))) (va_up (m_sz z) o (m_sz z (m_many z - 1))) (va_up (m_sta z) o (m_sta z (m_many z - 1))) (va_up (m_sin z) o (m_sin z (m_many z - 1))) (m_rea z) (m_fnd z) (m_many z - 1) (m_made z) (m_backs z) (m_lm z))
def mrun : Nat → MT → MT → Prop
  | 0, z, u => mkept z ≤ 512 ∧ u = z
  | n + 1, z, u => 512 < mkept z ∧ ∃ o : Nat, zr_old (m_many z) (m_sta z) (m_sin z) o ∧ mrun n (mq_drop z o) u
def mgive (z u : MT) : Prop := ∃ n : Nat, mrun n z u
theorem zr_ok.drop {L o : Nat} {pc sz sta : Nat → Nat} (h : zr_ok (L + 1) pc sz sta) (ho : o < L + 1) : zr_ok L (va_up pc o (pc L)) (va_up sz o (sz L)) (va_up sta o (sta L)) := by
  have pi : ∀ k, k < L → (if k = o then L else k) < L + 1 ∧ (if k = o then L else k) ≠ o := fun k hk => by
    split <;> omega
  have pj : ∀ j k, j < L → k < L → (if j = o then L else j) = (if k = o then L else k) → j = k := fun j k hj hk e => by
    split at e <;> split at e <;> omega
  refine ⟨fun k hk => ?_, fun j k hj hk hjk => ?_⟩
  · rw [zt_mv pc, zt_mv sz, zt_mv sta]
    exact h.1 _ (pi k hk).1
  · rw [zt_mv pc, zt_mv sz, zt_mv pc, zt_mv sz]
    exact h.2 _ _ (pi j hj).1 (pi k hk).1 (fun q => hjk (pj j k hj hk q))
theorem zdiv_up {f : Nat → Nat} {o v : Nat} : (fun k => va_up f o v k / 16) = va_up (fun k => f k / 16) o (v / 16) := by
  funext k
  by_cases e : k = o
  · subst e; rw [va_up_self, va_up_self]
  · rw [va_up_ne _ _ e, va_up_ne _ _ e]
theorem mOK.drop {z : MT} {o : Nat} (h : mOK z) (ho : o < m_many z) : mOK (mq_drop z o) := by
  obtain ⟨L, hL⟩ : ∃ L, m_many z = L + 1 := ⟨m_many z - 1, by omega⟩
  obtain ⟨h1, h2, h3, h4, h5⟩ := h
  rw [hL] at h1 h2 ho
  refine ⟨?_, ?_, h3, h4, h5⟩
  · show zr_ok (m_many z - 1) (fun k => va_up (m_pl z) o (m_pl z (m_many z - 1)) k / 16) (va_up (m_sz z) o (m_sz z (m_many z - 1))) (va_up (m_sta z) o (m_sta z (m_many z - 1)))
    rw [hL, Nat.add_sub_cancel, zdiv_up]
    exact h1.drop ho
  · show ∀ k, (k < m_many z - 1 → va_up (m_pl z) o (m_pl z (m_many z - 1)) k = 16 * (va_up (m_pl z) o (m_pl z (m_many z - 1)) k / 16)) ∧ va_up (m_sin z) o (m_sin z (m_many z - 1)) k ≤ m_backs z
    rw [hL, Nat.add_sub_cancel]
    intro k
    rw [zt_mv, zt_mv]
    exact ⟨fun hk => (h2 _).1 (by split <;> omega), (h2 _).2⟩
theorem mOK.mark {z : MT} {b : Nat} (h : mOK z) (hb : m_backs z + 1 < 100000) : mOK (mq_mark z b) := by
  obtain ⟨⟨h1, h1'⟩, h2, h3, h4, h5⟩ := h
  refine ⟨⟨fun k hk => ?_, h1'⟩, fun k => ?_, h3, h4, hb⟩
  · obtain ⟨a1, a2, a3, a4⟩ := h1 k hk
    refine ⟨a1, a2, a3, ?_⟩
    show va_up (m_sta z) b 2 k = 1 ∨ va_up (m_sta z) b 2 k = 2
    by_cases e : k = b
    · subst e; rw [va_up_self]; exact Or.inr rfl
    · rw [va_up_ne _ _ e]; exact a4
  · obtain ⟨a1, a2⟩ := h2 k
    refine ⟨a1, ?_⟩
    show va_up (m_sin z) b (m_backs z + 1) k ≤ m_backs z + 1
    by_cases e : k = b
    · subst e; rw [va_up_self]; omega
    · rw [va_up_ne _ _ e]; omega
theorem zsum_kept {f g : Nat → Nat} {n : Nat} (h : ∀ k, k < n → g k ≤ 2048) : zsum (fun k => if f k = 2 then g k else 0) n ≤ n * 2048 := by
  have := zsum_mono (f := fun k => if f k = 2 then g k else 0) (g := fun _ => 2048) (n := n) (fun k hk => by
    show (if f k = 2 then g k else 0) ≤ 2048
    have := h k hk
    split <;> omega)
  rw [zsum_const] at this
  exact this
theorem zsum_s {f : Nat → Nat} {n : Nat} : zsum f (n + 1) = zsum f n + f n := rfl
theorem zc16 {n : Nat} (h : n ≤ 2048) : n ≠ 0 → (n + 16 - 1) / 16 * 16 = 16 * zc n := by
  intro h0
  unfold zc
  rw [if_neg h0]
  omega
end
section
set_option maxHeartbeats 1000000 in
set_option maxRecDepth 100000 in
theorem c_M_thrown_ok (l : Launch) (D : va_G) (t0 : Nat) (g : MG) (z : MT) (sz : Nat)  : Met l y_M_thrown w_M_thrown ({ frames := 0, cells := 0, slots := 0, locals := 0 }) (zPre D t0 (mT g) (mW g z) sz [.ref (n_h g)]) (vp_Si (fun r => r = nI (m_err z))) 0 0 (fun _ => False) := by
  refine Met.ofW (cc := c_M_thrown) (maxL := 1) (ret := (some .int)) (by decide) rfl ?_
  intro p e s m args below meth c s₁ B hml hv
  obtain ⟨rfl, hsz, hP, hK, hD0, hE⟩ := hv
  have hx := B.exec
  have hb := B.bytes
  have hr := B.returns
  have hts := atoms_spec (ws := w_M_thrown) B.pre
  have hk : ∀ w ∈ zB, w.before _ s = true := fun w h => hts w (List.mem_cons_of_mem _ h)
  have hown : s.vm.findClass "ZoneHeapModel" = some m.cls := findClass_of_methodNamed B.named
  have hlocks := B.notSynchronized
  subst hsz
  have hD := hD0.self (sz := s.heap.size)
  generalize hAe : va_A (mW g z) s.heap.size = A at hD hE
  have hA : ∀ q : Nat, s.heap.size ≤ q → A q := fun q h => by rw [← hAe]; exact Or.inr h
  have hS : va_S A s.heap s.heap [] := va_S.rf
  have hl := lv_entry ([.ref (n_h g)]) (n := 1) (Nat.le_of_ble_eq_true rfl)
  rw [lg_entry_eq]
  generalize (lg_sl ([.ref (n_h g)]) ++ List.replicate (1 - (lg_sl ([.ref (n_h g)])).length) Slot.unset).toArray = ls at hl ⊢
  have hl : lv_has ls 1 [(0, .ref (n_h g))] := hl
  refine lv_aload_n hx hb d_M_thrown_0 rfl (lv_at hl 0 rfl) ?_
  refine va_get (D := D) (ci := 2) (v := .int (nI (m_err z))) (C := RM) (T := TM) (N := 12) hx hb hk inM hown hK hP 0 rfl rfl 0 (by decide) (hk _ zk453) (fun _ h9 => h9) rfl d_M_thrown_1 ?_
  exact W.iret hx hb hr (fun t ht hW => ⟨_, rfl, rfl, ht⟩) (fun q h => absurd h List.not_mem_nil) d_M_thrown_4
set_option maxHeartbeats 1000000 in
set_option maxRecDepth 100000 in
theorem c_M_fails_ok (l : Launch) (D : va_G) (t0 : Nat) (g : MG) (z : MT) (sz : Nat) (b : Bool) (y : Nat) : Met l y_M_fails w_M_fails ({ frames := 0, cells := 0, slots := 0, locals := 0 }) (zPre D t0 (mT g) (mW g z) sz [.ref (n_h g), .int (zb b), .int (nI y)]) (va_Qi (fun r u => r = zb b ∧ u = mu_err z (if b = true then y else 0)) (fun (u : MT) t => zPost D (mT g) (va_A (mW g z) sz) (mW g u) t) (va_A (mW g z) sz)) 0 0 (va_A (mW g z) sz) := by
  refine Met.ofW (cc := c_M_fails) (maxL := 3) (ret := (some .boolean)) (by decide) rfl ?_
  intro p e s m args below meth c s₁ B hml hv
  obtain ⟨rfl, hsz, hP, hK, hD0, hE⟩ := hv
  have hx := B.exec
  have hb := B.bytes
  have hr := B.returns
  have hts := atoms_spec (ws := w_M_fails) B.pre
  have hk : ∀ w ∈ zB, w.before _ s = true := fun w h => hts w (List.mem_cons_of_mem _ h)
  have hown : s.vm.findClass "ZoneHeapModel" = some m.cls := findClass_of_methodNamed B.named
  have hlocks := B.notSynchronized
  subst hsz
  have hD := hD0.self (sz := s.heap.size)
  generalize hAe : va_A (mW g z) s.heap.size = A at hD hE ⊢
  have hA : ∀ q : Nat, s.heap.size ≤ q → A q := fun q h => by rw [← hAe]; exact Or.inr h
  have hS : va_S A s.heap s.heap [] := va_S.rf
  have hl := lv_entry ([.ref (n_h g), .int (zb b), .int (nI y)]) (n := 3) (Nat.le_of_ble_eq_true rfl)
  rw [lg_entry_eq]
  generalize (lg_sl ([.ref (n_h g), .int (zb b), .int (nI y)]) ++ List.replicate (3 - (lg_sl ([.ref (n_h g), .int (zb b), .int (nI y)])).length) Slot.unset).toArray = ls at hl ⊢
  have hl : lv_has ls 3 [(0, .ref (n_h g)), (1, .int (zb b)), (2, .int (nI y))] := hl
  refine lv_aload_n hx hb d_M_fails_0 rfl (lv_at hl 0 rfl) ?_
  refine lv_iload_n hx hb d_M_fails_1 rfl (lv_at hl 1 rfl) ?_
  refine lv_if_eq (tgt := 9) hx hb d_M_fails_2 (by decide) (fun h => ?_) (fun h => ?_)
  · rw [zh_zb] at h
    refine lv_iconst (v := nI 0) hx hb d_M_fails_9 (by decide) ?_
    refine va_put (D := D) (ci := 2) (v := .int (nI 0)) (ty := .int) (C := RM) (T := TM) (N := 12) hx hb hk inM tyM okM nmM hown hK hP hD hS 0 rfl rfl 0 (by decide) (hk _ zk453) (fun _ h9 => h9) rfl (by decide +kernel) rfl rfl (Nat.le_of_ble_eq_true rfl) d_M_fails_10 (fun H locs hP hD hS => ?_)
    have hP : va_P D zcl (mW g (mmk 0 (m_oct z) (m_pl z) (m_sz z) (m_sta z) (m_sin z) (m_rea z) (m_fnd z) (m_many z) (m_made z) (m_backs z) (m_lm z))) H := hP
    have hD : va_D A (mW g (mmk 0 (m_oct z) (m_pl z) (m_sz z) (m_sta z) (m_sin z) (m_rea z) (m_fnd z) (m_many z) (m_made z) (m_backs z) (m_lm z))) := hD
    refine lv_iload_n hx hb d_M_fails_13 rfl (lv_at hl 1 rfl) ?_
    exact W.zret hx hb hr (zh_nar _) (fun t ht hW => ⟨⟨_, (mu_err z 0), rfl, ⟨rfl, by rw [h]; rfl⟩, by rw [ht]; exact hP, va_K.moved hW.alike hK, hD⟩, hS.F ht⟩) hS.2.2 d_M_fails_14
  rw [zh_zb] at h
  have h := ts_nf h
  refine lv_iload_n hx hb d_M_fails_5 rfl (lv_at hl 2 rfl) ?_
  refine lv_goto (tgt := 10) hx hb d_M_fails_6 (by decide) ?_
  refine va_put (D := D) (ci := 2) (v := .int (nI y)) (ty := .int) (C := RM) (T := TM) (N := 12) hx hb hk inM tyM okM nmM hown hK hP hD hS 0 rfl rfl 0 (by decide) (hk _ zk453) (fun _ h9 => h9) rfl (by decide +kernel) rfl rfl (Nat.le_of_ble_eq_true rfl) d_M_fails_10 (fun H locs hP hD hS => ?_)
  have hP : va_P D zcl (mW g (mmk y (m_oct z) (m_pl z) (m_sz z) (m_sta z) (m_sin z) (m_rea z) (m_fnd z) (m_many z) (m_made z) (m_backs z) (m_lm z))) H := hP
  have hD : va_D A (mW g (mmk y (m_oct z) (m_pl z) (m_sz z) (m_sta z) (m_sin z) (m_rea z) (m_fnd z) (m_many z) (m_made z) (m_backs z) (m_lm z))) := hD
  refine lv_iload_n hx hb d_M_fails_13 rfl (lv_at hl 1 rfl) ?_
  exact W.zret hx hb hr (zh_nar _) (fun t ht hW => ⟨⟨_, (mu_err z y), rfl, ⟨rfl, by rw [if_pos h]⟩, by rw [ht]; exact hP, va_K.moved hW.alike hK, hD⟩, hS.F ht⟩) hS.2.2 d_M_fails_14
set_option maxHeartbeats 1000000 in
set_option maxRecDepth 100000 in
theorem c_M_taken_ok (l : Launch) (D : va_G) (t0 : Nat) (tys : List (ClassId × FieldType)) (w : va_W) (sz : Nat) (n : Nat) (hn : n ≤ 2048) : Met l y_M_taken w_M_taken ({ frames := 0, cells := 0, slots := 0, locals := 0 }) (zPre D t0 (tys) (w) sz [.int (nI n)]) (vp_Si (fun r => r = nI (16 * zc n))) 0 0 (fun _ => False) := by
  refine Met.ofW (cc := c_M_taken) (maxL := 1) (ret := (some .int)) (by decide) rfl ?_
  intro p e s m args below meth c s₁ B hml hv
  obtain ⟨rfl, hsz, hP, hK, hD0, hE⟩ := hv
  have hx := B.exec
  have hb := B.bytes
  have hr := B.returns
  have hts := atoms_spec (ws := w_M_taken) B.pre
  have hk : ∀ w ∈ zB, w.before _ s = true := fun w h => hts w (List.mem_cons_of_mem _ h)
  have hown : s.vm.findClass "ZoneHeapModel" = some m.cls := findClass_of_methodNamed B.named
  have hlocks := B.notSynchronized
  subst hsz
  have hD := hD0.self (sz := s.heap.size)
  generalize hAe : va_A (w) s.heap.size = A at hD hE
  have hA : ∀ q : Nat, s.heap.size ≤ q → A q := fun q h => by rw [← hAe]; exact Or.inr h
  have hS : va_S A s.heap s.heap [] := va_S.rf
  have hl := lv_entry ([.int (nI n)]) (n := 1) (Nat.le_of_ble_eq_true rfl)
  rw [lg_entry_eq]
  generalize (lg_sl ([.int (nI n)]) ++ List.replicate (1 - (lg_sl ([.int (nI n)])).length) Slot.unset).toArray = ls at hl ⊢
  have hl : lv_has ls 1 [(0, .int (nI n))] := hl
  refine lv_iload_n hx hb d_M_taken_0 rfl (lv_at hl 0 rfl) ?_
  refine lv_if_ne (tgt := 9) hx hb d_M_taken_1 (by decide) (fun h => ?_) (fun h => ?_)
  rotate_left 1
  · rw [show (0 : Int32) = nI 0 from rfl, nI_eq (by omega) (by omega)] at h
    refine lv_bipush (v := nI 16) hx hb d_M_taken_4 (by decide) ?_
    refine lv_goto (tgt := 21) hx hb d_M_taken_6 (by decide) ?_
    exact W.iret hx hb hr (fun t ht hW => ⟨_, rfl, by rw [h]; rfl, ht⟩) (fun q h => absurd h List.not_mem_nil) d_M_taken_21
  rw [show (0 : Int32) = nI 0 from rfl, nI_eq (by omega) (by omega)] at h
  refine lv_iload_n hx hb d_M_taken_9 rfl (lv_at hl 0 rfl) ?_
  refine lv_bipush (v := nI 16) hx hb d_M_taken_10 (by decide) ?_
  refine lv_iadd hx hb d_M_taken_12 ?_
  refine zh_t (show (nI n + nI 16) = nI (n + 16) from nI_add _ _) ?_
  refine lv_iconst (v := nI 1) hx hb d_M_taken_13 (by decide) ?_
  refine lv_isub hx hb d_M_taken_14 ?_
  refine zh_t (show (nI (n + 16) - nI 1) = nI (n + 16 - 1) from pk_sub (by omega)) ?_
  refine lv_bipush (v := nI 16) hx hb d_M_taken_15 (by decide) ?_
  refine lv_idiv hx hb d_M_taken_17 (by decide) ?_
  refine zh_t (show (nI (n + 16 - 1) / nI 16) = nI ((n + 16 - 1) / 16) from pk_div (by omega) (by decide) (by decide)) ?_
  refine lv_bipush (v := nI 16) hx hb d_M_taken_18 (by decide) ?_
  refine lv_imul hx hb d_M_taken_20 ?_
  refine zh_t (show (nI ((n + 16 - 1) / 16) * nI 16) = nI (((n + 16 - 1) / 16) * 16) from pk_mul _ _) ?_
  exact W.iret hx hb hr (fun t ht hW => ⟨_, rfl, congrArg nI (zc16 hn h), ht⟩) (fun q h => absurd h List.not_mem_nil) d_M_taken_21
set_option maxHeartbeats 1000000 in
set_option maxRecDepth 100000 in
theorem c_M_at_ok (l : Launch) (D : va_G) (t0 : Nat) (g : MG) (z : MT) (sz : Nat) (v : Int32) (y : Nat) (hy : y ≤ 2) (hz : mOK z) : Met l y_M_at w_M_at ({ frames := 0, cells := 0, slots := 0, locals := 0 }) (zPre D t0 (mT g) (mW g z) sz [.ref (n_h g), .int v, .int (nI y)]) (vp_Si (fun r => zfst (fun k => nI (m_pl z k) = v ∧ m_sta z k = y) (m_many z) r)) 0 0 (fun _ => False) := by
  refine Met.ofW (cc := c_M_at) (maxL := 4) (ret := (some .int)) (by decide) rfl ?_
  intro p e s m args below meth c s₁ B hml hv
  obtain ⟨rfl, hsz, hP, hK, hD0, hE⟩ := hv
  have hx := B.exec
  have hb := B.bytes
  have hr := B.returns
  have hts := atoms_spec (ws := w_M_at) B.pre
  have hk : ∀ w ∈ zB, w.before _ s = true := fun w h => hts w (List.mem_cons_of_mem _ h)
  have hown : s.vm.findClass "ZoneHeapModel" = some m.cls := findClass_of_methodNamed B.named
  have hlocks := B.notSynchronized
  subst hsz
  have hD := hD0.self (sz := s.heap.size)
  generalize hAe : va_A (mW g z) s.heap.size = A at hD hE
  have hA : ∀ q : Nat, s.heap.size ≤ q → A q := fun q h => by rw [← hAe]; exact Or.inr h
  have hS : va_S A s.heap s.heap [] := va_S.rf
  have hl := lv_entry ([.ref (n_h g), .int v, .int (nI y)]) (n := 4) (Nat.le_of_ble_eq_true rfl)
  rw [lg_entry_eq]
  generalize (lg_sl ([.ref (n_h g), .int v, .int (nI y)]) ++ List.replicate (4 - (lg_sl ([.ref (n_h g), .int v, .int (nI y)])).length) Slot.unset).toArray = ls at hl ⊢
  have hl : lv_has ls 4 [(0, .ref (n_h g)), (1, .int v), (2, .int (nI y))] := hl
  have hm := hz.many
  refine lv_iconst (v := nI 0) hx hb d_M_at_0 (by decide) ?_
  refine lv_istore_n (lv' := [(3, .int (nI 0)), (0, .ref (n_h g)), (1, .int v), (2, .int (nI y))]) hx hb d_M_at_1 rfl hl (by decide) rfl (fun ls hl => ?_)
  refine zh_loop0 (A := Nat) (fun q ls => lv_has ls 4 [(0, .ref (n_h g)), (1, .int v), (2, .int (nI y)), (3, .int (nI q))] ∧ (q ≤ m_many z) ∧ (∀ j : Nat, j < q → ¬ (nI (m_pl z j) = v ∧ m_sta z j = y))) (fun q => m_many z - q) ?_ 0 ⟨lv_sub hl [1, 2, 3, 0] rfl, Nat.zero_le _, fun j hj => absurd hj (Nat.not_lt_zero _)⟩
  rintro i ls ⟨hl, hi, hno⟩ ih
  have hl : lv_has ls 4 [(0, .ref (n_h g)), (1, .int v), (2, .int (nI y)), (3, .int (nI i))] := hl
  have hi : i ≤ m_many z := hi
  have hno : ∀ j : Nat, j < i → ¬ (nI (m_pl z j) = v ∧ m_sta z j = y) := hno
  refine lv_iload_n hx hb d_M_at_2 rfl (lv_at hl 3 rfl) ?_
  refine lv_aload_n hx hb d_M_at_3 rfl (lv_at hl 0 rfl) ?_
  refine va_get (D := D) (ci := 2) (v := .int (nI (m_many z))) (C := RM) (T := TM) (N := 12) hx hb hk inM hown hK hP 0 rfl rfl 8 (by decide) (hk _ zk461) (fun _ h9 => h9) rfl d_M_at_4 ?_
  refine lv_icmp_ge (tgt := 38) hx hb d_M_at_7 (by decide) (fun h => ?_) (fun h => ?_)
  · rw [nI_leI (by omega) (by omega)] at h
    refine lv_iconst (v := ((-1))) hx hb d_M_at_38 (by decide) ?_
    exact W.iret hx hb hr (fun t ht hW => ⟨_, rfl, Or.inl ⟨rfl, fun k hk => hno k (by omega)⟩, ht⟩) (fun q h => absurd h List.not_mem_nil) d_M_at_39
  rw [nI_leI (by omega) (by omega)] at h
  have hat := hz.at (k := i) (by omega)
  refine lv_aload_n hx hb d_M_at_10 rfl (lv_at hl 0 rfl) ?_
  refine va_get (D := D) (ci := 2) (v := .ref (n_aP g)) (C := RM) (T := TM) (N := 12) hx hb hk inM hown hK hP 0 rfl rfl 2 (by decide) (hk _ zk455) (fun _ h9 => h9) rfl d_M_at_11 ?_
  refine lv_iload_n hx hb d_M_at_14 rfl (lv_at hl 3 rfl) ?_
  refine va_iald hx hb hK hP 2 1 rfl rfl (vp_in_nI (by omega) (by decide)) d_M_at_15 ?_
  refine zh_t (show nI (m_pl z (nI i).toNatClampNeg) = nI (m_pl z i) from by rw [nI_clamp (by omega)]) ?_
  refine lv_iload_n hx hb d_M_at_16 rfl (lv_at hl 1 rfl) ?_
  refine lv_icmp_ne (tgt := 32) hx hb d_M_at_17 (by decide) (fun h2 => ?_) (fun h2 => ?_)
  · refine lv_iinc (lv' := [(3, .int (nI (i + 1))), (0, .ref (n_h g)), (1, .int v), (2, .int (nI y))]) (v := nI (i + 1)) hx hb d_M_at_32 hl (k := 3) rfl (nI_add _ _) (by decide) rfl (fun ls hl => ?_)
    refine lv_goto (tgt := 2) hx hb d_M_at_35 (by decide) ?_
    exact ih (i + 1) ls ⟨lv_sub hl [1, 2, 3, 0] rfl, by omega, lt_s hno (fun q => h2 q.1)⟩ (by show _ < _; (try dsimp only); omega)
  refine lv_aload_n hx hb d_M_at_20 rfl (lv_at hl 0 rfl) ?_
  refine va_get (D := D) (ci := 2) (v := .ref (n_aT g)) (C := RM) (T := TM) (N := 12) hx hb hk inM hown hK hP 0 rfl rfl 4 (by decide) (hk _ zk457) (fun _ h9 => h9) rfl d_M_at_21 ?_
  refine lv_iload_n hx hb d_M_at_24 rfl (lv_at hl 3 rfl) ?_
  refine va_iald hx hb hK hP 4 3 rfl rfl (vp_in_nI (by omega) (by decide)) d_M_at_25 ?_
  refine zh_t (show nI (m_sta z (nI i).toNatClampNeg) = nI (m_sta z i) from by rw [nI_clamp (by omega)]) ?_
  refine lv_iload_n hx hb d_M_at_26 rfl (lv_at hl 2 rfl) ?_
  refine lv_icmp_ne (tgt := 32) hx hb d_M_at_27 (by decide) (fun h3 => ?_) (fun h3 => ?_)
  · rw [nI_eq (by omega) (by omega)] at h3
    refine lv_iinc (lv' := [(3, .int (nI (i + 1))), (0, .ref (n_h g)), (1, .int v), (2, .int (nI y))]) (v := nI (i + 1)) hx hb d_M_at_32 hl (k := 3) rfl (nI_add _ _) (by decide) rfl (fun ls hl => ?_)
    refine lv_goto (tgt := 2) hx hb d_M_at_35 (by decide) ?_
    exact ih (i + 1) ls ⟨lv_sub hl [1, 2, 3, 0] rfl, by omega, lt_s hno (fun q => h3 q.2)⟩ (by show _ < _; (try dsimp only); omega)
  rw [nI_eq (by omega) (by omega)] at h3
  refine lv_iload_n hx hb d_M_at_30 rfl (lv_at hl 3 rfl) ?_
  exact W.iret hx hb hr (fun t ht hW => ⟨_, rfl, Or.inr ⟨i, by omega, rfl, ⟨h2, h3⟩, hno⟩, ht⟩) (fun q h => absurd h List.not_mem_nil) d_M_at_31
set_option maxHeartbeats 1000000 in
set_option maxRecDepth 100000 in
theorem c_M_kept_ok (l : Launch) (D : va_G) (t0 : Nat) (g : MG) (z : MT) (sz : Nat) (hz : mOK z) : Met l y_M_kept w_M_kept ({ frames := 0, cells := 0, slots := 0, locals := 0 }) (zPre D t0 (mT g) (mW g z) sz [.ref (n_h g)]) (vp_Si (fun r => r = nI (mkept z))) 0 0 (fun _ => False) := by
  refine Met.ofW (cc := c_M_kept) (maxL := 3) (ret := (some .int)) (by decide) rfl ?_
  intro p e s m args below meth c s₁ B hml hv
  obtain ⟨rfl, hsz, hP, hK, hD0, hE⟩ := hv
  have hx := B.exec
  have hb := B.bytes
  have hr := B.returns
  have hts := atoms_spec (ws := w_M_kept) B.pre
  have hk : ∀ w ∈ zB, w.before _ s = true := fun w h => hts w (List.mem_cons_of_mem _ h)
  have hown : s.vm.findClass "ZoneHeapModel" = some m.cls := findClass_of_methodNamed B.named
  have hlocks := B.notSynchronized
  subst hsz
  have hD := hD0.self (sz := s.heap.size)
  generalize hAe : va_A (mW g z) s.heap.size = A at hD hE
  have hA : ∀ q : Nat, s.heap.size ≤ q → A q := fun q h => by rw [← hAe]; exact Or.inr h
  have hS : va_S A s.heap s.heap [] := va_S.rf
  have hl := lv_entry ([.ref (n_h g)]) (n := 3) (Nat.le_of_ble_eq_true rfl)
  rw [lg_entry_eq]
  generalize (lg_sl ([.ref (n_h g)]) ++ List.replicate (3 - (lg_sl ([.ref (n_h g)])).length) Slot.unset).toArray = ls at hl ⊢
  have hl : lv_has ls 3 [(0, .ref (n_h g))] := hl
  have hm := hz.many
  refine lv_iconst (v := nI 0) hx hb d_M_kept_0 (by decide) ?_
  refine lv_istore_n (lv' := [(1, .int (nI 0)), (0, .ref (n_h g))]) hx hb d_M_kept_1 rfl hl (by decide) rfl (fun ls hl => ?_)
  refine lv_iconst (v := nI 0) hx hb d_M_kept_2 (by decide) ?_
  refine lv_istore_n (lv' := [(2, .int (nI 0)), (1, .int (nI 0)), (0, .ref (n_h g))]) hx hb d_M_kept_3 rfl hl (by decide) rfl (fun ls hl => ?_)
  refine zh_loop0 (A := Nat) (fun q ls => lv_has ls 3 [(0, .ref (n_h g)), (1, .int (nI (zsum (fun k => if m_sta z k = 2 then m_sz z k else 0) q))), (2, .int (nI q))] ∧ (q ≤ m_many z)) (fun q => m_many z - q) ?_ 0 ⟨lv_sub hl [2, 1, 0] rfl, Nat.zero_le _⟩
  rintro i ls ⟨hl, hi⟩ ih
  have hl : lv_has ls 3 [(0, .ref (n_h g)), (1, .int (nI (zsum (fun k => if m_sta z k = 2 then m_sz z k else 0) i))), (2, .int (nI i))] := hl
  have hi : i ≤ m_many z := hi
  refine lv_iload_n hx hb d_M_kept_4 rfl (lv_at hl 2 rfl) ?_
  refine lv_aload_n hx hb d_M_kept_5 rfl (lv_at hl 0 rfl) ?_
  refine va_get (D := D) (ci := 2) (v := .int (nI (m_many z))) (C := RM) (T := TM) (N := 12) hx hb hk inM hown hK hP 0 rfl rfl 8 (by decide) (hk _ zk461) (fun _ h9 => h9) rfl d_M_kept_6 ?_
  refine lv_icmp_ge (tgt := 37) hx hb d_M_kept_9 (by decide) (fun h => ?_) (fun h => ?_)
  · rw [nI_leI (by omega) (by omega)] at h
    have hie : i = m_many z := by omega
    refine lv_iload_n hx hb d_M_kept_37 rfl (lv_at hl 1 rfl) ?_
    exact W.iret hx hb hr (fun t ht hW => ⟨_, rfl, by rw [hie]; rfl, ht⟩) (fun q h => absurd h List.not_mem_nil) d_M_kept_38
  rw [nI_leI (by omega) (by omega)] at h
  have hat := hz.at (k := i) (by omega)
  refine lv_aload_n hx hb d_M_kept_12 rfl (lv_at hl 0 rfl) ?_
  refine va_get (D := D) (ci := 2) (v := .ref (n_aT g)) (C := RM) (T := TM) (N := 12) hx hb hk inM hown hK hP 0 rfl rfl 4 (by decide) (hk _ zk457) (fun _ h9 => h9) rfl d_M_kept_13 ?_
  refine lv_iload_n hx hb d_M_kept_16 rfl (lv_at hl 2 rfl) ?_
  refine va_iald hx hb hK hP 4 3 rfl rfl (vp_in_nI (by omega) (by decide)) d_M_kept_17 ?_
  refine zh_t (show nI (m_sta z (nI i).toNatClampNeg) = nI (m_sta z i) from by rw [nI_clamp (by omega)]) ?_
  refine lv_iconst (v := nI 2) hx hb d_M_kept_18 (by decide) ?_
  refine lv_icmp_ne (tgt := 31) hx hb d_M_kept_19 (by decide) (fun h => ?_) (fun h => ?_)
  · rw [nI_eq (by omega) (by omega)] at h
    have hl : lv_has ls 3 [(0, .ref (n_h g)), (1, .int (nI (zsum (fun k => if m_sta z k = 2 then m_sz z k else 0) (i + 1)))), (2, .int (nI i))] := by rw [zsum_s, if_neg h]; exact hl
    refine lv_iinc (lv' := [(2, .int (nI (i + 1))), (0, .ref (n_h g)), (1, .int (nI (zsum (fun k => if m_sta z k = 2 then m_sz z k else 0) (i + 1))))]) (v := nI (i + 1)) hx hb d_M_kept_31 hl (k := 2) rfl (nI_add _ _) (by decide) rfl (fun ls hl => ?_)
    refine lv_goto (tgt := 4) hx hb d_M_kept_34 (by decide) ?_
    exact ih (i + 1) ls ⟨lv_sub hl [1, 2, 0] rfl, by omega⟩ (by show _ < _; (try dsimp only); omega)
  rw [nI_eq (by omega) (by omega)] at h
  refine lv_iload_n hx hb d_M_kept_22 rfl (lv_at hl 1 rfl) ?_
  refine lv_aload_n hx hb d_M_kept_23 rfl (lv_at hl 0 rfl) ?_
  refine va_get (D := D) (ci := 2) (v := .ref (n_aS g)) (C := RM) (T := TM) (N := 12) hx hb hk inM hown hK hP 0 rfl rfl 3 (by decide) (hk _ zk456) (fun _ h9 => h9) rfl d_M_kept_24 ?_
  refine lv_iload_n hx hb d_M_kept_27 rfl (lv_at hl 2 rfl) ?_
  refine va_iald hx hb hK hP 3 2 rfl rfl (vp_in_nI (by omega) (by decide)) d_M_kept_28 ?_
  refine zh_t (show nI (m_sz z (nI i).toNatClampNeg) = nI (m_sz z i) from by rw [nI_clamp (by omega)]) ?_
  refine lv_iadd hx hb d_M_kept_29 ?_
  refine zh_t (show (nI (zsum (fun k => if m_sta z k = 2 then m_sz z k else 0) i) + nI (m_sz z i)) = nI ((zsum (fun k => if m_sta z k = 2 then m_sz z k else 0) i) + m_sz z i) from nI_add _ _) ?_
  refine lv_istore_n (lv' := [(1, .int (nI ((zsum (fun k => if m_sta z k = 2 then m_sz z k else 0) i) + m_sz z i))), (0, .ref (n_h g)), (2, .int (nI i))]) hx hb d_M_kept_30 rfl hl (by decide) rfl (fun ls hl => ?_)
  have hl : lv_has ls 3 [(1, .int (nI (zsum (fun k => if m_sta z k = 2 then m_sz z k else 0) (i + 1)))), (0, .ref (n_h g)), (2, .int (nI i))] := by rw [zsum_s, if_pos h]; exact hl
  refine lv_iinc (lv' := [(2, .int (nI (i + 1))), (1, .int (nI (zsum (fun k => if m_sta z k = 2 then m_sz z k else 0) (i + 1)))), (0, .ref (n_h g))]) (v := nI (i + 1)) hx hb d_M_kept_31 hl (k := 2) rfl (nI_add _ _) (by decide) rfl (fun ls hl => ?_)
  refine lv_goto (tgt := 4) hx hb d_M_kept_34 (by decide) ?_
  exact ih (i + 1) ls ⟨lv_sub hl [2, 1, 0] rfl, by omega⟩ (by show _ < _; (try dsimp only); omega)
set_option maxHeartbeats 1000000 in
set_option maxRecDepth 100000 in
theorem c_M_room_ok (l : Launch) (D : va_G) (t0 : Nat) (g : MG) (z : MT) (sz : Nat) (n : Nat) (hn : n ≤ 2048) (hz : mOK z) : Met l y_M_room w_M_room ({ frames := 1, cells := 0, slots := 0, locals := 20 }) (zPre D t0 (mT g) (mW g z) sz [.ref (n_h g), .int (nI n)]) (vp_Si (fun r => ∃ k : Nat, mroom z n k ∧ r = nI (16 * k))) 0 0 (fun _ => False) := by
  refine Met.ofW (cc := c_M_room) (maxL := 5) (ret := (some .int)) (by decide) rfl ?_
  intro p e s m args below meth c s₁ B hml hv
  obtain ⟨rfl, hsz, hP, hK, hD0, hE⟩ := hv
  have hx := B.exec
  have hb := B.bytes
  have hr := B.returns
  have hts := atoms_spec (ws := w_M_room) B.pre
  have hk : ∀ w ∈ zB, w.before _ s = true := fun w h => hts w (List.mem_cons_of_mem _ h)
  have hown : s.vm.findClass "ZoneHeapModel" = some m.cls := findClass_of_methodNamed B.named
  have hlocks := B.notSynchronized
  subst hsz
  have hD := hD0.self (sz := s.heap.size)
  generalize hAe : va_A (mW g z) s.heap.size = A at hD hE
  have hA : ∀ q : Nat, s.heap.size ≤ q → A q := fun q h => by rw [← hAe]; exact Or.inr h
  have hS : va_S A s.heap s.heap [] := va_S.rf
  have hl := lv_entry ([.ref (n_h g), .int (nI n)]) (n := 5) (Nat.le_of_ble_eq_true rfl)
  rw [lg_entry_eq]
  generalize (lg_sl ([.ref (n_h g), .int (nI n)]) ++ List.replicate (5 - (lg_sl ([.ref (n_h g), .int (nI n)])).length) Slot.unset).toArray = ls at hl ⊢
  have hl : lv_has ls 5 [(0, .ref (n_h g)), (1, .int (nI n))] := hl
  have hm := hz.many
  have hzc := zc_le hn
  refine lv_bipush (v := nI 16) hx hb d_M_room_0 (by decide) ?_
  refine lv_istore_n (lv' := [(2, .int (nI 16)), (0, .ref (n_h g)), (1, .int (nI n))]) hx hb d_M_room_2 rfl hl (by decide) rfl (fun ls hl => ?_)
  have hl : lv_has ls 5 [(2, .int (nI (16 * 1))), (0, .ref (n_h g)), (1, .int (nI n))] := hl
  refine zh_loop0 (A := Nat) (fun q ls => lv_has ls 5 [(0, .ref (n_h g)), (1, .int (nI n)), (2, .int (nI (16 * q)))] ∧ (1 ≤ q) ∧ (q ≤ 512) ∧ (∀ j : Nat, 1 ≤ j → j < q → ¬ zr_fit (m_many z) (fun k => m_pl z k / 16) (m_sz z) j (zc n))) (fun q => 512 - q) ?_ 1 ⟨lv_sub hl [1, 2, 0] rfl, Nat.le_refl _, by decide, fun j h1 h2 => by omega⟩
  rintro i ls ⟨hl, hi1, hi2, hno⟩ ih
  have hl : lv_has ls 5 [(0, .ref (n_h g)), (1, .int (nI n)), (2, .int (nI (16 * i)))] := hl
  have hi1 : 1 ≤ i := hi1
  have hi2 : i ≤ 512 := hi2
  have hno : ∀ j : Nat, 1 ≤ j → j < i → ¬ zr_fit (m_many z) (fun k => m_pl z k / 16) (m_sz z) j (zc n) := hno
  refine lv_iload_n hx hb d_M_room_3 rfl (lv_at hl 2 rfl) ?_
  refine lv_iload_n hx hb d_M_room_4 rfl (lv_at hl 1 rfl) ?_
  refine vp_callSi (zrS (n := 1) (As := [.int (nI n)]) (rest := [.int (nI (16 * i))]) ⟨hx, hb, hml, hown, hk⟩ (c_M_taken_ok l D t0 (mT g) (mW g z) s.heap.size n hn) zk511 zk512 zk5 kc_M_taken ⟨by decide, by decide, by decide⟩ rfl rfl ⟨Nat.le_of_ble_eq_true rfl, Nat.le_of_ble_eq_true rfl⟩ ⟨hP, hK, hD, hS, hA, hE⟩ rfl hl.1 rfl (Nat.le_of_ble_eq_true rfl) d_M_room_5 ⟨Nat.le_of_ble_eq_true rfl, Nat.le_of_ble_eq_true rfl⟩).run (fun r hr1 => ?_)
  subst hr1
  refine lv_iadd hx hb d_M_room_8 ?_
  refine zh_t (show (nI (16 * i) + nI (16 * zc n)) = nI ((16 * i) + (16 * zc n)) from nI_add _ _) ?_
  refine lv_bipush (v := nI 16) hx hb d_M_room_9 (by decide) ?_
  refine lv_iadd hx hb d_M_room_11 ?_
  refine zh_t (show (nI ((16 * i) + (16 * zc n)) + nI 16) = nI (((16 * i) + (16 * zc n)) + 16) from nI_add _ _) ?_
  refine lv_sipush (v := nI 8192) hx hb d_M_room_12 (by decide) ?_
  refine lv_icmp_gt (tgt := 96) hx hb d_M_room_15 (by decide) (fun h => ?_) (fun h => ?_)
  · rw [nI_ltI (by omega) (by omega)] at h
    refine lv_iconst (v := nI 0) hx hb d_M_room_96 (by decide) ?_
    exact W.iret hx hb hr (fun t ht hW => ⟨_, rfl, ⟨0, Or.inl ⟨rfl, fun c h1 h2 => hno c h1 (by omega)⟩, rfl⟩, ht⟩) (fun q h => absurd h List.not_mem_nil) d_M_room_97
  rw [nI_ltI (by omega) (by omega)] at h
  have hfits := h
  refine lv_iconst (v := nI 1) hx hb d_M_room_18 (by decide) ?_
  refine zh_t (show nI 1 = zb true from rfl) ?_
  refine lv_istore_n (lv' := [(3, .int (zb true)), (0, .ref (n_h g)), (1, .int (nI n)), (2, .int (nI (16 * i)))]) hx hb d_M_room_19 rfl hl (by decide) rfl (fun ls hl => ?_)
  refine lv_iconst (v := nI 0) hx hb d_M_room_20 (by decide) ?_
  refine lv_istore (lv' := [(4, .int (nI 0)), (3, .int (zb true)), (0, .ref (n_h g)), (1, .int (nI n)), (2, .int (nI (16 * i)))]) hx hb d_M_room_21 hl (by decide) rfl (fun ls hl => ?_)
  have ih1 := ih
  refine zh_loop0 (A := Nat × Bool) (fun q ls => lv_has ls 5 [(0, .ref (n_h g)), (1, .int (nI n)), (2, .int (nI (16 * i))), (3, .int (zb q.2)), (4, .int (nI q.1))] ∧ (q.1 ≤ m_many z) ∧ (q.2 = true ↔ ∀ j : Nat, j < q.1 → ¬ (i < m_pl z j / 16 + zc (m_sz z j) + 1 ∧ m_pl z j / 16 < i + zc n + 1))) (fun q => m_many z - q.1) ?_ (0, true) ⟨lv_sub hl [2, 3, 4, 1, 0] rfl, Nat.zero_le _, ⟨fun _ j hj => absurd hj (Nat.not_lt_zero _), fun _ => rfl⟩⟩
  rintro ⟨k, fr⟩ ls ⟨hl, hk5, hfr⟩ ih
  have hl : lv_has ls 5 [(0, .ref (n_h g)), (1, .int (nI n)), (2, .int (nI (16 * i))), (3, .int (zb fr)), (4, .int (nI k))] := hl
  have hk5 : k ≤ m_many z := hk5
  have hfr : fr = true ↔ ∀ j : Nat, j < k → ¬ (i < m_pl z j / 16 + zc (m_sz z j) + 1 ∧ m_pl z j / 16 < i + zc n + 1) := hfr
  refine lv_iload hx hb d_M_room_23 (lv_at hl 4 rfl) ?_
  refine lv_aload_n hx hb d_M_room_25 rfl (lv_at hl 0 rfl) ?_
  refine va_get (D := D) (ci := 2) (v := .int (nI (m_many z))) (C := RM) (T := TM) (N := 12) hx hb hk inM hown hK hP 0 rfl rfl 8 (by decide) (hk _ zk461) (fun _ h9 => h9) rfl d_M_room_26 ?_
  refine lv_icmp_ge (tgt := 84) hx hb d_M_room_29 (by decide) (fun h => ?_) (fun h => ?_)
  · rw [nI_leI (by omega) (by omega)] at h
    have hke : k = m_many z := by omega
    rw [hke] at hfr
    refine lv_iload_n hx hb d_M_room_84 rfl (lv_at hl 3 rfl) ?_
    refine lv_if_eq (tgt := 90) hx hb d_M_room_85 (by decide) (fun hf0 => ?_) (fun hf0 => ?_)
    · rw [zh_zb] at hf0
      refine lv_iinc (lv' := [(2, .int (nI ((16 * i) + 16))), (0, .ref (n_h g)), (1, .int (nI n)), (3, .int (zb fr)), (4, .int (nI k))]) (v := nI ((16 * i) + 16)) hx hb d_M_room_90 hl (k := 2) rfl (nI_add _ _) (by decide) rfl (fun ls hl => ?_)
      have hl : lv_has ls 5 [(2, .int (nI (16 * (i + 1)))), (0, .ref (n_h g)), (1, .int (nI n)), (3, .int (zb fr)), (4, .int (nI k))] := by rw [show 16 * (i + 1) = 16 * i + 16 by omega]; exact hl
      refine lv_goto (tgt := 3) hx hb d_M_room_93 (by decide) ?_
      exact ih1 (i + 1) ls ⟨lv_sub hl [1, 2, 0] rfl, by omega, by omega, fun j h1 h2 => by by_cases e : j = i; (exact fun q => by rw [hfr.mpr (e ▸ q)] at hf0; cases hf0); (exact hno j h1 (by omega))⟩ (by show _ < _; (try dsimp only); omega)
    rw [zh_zb] at hf0
    refine lv_iload_n hx hb d_M_room_88 rfl (lv_at hl 2 rfl) ?_
    exact W.iret hx hb hr (fun t ht hW => ⟨_, rfl, ⟨i, Or.inr ⟨hi1, by omega, hfr.mp (ts_nf hf0), fun c h1 h2 => hno c h1 h2⟩, rfl⟩, ht⟩) (fun q h => absurd h List.not_mem_nil) d_M_room_89
  rw [nI_leI (by omega) (by omega)] at h
  have hat := hz.at (k := k) (by omega)
  have hdiv := (hz.2.1 k).1 (by omega)
  refine lv_iload_n hx hb d_M_room_32 rfl (lv_at hl 2 rfl) ?_
  refine lv_bipush (v := nI 16) hx hb d_M_room_33 (by decide) ?_
  refine lv_isub hx hb d_M_room_35 ?_
  refine zh_t (show (nI (16 * i) - nI 16) = nI ((16 * i) - 16) from pk_sub (by omega)) ?_
  refine lv_aload_n hx hb d_M_room_36 rfl (lv_at hl 0 rfl) ?_
  refine va_get (D := D) (ci := 2) (v := .ref (n_aP g)) (C := RM) (T := TM) (N := 12) hx hb hk inM hown hK hP 0 rfl rfl 2 (by decide) (hk _ zk455) (fun _ h9 => h9) rfl d_M_room_37 ?_
  refine lv_iload hx hb d_M_room_40 (lv_at hl 4 rfl) ?_
  refine va_iald hx hb hK hP 2 1 rfl rfl (vp_in_nI (by omega) (by decide)) d_M_room_42 ?_
  refine zh_t (show nI (m_pl z (nI k).toNatClampNeg) = nI (m_pl z k) from by rw [nI_clamp (by omega)]) ?_
  refine lv_aload_n hx hb d_M_room_43 rfl (lv_at hl 0 rfl) ?_
  refine va_get (D := D) (ci := 2) (v := .ref (n_aS g)) (C := RM) (T := TM) (N := 12) hx hb hk inM hown hK hP 0 rfl rfl 3 (by decide) (hk _ zk456) (fun _ h9 => h9) rfl d_M_room_44 ?_
  refine lv_iload hx hb d_M_room_47 (lv_at hl 4 rfl) ?_
  refine va_iald hx hb hK hP 3 2 rfl rfl (vp_in_nI (by omega) (by decide)) d_M_room_49 ?_
  refine zh_t (show nI (m_sz z (nI k).toNatClampNeg) = nI (m_sz z k) from by rw [nI_clamp (by omega)]) ?_
  refine vp_callSi (zrS (n := 1) (As := [.int (nI (m_sz z k))]) (rest := [.int (nI (m_pl z k)), .int (nI ((16 * i) - 16))]) ⟨hx, hb, hml, hown, hk⟩ (c_M_taken_ok l D t0 (mT g) (mW g z) s.heap.size (m_sz z k) hat.2.2.1) zk511 zk512 zk5 kc_M_taken ⟨by decide, by decide, by decide⟩ rfl rfl ⟨Nat.le_of_ble_eq_true rfl, Nat.le_of_ble_eq_true rfl⟩ ⟨hP, hK, hD, hS, hA, hE⟩ rfl hl.1 rfl (Nat.le_of_ble_eq_true rfl) d_M_room_50 ⟨Nat.le_of_ble_eq_true rfl, Nat.le_of_ble_eq_true rfl⟩).run (fun r hr1 => ?_)
  subst hr1
  refine lv_iadd hx hb d_M_room_53 ?_
  refine zh_t (show (nI (m_pl z k) + nI (16 * zc (m_sz z k))) = nI (m_pl z k + (16 * zc (m_sz z k))) from nI_add _ _) ?_
  refine lv_icmp_ge (tgt := 78) hx hb d_M_room_54 (by decide) (fun h => ?_) (fun h => ?_)
  · rw [nI_leI (by omega) (by omega)] at h
    refine lv_iinc (lv' := [(4, .int (nI (k + 1))), (0, .ref (n_h g)), (1, .int (nI n)), (2, .int (nI (16 * i))), (3, .int (zb fr))]) (v := nI (k + 1)) hx hb d_M_room_78 hl (k := 4) rfl (nI_add _ _) (by decide) rfl (fun ls hl => ?_)
    refine lv_goto (tgt := 23) hx hb d_M_room_81 (by decide) ?_
    exact ih (k + 1, fr) ls ⟨lv_sub hl [1, 2, 3, 4, 0] rfl, by dsimp only; omega, ⟨fun q => lt_s (hfr.mp q) (by omega), fun q => hfr.mpr (fun j hj => q j (by omega))⟩⟩ (by show _ < _; (try dsimp only); omega)
  rw [nI_leI (by omega) (by omega)] at h
  have hov := h
  refine lv_aload_n hx hb d_M_room_57 rfl (lv_at hl 0 rfl) ?_
  refine va_get (D := D) (ci := 2) (v := .ref (n_aP g)) (C := RM) (T := TM) (N := 12) hx hb hk inM hown hK hP 0 rfl rfl 2 (by decide) (hk _ zk455) (fun _ h9 => h9) rfl d_M_room_58 ?_
  refine lv_iload hx hb d_M_room_61 (lv_at hl 4 rfl) ?_
  refine va_iald hx hb hK hP 2 1 rfl rfl (vp_in_nI (by omega) (by decide)) d_M_room_63 ?_
  refine zh_t (show nI (m_pl z (nI k).toNatClampNeg) = nI (m_pl z k) from by rw [nI_clamp (by omega)]) ?_
  refine lv_iload_n hx hb d_M_room_64 rfl (lv_at hl 2 rfl) ?_
  refine lv_iload_n hx hb d_M_room_65 rfl (lv_at hl 1 rfl) ?_
  refine vp_callSi (zrS (n := 1) (As := [.int (nI n)]) (rest := [.int (nI (16 * i)), .int (nI (m_pl z k))]) ⟨hx, hb, hml, hown, hk⟩ (c_M_taken_ok l D t0 (mT g) (mW g z) s.heap.size n hn) zk511 zk512 zk5 kc_M_taken ⟨by decide, by decide, by decide⟩ rfl rfl ⟨Nat.le_of_ble_eq_true rfl, Nat.le_of_ble_eq_true rfl⟩ ⟨hP, hK, hD, hS, hA, hE⟩ rfl hl.1 rfl (Nat.le_of_ble_eq_true rfl) d_M_room_66 ⟨Nat.le_of_ble_eq_true rfl, Nat.le_of_ble_eq_true rfl⟩).run (fun r hr1 => ?_)
  subst hr1
  refine lv_iadd hx hb d_M_room_69 ?_
  refine zh_t (show (nI (16 * i) + nI (16 * zc n)) = nI ((16 * i) + (16 * zc n)) from nI_add _ _) ?_
  refine lv_bipush (v := nI 16) hx hb d_M_room_70 (by decide) ?_
  refine lv_iadd hx hb d_M_room_72 ?_
  refine zh_t (show (nI ((16 * i) + (16 * zc n)) + nI 16) = nI (((16 * i) + (16 * zc n)) + 16) from nI_add _ _) ?_
  refine lv_icmp_ge (tgt := 78) hx hb d_M_room_73 (by decide) (fun h => ?_) (fun h => ?_)
  · rw [nI_leI (by omega) (by omega)] at h
    refine lv_iinc (lv' := [(4, .int (nI (k + 1))), (0, .ref (n_h g)), (1, .int (nI n)), (2, .int (nI (16 * i))), (3, .int (zb fr))]) (v := nI (k + 1)) hx hb d_M_room_78 hl (k := 4) rfl (nI_add _ _) (by decide) rfl (fun ls hl => ?_)
    refine lv_goto (tgt := 23) hx hb d_M_room_81 (by decide) ?_
    exact ih (k + 1, fr) ls ⟨lv_sub hl [1, 2, 3, 4, 0] rfl, by dsimp only; omega, ⟨fun q => lt_s (hfr.mp q) (by omega), fun q => hfr.mpr (fun j hj => q j (by omega))⟩⟩ (by show _ < _; (try dsimp only); omega)
  rw [nI_leI (by omega) (by omega)] at h
  refine lv_iconst (v := nI 0) hx hb d_M_room_76 (by decide) ?_
  refine zh_t (show nI 0 = zb false from rfl) ?_
  refine lv_istore_n (lv' := [(3, .int (zb false)), (0, .ref (n_h g)), (1, .int (nI n)), (2, .int (nI (16 * i))), (4, .int (nI k))]) hx hb d_M_room_77 rfl hl (by decide) rfl (fun ls hl => ?_)
  refine lv_iinc (lv' := [(4, .int (nI (k + 1))), (3, .int (zb false)), (0, .ref (n_h g)), (1, .int (nI n)), (2, .int (nI (16 * i)))]) (v := nI (k + 1)) hx hb d_M_room_78 hl (k := 4) rfl (nI_add _ _) (by decide) rfl (fun ls hl => ?_)
  refine lv_goto (tgt := 23) hx hb d_M_room_81 (by decide) ?_
  exact ih (k + 1, false) ls ⟨lv_sub hl [2, 3, 4, 1, 0] rfl, by dsimp only; omega, ⟨(fun q => by cases q), fun q => absurd (show (i < m_pl z k / 16 + zc (m_sz z k) + 1 ∧ m_pl z k / 16 < i + zc n + 1) from ⟨by omega, by omega⟩) (q k (by show k < k + 1; omega))⟩⟩ (by show _ < _; (try dsimp only); omega)
set_option maxHeartbeats 1000000 in
set_option maxRecDepth 100000 in
theorem c_M_make_ok (l : Launch) (D : va_G) (t0 : Nat) (g : MG) (z : MT) (sz : Nat) (n : Nat) (hn : n ≤ 2048) (hz : mOK z) : Met l y_M_make w_M_make ({ frames := 2, cells := 0, slots := 0, locals := 50 }) (zPre D t0 (mT g) (mW g z) sz [.ref (n_h g), .int (nI n)]) (va_Qi (fun r u => ∃ k : Nat, mroom z n k ∧ r = nI (16 * k) ∧ ((k = 0 ∧ u = z) ∨ (k ≠ 0 ∧ u = mq_make z k n))) (fun (u : MT) t => zPost D (mT g) (va_A (mW g z) sz) (mW g u) t) (va_A (mW g z) sz)) 0 0 (va_A (mW g z) sz) := by
  refine Met.ofW (cc := c_M_make) (maxL := 3) (ret := (some .int)) (by decide) rfl ?_
  intro p e s m args below meth c s₁ B hml hv
  obtain ⟨rfl, hsz, hP, hK, hD0, hE⟩ := hv
  have hx := B.exec
  have hb := B.bytes
  have hr := B.returns
  have hts := atoms_spec (ws := w_M_make) B.pre
  have hk : ∀ w ∈ zB, w.before _ s = true := fun w h => hts w (List.mem_cons_of_mem _ h)
  have hown : s.vm.findClass "ZoneHeapModel" = some m.cls := findClass_of_methodNamed B.named
  have hlocks := B.notSynchronized
  subst hsz
  have hD := hD0.self (sz := s.heap.size)
  generalize hAe : va_A (mW g z) s.heap.size = A at hD hE ⊢
  have hA : ∀ q : Nat, s.heap.size ≤ q → A q := fun q h => by rw [← hAe]; exact Or.inr h
  have hS : va_S A s.heap s.heap [] := va_S.rf
  have hl := lv_entry ([.ref (n_h g), .int (nI n)]) (n := 3) (Nat.le_of_ble_eq_true rfl)
  rw [lg_entry_eq]
  generalize (lg_sl ([.ref (n_h g), .int (nI n)]) ++ List.replicate (3 - (lg_sl ([.ref (n_h g), .int (nI n)])).length) Slot.unset).toArray = ls at hl ⊢
  have hl : lv_has ls 3 [(0, .ref (n_h g)), (1, .int (nI n))] := hl
  have hm := hz.many
  refine lv_aload_n hx hb d_M_make_0 rfl (lv_at hl 0 rfl) ?_
  refine lv_iload_n hx hb d_M_make_1 rfl (lv_at hl 1 rfl) ?_
  refine vp_callSi (zrV (n := 1) (As := [.int (nI n)]) (rest := []) ⟨hx, hb, hml, hown, hk⟩ (c_M_room_ok l D t0 g z s.heap.size n hn hz) zk507 zk509 ks_M_room zk5 kc_M_room ⟨rfl, by decide, by decide, by decide⟩ rfl rfl ⟨Nat.le_of_ble_eq_true rfl, Nat.le_of_ble_eq_true rfl⟩ ⟨hP, hK, hD, hS, hA, hE⟩ (va_recv hK hP (ci := 2) (q0 := 0) rfl rfl) rfl hl.1 rfl (Nat.le_of_ble_eq_true rfl) d_M_make_2 ⟨Nat.le_of_ble_eq_true rfl, Nat.le_of_ble_eq_true rfl⟩).run (fun r hr1 => ?_)
  obtain ⟨k, hroom, rfl⟩ := hr1
  have hk5 : k ≤ 512 := by
    rcases hroom with ⟨e0, -⟩ | ⟨e1, e2, -, -⟩ <;> omega
  refine lv_istore_n (lv' := [(2, .int (nI (16 * k))), (0, .ref (n_h g)), (1, .int (nI n))]) hx hb d_M_make_5 rfl hl (by decide) rfl (fun ls hl => ?_)
  refine lv_iload_n hx hb d_M_make_6 rfl (lv_at hl 0 rfl) ?_
  refine lv_if_ne (tgt := 12) hx hb d_M_make_7 (by decide) (fun h => ?_) (fun h => ?_)
  rotate_left 1
  · rw [show (0 : Int32) = nI 0 from rfl, nI_eq (by omega) (by omega)] at h
    refine lv_iconst (v := nI 0) hx hb d_M_make_10 (by decide) ?_
    exact W.iret hx hb hr (fun t ht hW => ⟨⟨_, z, rfl, ⟨k, hroom, by rw [show k = 0 by omega], Or.inl ⟨by omega, rfl⟩⟩, by rw [ht]; exact hP, va_K.moved hW.alike hK, hD⟩, hS.F ht⟩) hS.2.2 d_M_make_11
  rw [show (0 : Int32) = nI 0 from rfl, nI_eq (by omega) (by omega)] at h
  refine lv_aload_n hx hb d_M_make_12 rfl (lv_at hl 1 rfl) ?_
  refine va_get (D := D) (ci := 2) (v := .ref (n_aP g)) (C := RM) (T := TM) (N := 12) hx hb hk inM hown hK hP 0 rfl rfl 2 (by decide) (hk _ zk455) (fun _ h9 => h9) rfl d_M_make_13 ?_
  refine lv_aload_n hx hb d_M_make_16 rfl (lv_at hl 1 rfl) ?_
  refine va_get (D := D) (ci := 2) (v := .int (nI (m_many z))) (C := RM) (T := TM) (N := 12) hx hb hk inM hown hK hP 0 rfl rfl 8 (by decide) (hk _ zk461) (fun _ h9 => h9) rfl d_M_make_17 ?_
  refine lv_iload_n hx hb d_M_make_20 rfl (lv_at hl 0 rfl) ?_
  refine va_iast hx hb hK hP hD hS 2 1 rfl rfl (vp_in_nI (by omega) (by decide)) d_M_make_21 (fun H locs hP hD hS => ?_)
  rw [zh_upd (by omega)] at hP hD
  have hP : va_P D zcl (mW g (mmk (m_err z) (m_oct z) (va_up (m_pl z) (m_many z) (16 * k)) (m_sz z) (m_sta z) (m_sin z) (m_rea z) (m_fnd z) (m_many z) (m_made z) (m_backs z) (m_lm z))) H := hP
  have hD : va_D A (mW g (mmk (m_err z) (m_oct z) (va_up (m_pl z) (m_many z) (16 * k)) (m_sz z) (m_sta z) (m_sin z) (m_rea z) (m_fnd z) (m_many z) (m_made z) (m_backs z) (m_lm z))) := hD
  refine lv_aload_n hx hb d_M_make_22 rfl (lv_at hl 1 rfl) ?_
  refine va_get (D := D) (ci := 2) (v := .ref (n_aS g)) (C := RM) (T := TM) (N := 12) hx hb hk inM hown hK hP 0 rfl rfl 3 (by decide) (hk _ zk456) (fun _ h9 => h9) rfl d_M_make_23 ?_
  refine lv_aload_n hx hb d_M_make_26 rfl (lv_at hl 1 rfl) ?_
  refine va_get (D := D) (ci := 2) (v := .int (nI (m_many z))) (C := RM) (T := TM) (N := 12) hx hb hk inM hown hK hP 0 rfl rfl 8 (by decide) (hk _ zk461) (fun _ h9 => h9) rfl d_M_make_27 ?_
  refine lv_iload_n hx hb d_M_make_30 rfl (lv_at hl 2 rfl) ?_
  refine va_iast hx hb hK hP hD hS 3 2 rfl rfl (vp_in_nI (by omega) (by decide)) d_M_make_31 (fun H locs hP hD hS => ?_)
  rw [zh_upd (by omega)] at hP hD
  have hP : va_P D zcl (mW g (mmk (m_err z) (m_oct z) (va_up (m_pl z) (m_many z) (16 * k)) (va_up (m_sz z) (m_many z) n) (m_sta z) (m_sin z) (m_rea z) (m_fnd z) (m_many z) (m_made z) (m_backs z) (m_lm z))) H := hP
  have hD : va_D A (mW g (mmk (m_err z) (m_oct z) (va_up (m_pl z) (m_many z) (16 * k)) (va_up (m_sz z) (m_many z) n) (m_sta z) (m_sin z) (m_rea z) (m_fnd z) (m_many z) (m_made z) (m_backs z) (m_lm z))) := hD
  refine lv_aload_n hx hb d_M_make_32 rfl (lv_at hl 1 rfl) ?_
  refine va_get (D := D) (ci := 2) (v := .ref (n_aT g)) (C := RM) (T := TM) (N := 12) hx hb hk inM hown hK hP 0 rfl rfl 4 (by decide) (hk _ zk457) (fun _ h9 => h9) rfl d_M_make_33 ?_
  refine lv_aload_n hx hb d_M_make_36 rfl (lv_at hl 1 rfl) ?_
  refine lv_dup hx hb d_M_make_37 rfl ?_
  refine va_get (D := D) (ci := 2) (v := .int (nI (m_many z))) (C := RM) (T := TM) (N := 12) hx hb hk inM hown hK hP 0 rfl rfl 8 (by decide) (hk _ zk461) (fun _ h9 => h9) rfl d_M_make_38 ?_
  refine lv_dup_x1 hx hb d_M_make_41 rfl rfl ?_
  refine lv_iconst (v := nI 1) hx hb d_M_make_42 (by decide) ?_
  refine lv_iadd hx hb d_M_make_43 ?_
  refine zh_t (show (nI (m_many z) + nI 1) = nI (m_many z + 1) from nI_add _ _) ?_
  refine va_put (D := D) (ci := 2) (v := .int (nI (m_many z + 1))) (ty := .int) (C := RM) (T := TM) (N := 12) hx hb hk inM tyM okM nmM hown hK hP hD hS 0 rfl rfl 8 (by decide) (hk _ zk461) (fun _ h9 => h9) rfl (by decide +kernel) rfl rfl (Nat.le_of_ble_eq_true rfl) d_M_make_44 (fun H locs hP hD hS => ?_)
  have hP : va_P D zcl (mW g (mmk (m_err z) (m_oct z) (va_up (m_pl z) (m_many z) (16 * k)) (va_up (m_sz z) (m_many z) n) (m_sta z) (m_sin z) (m_rea z) (m_fnd z) (m_many z + 1) (m_made z) (m_backs z) (m_lm z))) H := hP
  have hD : va_D A (mW g (mmk (m_err z) (m_oct z) (va_up (m_pl z) (m_many z) (16 * k)) (va_up (m_sz z) (m_many z) n) (m_sta z) (m_sin z) (m_rea z) (m_fnd z) (m_many z + 1) (m_made z) (m_backs z) (m_lm z))) := hD
  refine lv_iconst (v := nI 1) hx hb d_M_make_47 (by decide) ?_
  refine va_iast hx hb hK hP hD hS 4 3 rfl rfl (vp_in_nI (by omega) (by decide)) d_M_make_48 (fun H locs hP hD hS => ?_)
  rw [zh_upd (by omega)] at hP hD
  have hP : va_P D zcl (mW g (mmk (m_err z) (m_oct z) (va_up (m_pl z) (m_many z) (16 * k)) (va_up (m_sz z) (m_many z) n) (va_up (m_sta z) (m_many z) 1) (m_sin z) (m_rea z) (m_fnd z) (m_many z + 1) (m_made z) (m_backs z) (m_lm z))) H := hP
  have hD : va_D A (mW g (mmk (m_err z) (m_oct z) (va_up (m_pl z) (m_many z) (16 * k)) (va_up (m_sz z) (m_many z) n) (va_up (m_sta z) (m_many z) 1) (m_sin z) (m_rea z) (m_fnd z) (m_many z + 1) (m_made z) (m_backs z) (m_lm z))) := hD
  refine lv_aload_n hx hb d_M_make_49 rfl (lv_at hl 1 rfl) ?_
  refine lv_dup hx hb d_M_make_50 rfl ?_
  refine va_get (D := D) (ci := 2) (v := .int (nI (m_made z))) (C := RM) (T := TM) (N := 12) hx hb hk inM hown hK hP 0 rfl rfl 9 (by decide) (hk _ zk462) (fun _ h9 => h9) rfl d_M_make_51 ?_
  refine lv_iconst (v := nI 1) hx hb d_M_make_54 (by decide) ?_
  refine lv_iadd hx hb d_M_make_55 ?_
  refine zh_t (show (nI (m_made z) + nI 1) = nI (m_made z + 1) from nI_add _ _) ?_
  refine va_put (D := D) (ci := 2) (v := .int (nI (m_made z + 1))) (ty := .int) (C := RM) (T := TM) (N := 12) hx hb hk inM tyM okM nmM hown hK hP hD hS 0 rfl rfl 9 (by decide) (hk _ zk462) (fun _ h9 => h9) rfl (by decide +kernel) rfl rfl (Nat.le_of_ble_eq_true rfl) d_M_make_56 (fun H locs hP hD hS => ?_)
  have hP : va_P D zcl (mW g (mmk (m_err z) (m_oct z) (va_up (m_pl z) (m_many z) (16 * k)) (va_up (m_sz z) (m_many z) n) (va_up (m_sta z) (m_many z) 1) (m_sin z) (m_rea z) (m_fnd z) (m_many z + 1) (m_made z + 1) (m_backs z) (m_lm z))) H := hP
  have hD : va_D A (mW g (mmk (m_err z) (m_oct z) (va_up (m_pl z) (m_many z) (16 * k)) (va_up (m_sz z) (m_many z) n) (va_up (m_sta z) (m_many z) 1) (m_sin z) (m_rea z) (m_fnd z) (m_many z + 1) (m_made z + 1) (m_backs z) (m_lm z))) := hD
  refine lv_iload_n hx hb d_M_make_59 rfl (lv_at hl 0 rfl) ?_
  exact W.iret hx hb hr (fun t ht hW => ⟨⟨_, (mmk (m_err z) (m_oct z) (va_up (m_pl z) (m_many z) (16 * k)) (va_up (m_sz z) (m_many z) n) (va_up (m_sta z) (m_many z) 1) (m_sin z) (m_rea z) (m_fnd z) (m_many z + 1) (m_made z + 1) (m_backs z) (m_lm z)), rfl, ⟨k, hroom, rfl, Or.inr ⟨by omega, rfl⟩⟩, by rw [ht]; exact hP, va_K.moved hW.alike hK, hD⟩, hS.F ht⟩) hS.2.2 d_M_make_60
end
section
def mof (z : MT) (v : Int32) (y k : Nat) : Prop := m_sta z k = y ∧ (m_pl z k : Int) ≤ v.toInt ∧ v.toInt < m_pl z k + m_sz z k
def mlead (z : MT) (v : Int32) (k : Nat) : Prop := m_sta z k = 1 ∧ (v = nI (m_pl z k) ∨ ((m_pl z k : Int) ≤ v.toInt ∧ v.toInt < m_pl z k + m_sz z k))
theorem mh_word {a b c d : Nat} (ha : a < 256) (hb : b < 256) (hc : c < 256) (hd : d < 256) :
    ((nI a ||| (nI b <<< (nI 8 &&& 31))) ||| (nI c <<< (nI 16 &&& 31))) ||| (nI d <<< (nI 24 &&& 31)) = nI (a + 256 * b + 65536 * c + 16777216 * d) := by
  have s1 : nI b <<< (nI 8 &&& 31) = nI (b * 2 ^ 8) := pk_shlN _ 8 (by decide) (by omega)
  have s2 : nI c <<< (nI 16 &&& 31) = nI (c * 2 ^ 16) := pk_shlN _ 16 (by decide) (by omega)
  have s3 : nI d <<< (nI 24 &&& 31) = nI (d * 2 ^ 24) := pk_shlN _ 24 (by decide) (by omega)
  rw [s1, s2, s3, zh_or (by omega), zh_or (by omega), zh_or (by omega)]
  congr 1
  omega
theorem mh_shr {n : Nat} (hn : n < 2 ^ 32) (j : Nat) (hj : j < 4) : (nI n >>> (nI (8 * j) &&& 31)) &&& nI 255 = nI (n / 2 ^ (8 * j) % 256) := by
  have hs : ∀ k, k < 32 → ((nI k &&& 31).toBitVec.smod 32).toNat = k := by decide +kernel
  have h1 : ((nI n >>> (nI (8 * j) &&& 31)) &&& nI 255) = nI ((nI n >>> (nI (8 * j) &&& 31)).toBitVec.toNat % 2 ^ 8) := pk_and _ 8 (by decide)
  rw [h1]
  refine congrArg nI ?_
  have e : ((nI n >>> (nI (8 * j) &&& 31)).toBitVec) = BitVec.sshiftRight (BitVec.ofNat 32 n) (8 * j) := by
    show (BitVec.sshiftRight' (BitVec.ofNat 32 n) ((nI (8 * j) &&& 31).toBitVec.smod 32)) = _
    rw [BitVec.sshiftRight', hs _ (by omega)]
  rw [e]
  apply Nat.eq_of_testBit_eq
  intro i
  rw [Nat.testBit_mod_two_pow, show (256 : Nat) = 2 ^ 8 from rfl, Nat.testBit_mod_two_pow, Nat.testBit_div_two_pow]
  by_cases hi : i < 8
  · simp only [hi, decide_true, Bool.true_and]
    rw [BitVec.testBit_toNat, BitVec.getLsbD_sshiftRight]
    have h32 : i < 32 := by omega
    have h33 : i + 8 * j < 32 := by omega
    simp only [BitVec.getLsbD_ofNat]
    simp [h32, h33, Nat.not_le.mpr h32, Nat.add_comm]
  · simp [hi]
theorem mlead_in {z : MT} {v : Int32} {k : Nat} (hz : mOK z) (hk : k < m_many z) (h : mlead z v k) : (m_pl z k : Int) ≤ v.toInt ∧ v.toInt < m_pl z k + 16 * zc (m_sz z k) := by
  have hat := hz.at hk
  have h1 := zc_ge (m_sz z k)
  have h2 := zc_pos (m_sz z k)
  rcases h.2 with e | ⟨e1, e2⟩
  · rw [e, nI_toInt (by omega)]
    omega
  · omega
theorem mlead_one {z : MT} {v : Int32} {j k : Nat} (hz : mOK z) (hj : j < m_many z) (hk : k < m_many z) (h1 : mlead z v j) (h2 : mlead z v k) : j = k := by
  by_cases e : j = k
  · exact e
  · have a := mlead_in hz hj h1
    have b := mlead_in hz hk h2
    have c := hz.1.2 j k hj hk e
    have d1 := (hz.2.1 j).1 hj
    have d2 := (hz.2.1 k).1 hk
    have c : m_pl z j / 16 + zc (m_sz z j) + 1 ≤ m_pl z k / 16 ∨ m_pl z k / 16 + zc (m_sz z k) + 1 ≤ m_pl z j / 16 := c
    omega
end
section
set_option maxHeartbeats 1000000 in
set_option maxRecDepth 100000 in
theorem c_M_of_ok (l : Launch) (D : va_G) (t0 : Nat) (g : MG) (z : MT) (sz : Nat) (v : Int32) (y : Nat) (hy : y ≤ 2) (hz : mOK z) : Met l y_M_of w_M_of ({ frames := 0, cells := 0, slots := 0, locals := 0 }) (zPre D t0 (mT g) (mW g z) sz [.ref (n_h g), .int v, .int (nI y)]) (vp_Si (fun r => zfst (mof z v y) (m_many z) r)) 0 0 (fun _ => False) := by
  refine Met.ofW (cc := c_M_of) (maxL := 4) (ret := (some .int)) (by decide) rfl ?_
  intro p e s m args below meth c s₁ B hml hv
  obtain ⟨rfl, hsz, hP, hK, hD0, hE⟩ := hv
  have hx := B.exec
  have hb := B.bytes
  have hr := B.returns
  have hts := atoms_spec (ws := w_M_of) B.pre
  have hk : ∀ w ∈ zB, w.before _ s = true := fun w h => hts w (List.mem_cons_of_mem _ h)
  have hown : s.vm.findClass "ZoneHeapModel" = some m.cls := findClass_of_methodNamed B.named
  have hlocks := B.notSynchronized
  subst hsz
  have hD := hD0.self (sz := s.heap.size)
  generalize hAe : va_A (mW g z) s.heap.size = A at hD hE
  have hA : ∀ q : Nat, s.heap.size ≤ q → A q := fun q h => by rw [← hAe]; exact Or.inr h
  have hS : va_S A s.heap s.heap [] := va_S.rf
  have hl := lv_entry ([.ref (n_h g), .int v, .int (nI y)]) (n := 4) (Nat.le_of_ble_eq_true rfl)
  rw [lg_entry_eq]
  generalize (lg_sl ([.ref (n_h g), .int v, .int (nI y)]) ++ List.replicate (4 - (lg_sl ([.ref (n_h g), .int v, .int (nI y)])).length) Slot.unset).toArray = ls at hl ⊢
  have hl : lv_has ls 4 [(0, .ref (n_h g)), (1, .int v), (2, .int (nI y))] := hl
  have hm := hz.many
  refine lv_iconst (v := nI 0) hx hb d_M_of_0 (by decide) ?_
  refine lv_istore_n (lv' := [(3, .int (nI 0)), (0, .ref (n_h g)), (1, .int v), (2, .int (nI y))]) hx hb d_M_of_1 rfl hl (by decide) rfl (fun ls hl => ?_)
  refine zh_loop0 (A := Nat) (fun q ls => lv_has ls 4 [(0, .ref (n_h g)), (1, .int v), (2, .int (nI y)), (3, .int (nI q))] ∧ (q ≤ m_many z) ∧ (∀ j : Nat, j < q → ¬ mof z v y j)) (fun q => m_many z - q) ?_ 0 ⟨lv_sub hl [1, 2, 3, 0] rfl, Nat.zero_le _, fun j hj => absurd hj (Nat.not_lt_zero _)⟩
  rintro i ls ⟨hl, hi, hno⟩ ih
  have hl : lv_has ls 4 [(0, .ref (n_h g)), (1, .int v), (2, .int (nI y)), (3, .int (nI i))] := hl
  have hi : i ≤ m_many z := hi
  have hno : ∀ j : Nat, j < i → ¬ mof z v y j := hno
  refine lv_iload_n hx hb d_M_of_2 rfl (lv_at hl 3 rfl) ?_
  refine lv_aload_n hx hb d_M_of_3 rfl (lv_at hl 0 rfl) ?_
  refine va_get (D := D) (ci := 2) (v := .int (nI (m_many z))) (C := RM) (T := TM) (N := 12) hx hb hk inM hown hK hP 0 rfl rfl 8 (by decide) (hk _ zk461) (fun _ h9 => h9) rfl d_M_of_4 ?_
  refine lv_icmp_ge (tgt := 55) hx hb d_M_of_7 (by decide) (fun h => ?_) (fun h => ?_)
  · rw [nI_leI (by omega) (by omega)] at h
    refine lv_iconst (v := ((-1))) hx hb d_M_of_55 (by decide) ?_
    exact W.iret hx hb hr (fun t ht hW => ⟨_, rfl, Or.inl ⟨rfl, fun k hk => hno k (by omega)⟩, ht⟩) (fun q h => absurd h List.not_mem_nil) d_M_of_56
  rw [nI_leI (by omega) (by omega)] at h
  have hat := hz.at (k := i) (by omega)
  refine lv_aload_n hx hb d_M_of_10 rfl (lv_at hl 0 rfl) ?_
  refine va_get (D := D) (ci := 2) (v := .ref (n_aT g)) (C := RM) (T := TM) (N := 12) hx hb hk inM hown hK hP 0 rfl rfl 4 (by decide) (hk _ zk457) (fun _ h9 => h9) rfl d_M_of_11 ?_
  refine lv_iload_n hx hb d_M_of_14 rfl (lv_at hl 3 rfl) ?_
  refine va_iald hx hb hK hP 4 3 rfl rfl (vp_in_nI (by omega) (by decide)) d_M_of_15 ?_
  refine zh_t (show nI (m_sta z (nI i).toNatClampNeg) = nI (m_sta z i) from by rw [nI_clamp (by omega)]) ?_
  refine lv_iload_n hx hb d_M_of_16 rfl (lv_at hl 2 rfl) ?_
  refine lv_icmp_ne (tgt := 49) hx hb d_M_of_17 (by decide) (fun h2 => ?_) (fun h2 => ?_)
  · rw [nI_eq (by omega) (by omega)] at h2
    refine lv_iinc (lv' := [(3, .int (nI (i + 1))), (0, .ref (n_h g)), (1, .int v), (2, .int (nI y))]) (v := nI (i + 1)) hx hb d_M_of_49 hl (k := 3) rfl (nI_add _ _) (by decide) rfl (fun ls hl => ?_)
    refine lv_goto (tgt := 2) hx hb d_M_of_52 (by decide) ?_
    exact ih (i + 1) ls ⟨lv_sub hl [1, 2, 3, 0] rfl, by omega, lt_s hno (fun q => h2 q.1)⟩ (by show _ < _; (try dsimp only); omega)
  rw [nI_eq (by omega) (by omega)] at h2
  refine lv_iload_n hx hb d_M_of_20 rfl (lv_at hl 1 rfl) ?_
  refine lv_aload_n hx hb d_M_of_21 rfl (lv_at hl 0 rfl) ?_
  refine va_get (D := D) (ci := 2) (v := .ref (n_aP g)) (C := RM) (T := TM) (N := 12) hx hb hk inM hown hK hP 0 rfl rfl 2 (by decide) (hk _ zk455) (fun _ h9 => h9) rfl d_M_of_22 ?_
  refine lv_iload_n hx hb d_M_of_25 rfl (lv_at hl 3 rfl) ?_
  refine va_iald hx hb hK hP 2 1 rfl rfl (vp_in_nI (by omega) (by decide)) d_M_of_26 ?_
  refine zh_t (show nI (m_pl z (nI i).toNatClampNeg) = nI (m_pl z i) from by rw [nI_clamp (by omega)]) ?_
  refine lv_icmp_lt (tgt := 49) hx hb d_M_of_27 (by decide) (fun h3 => ?_) (fun h3 => ?_)
  · rw [Int32.lt_iff_toInt_lt, nI_toInt (by omega)] at h3
    refine lv_iinc (lv' := [(3, .int (nI (i + 1))), (0, .ref (n_h g)), (1, .int v), (2, .int (nI y))]) (v := nI (i + 1)) hx hb d_M_of_49 hl (k := 3) rfl (nI_add _ _) (by decide) rfl (fun ls hl => ?_)
    refine lv_goto (tgt := 2) hx hb d_M_of_52 (by decide) ?_
    exact ih (i + 1) ls ⟨lv_sub hl [1, 2, 3, 0] rfl, by omega, lt_s hno (fun q => absurd q.2.1 (by omega))⟩ (by show _ < _; (try dsimp only); omega)
  rw [Int32.lt_iff_toInt_lt, nI_toInt (by omega)] at h3
  refine lv_iload_n hx hb d_M_of_30 rfl (lv_at hl 1 rfl) ?_
  refine lv_aload_n hx hb d_M_of_31 rfl (lv_at hl 0 rfl) ?_
  refine va_get (D := D) (ci := 2) (v := .ref (n_aP g)) (C := RM) (T := TM) (N := 12) hx hb hk inM hown hK hP 0 rfl rfl 2 (by decide) (hk _ zk455) (fun _ h9 => h9) rfl d_M_of_32 ?_
  refine lv_iload_n hx hb d_M_of_35 rfl (lv_at hl 3 rfl) ?_
  refine va_iald hx hb hK hP 2 1 rfl rfl (vp_in_nI (by omega) (by decide)) d_M_of_36 ?_
  refine zh_t (show nI (m_pl z (nI i).toNatClampNeg) = nI (m_pl z i) from by rw [nI_clamp (by omega)]) ?_
  refine lv_aload_n hx hb d_M_of_37 rfl (lv_at hl 0 rfl) ?_
  refine va_get (D := D) (ci := 2) (v := .ref (n_aS g)) (C := RM) (T := TM) (N := 12) hx hb hk inM hown hK hP 0 rfl rfl 3 (by decide) (hk _ zk456) (fun _ h9 => h9) rfl d_M_of_38 ?_
  refine lv_iload_n hx hb d_M_of_41 rfl (lv_at hl 3 rfl) ?_
  refine va_iald hx hb hK hP 3 2 rfl rfl (vp_in_nI (by omega) (by decide)) d_M_of_42 ?_
  refine zh_t (show nI (m_sz z (nI i).toNatClampNeg) = nI (m_sz z i) from by rw [nI_clamp (by omega)]) ?_
  refine lv_iadd hx hb d_M_of_43 ?_
  refine zh_t (show (nI (m_pl z i) + nI (m_sz z i)) = nI (m_pl z i + m_sz z i) from nI_add _ _) ?_
  refine lv_icmp_ge (tgt := 49) hx hb d_M_of_44 (by decide) (fun h4 => ?_) (fun h4 => ?_)
  · rw [Int32.le_iff_toInt_le, nI_toInt (by omega)] at h4
    refine lv_iinc (lv' := [(3, .int (nI (i + 1))), (0, .ref (n_h g)), (1, .int v), (2, .int (nI y))]) (v := nI (i + 1)) hx hb d_M_of_49 hl (k := 3) rfl (nI_add _ _) (by decide) rfl (fun ls hl => ?_)
    refine lv_goto (tgt := 2) hx hb d_M_of_52 (by decide) ?_
    exact ih (i + 1) ls ⟨lv_sub hl [1, 2, 3, 0] rfl, by omega, lt_s hno (fun q => absurd q.2.2 (by omega))⟩ (by show _ < _; (try dsimp only); omega)
  rw [Int32.le_iff_toInt_le, nI_toInt (by omega)] at h4
  refine lv_iload_n hx hb d_M_of_47 rfl (lv_at hl 3 rfl) ?_
  exact W.iret hx hb hr (fun t ht hW => ⟨_, rfl, Or.inr ⟨i, by omega, rfl, ⟨h2, by omega, by omega⟩, hno⟩, ht⟩) (fun q h => absurd h List.not_mem_nil) d_M_of_48
set_option maxHeartbeats 1000000 in
set_option maxRecDepth 100000 in
theorem c_M_leads_ok (l : Launch) (D : va_G) (t0 : Nat) (g : MG) (z : MT) (sz : Nat) (v : Int32) (hz : mOK z) : Met l y_M_leads w_M_leads ({ frames := 0, cells := 0, slots := 0, locals := 0 }) (zPre D t0 (mT g) (mW g z) sz [.ref (n_h g), .int v]) (vp_Si (fun r => zfst (mlead z v) (m_many z) r)) 0 0 (fun _ => False) := by
  refine Met.ofW (cc := c_M_leads) (maxL := 3) (ret := (some .int)) (by decide) rfl ?_
  intro p e s m args below meth c s₁ B hml hv
  obtain ⟨rfl, hsz, hP, hK, hD0, hE⟩ := hv
  have hx := B.exec
  have hb := B.bytes
  have hr := B.returns
  have hts := atoms_spec (ws := w_M_leads) B.pre
  have hk : ∀ w ∈ zB, w.before _ s = true := fun w h => hts w (List.mem_cons_of_mem _ h)
  have hown : s.vm.findClass "ZoneHeapModel" = some m.cls := findClass_of_methodNamed B.named
  have hlocks := B.notSynchronized
  subst hsz
  have hD := hD0.self (sz := s.heap.size)
  generalize hAe : va_A (mW g z) s.heap.size = A at hD hE
  have hA : ∀ q : Nat, s.heap.size ≤ q → A q := fun q h => by rw [← hAe]; exact Or.inr h
  have hS : va_S A s.heap s.heap [] := va_S.rf
  have hl := lv_entry ([.ref (n_h g), .int v]) (n := 3) (Nat.le_of_ble_eq_true rfl)
  rw [lg_entry_eq]
  generalize (lg_sl ([.ref (n_h g), .int v]) ++ List.replicate (3 - (lg_sl ([.ref (n_h g), .int v])).length) Slot.unset).toArray = ls at hl ⊢
  have hl : lv_has ls 3 [(0, .ref (n_h g)), (1, .int v)] := hl
  have hm := hz.many
  refine lv_iconst (v := nI 0) hx hb d_M_leads_0 (by decide) ?_
  refine lv_istore_n (lv' := [(2, .int (nI 0)), (0, .ref (n_h g)), (1, .int v)]) hx hb d_M_leads_1 rfl hl (by decide) rfl (fun ls hl => ?_)
  refine zh_loop0 (A := Nat) (fun q ls => lv_has ls 3 [(0, .ref (n_h g)), (1, .int v), (2, .int (nI q))] ∧ (q ≤ m_many z) ∧ (∀ j : Nat, j < q → ¬ mlead z v j)) (fun q => m_many z - q) ?_ 0 ⟨lv_sub hl [1, 2, 0] rfl, Nat.zero_le _, fun j hj => absurd hj (Nat.not_lt_zero _)⟩
  rintro i ls ⟨hl, hi, hno⟩ ih
  have hl : lv_has ls 3 [(0, .ref (n_h g)), (1, .int v), (2, .int (nI i))] := hl
  have hi : i ≤ m_many z := hi
  have hno : ∀ j : Nat, j < i → ¬ mlead z v j := hno
  refine lv_iload_n hx hb d_M_leads_2 rfl (lv_at hl 2 rfl) ?_
  refine lv_aload_n hx hb d_M_leads_3 rfl (lv_at hl 0 rfl) ?_
  refine va_get (D := D) (ci := 2) (v := .int (nI (m_many z))) (C := RM) (T := TM) (N := 12) hx hb hk inM hown hK hP 0 rfl rfl 8 (by decide) (hk _ zk461) (fun _ h9 => h9) rfl d_M_leads_4 ?_
  refine lv_icmp_ge (tgt := 65) hx hb d_M_leads_7 (by decide) (fun h => ?_) (fun h => ?_)
  · rw [nI_leI (by omega) (by omega)] at h
    refine lv_iconst (v := ((-1))) hx hb d_M_leads_65 (by decide) ?_
    exact W.iret hx hb hr (fun t ht hW => ⟨_, rfl, Or.inl ⟨rfl, fun k hk => hno k (by omega)⟩, ht⟩) (fun q h => absurd h List.not_mem_nil) d_M_leads_66
  rw [nI_leI (by omega) (by omega)] at h
  have hat := hz.at (k := i) (by omega)
  refine lv_aload_n hx hb d_M_leads_10 rfl (lv_at hl 0 rfl) ?_
  refine va_get (D := D) (ci := 2) (v := .ref (n_aT g)) (C := RM) (T := TM) (N := 12) hx hb hk inM hown hK hP 0 rfl rfl 4 (by decide) (hk _ zk457) (fun _ h9 => h9) rfl d_M_leads_11 ?_
  refine lv_iload_n hx hb d_M_leads_14 rfl (lv_at hl 2 rfl) ?_
  refine va_iald hx hb hK hP 4 3 rfl rfl (vp_in_nI (by omega) (by decide)) d_M_leads_15 ?_
  refine zh_t (show nI (m_sta z (nI i).toNatClampNeg) = nI (m_sta z i) from by rw [nI_clamp (by omega)]) ?_
  refine lv_iconst (v := nI 1) hx hb d_M_leads_16 (by decide) ?_
  refine lv_icmp_ne (tgt := 59) hx hb d_M_leads_17 (by decide) (fun h2 => ?_) (fun h2 => ?_)
  · rw [nI_eq (by omega) (by omega)] at h2
    refine lv_iinc (lv' := [(2, .int (nI (i + 1))), (0, .ref (n_h g)), (1, .int v)]) (v := nI (i + 1)) hx hb d_M_leads_59 hl (k := 2) rfl (nI_add _ _) (by decide) rfl (fun ls hl => ?_)
    refine lv_goto (tgt := 2) hx hb d_M_leads_62 (by decide) ?_
    exact ih (i + 1) ls ⟨lv_sub hl [1, 2, 0] rfl, by omega, lt_s hno (fun q => h2 q.1)⟩ (by show _ < _; (try dsimp only); omega)
  rw [nI_eq (by omega) (by omega)] at h2
  refine lv_iload_n hx hb d_M_leads_20 rfl (lv_at hl 1 rfl) ?_
  refine lv_aload_n hx hb d_M_leads_21 rfl (lv_at hl 0 rfl) ?_
  refine va_get (D := D) (ci := 2) (v := .ref (n_aP g)) (C := RM) (T := TM) (N := 12) hx hb hk inM hown hK hP 0 rfl rfl 2 (by decide) (hk _ zk455) (fun _ h9 => h9) rfl d_M_leads_22 ?_
  refine lv_iload_n hx hb d_M_leads_25 rfl (lv_at hl 2 rfl) ?_
  refine va_iald hx hb hK hP 2 1 rfl rfl (vp_in_nI (by omega) (by decide)) d_M_leads_26 ?_
  refine zh_t (show nI (m_pl z (nI i).toNatClampNeg) = nI (m_pl z i) from by rw [nI_clamp (by omega)]) ?_
  refine lv_icmp_eq (tgt := 57) hx hb d_M_leads_27 (by decide) (fun h3 => ?_) (fun h3 => ?_)
  · refine lv_iload_n hx hb d_M_leads_57 rfl (lv_at hl 2 rfl) ?_
    exact W.iret hx hb hr (fun t ht hW => ⟨_, rfl, Or.inr ⟨i, by omega, rfl, ⟨h2, Or.inl h3⟩, hno⟩, ht⟩) (fun q h => absurd h List.not_mem_nil) d_M_leads_58
  refine lv_iload_n hx hb d_M_leads_30 rfl (lv_at hl 1 rfl) ?_
  refine lv_aload_n hx hb d_M_leads_31 rfl (lv_at hl 0 rfl) ?_
  refine va_get (D := D) (ci := 2) (v := .ref (n_aP g)) (C := RM) (T := TM) (N := 12) hx hb hk inM hown hK hP 0 rfl rfl 2 (by decide) (hk _ zk455) (fun _ h9 => h9) rfl d_M_leads_32 ?_
  refine lv_iload_n hx hb d_M_leads_35 rfl (lv_at hl 2 rfl) ?_
  refine va_iald hx hb hK hP 2 1 rfl rfl (vp_in_nI (by omega) (by decide)) d_M_leads_36 ?_
  refine zh_t (show nI (m_pl z (nI i).toNatClampNeg) = nI (m_pl z i) from by rw [nI_clamp (by omega)]) ?_
  refine lv_icmp_lt (tgt := 59) hx hb d_M_leads_37 (by decide) (fun h4 => ?_) (fun h4 => ?_)
  · rw [Int32.lt_iff_toInt_lt, nI_toInt (by omega)] at h4
    refine lv_iinc (lv' := [(2, .int (nI (i + 1))), (0, .ref (n_h g)), (1, .int v)]) (v := nI (i + 1)) hx hb d_M_leads_59 hl (k := 2) rfl (nI_add _ _) (by decide) rfl (fun ls hl => ?_)
    refine lv_goto (tgt := 2) hx hb d_M_leads_62 (by decide) ?_
    exact ih (i + 1) ls ⟨lv_sub hl [1, 2, 0] rfl, by omega, lt_s hno (fun q => q.2.elim h3 (fun q => absurd q.1 (by omega)))⟩ (by show _ < _; (try dsimp only); omega)
  rw [Int32.lt_iff_toInt_lt, nI_toInt (by omega)] at h4
  refine lv_iload_n hx hb d_M_leads_40 rfl (lv_at hl 1 rfl) ?_
  refine lv_aload_n hx hb d_M_leads_41 rfl (lv_at hl 0 rfl) ?_
  refine va_get (D := D) (ci := 2) (v := .ref (n_aP g)) (C := RM) (T := TM) (N := 12) hx hb hk inM hown hK hP 0 rfl rfl 2 (by decide) (hk _ zk455) (fun _ h9 => h9) rfl d_M_leads_42 ?_
  refine lv_iload_n hx hb d_M_leads_45 rfl (lv_at hl 2 rfl) ?_
  refine va_iald hx hb hK hP 2 1 rfl rfl (vp_in_nI (by omega) (by decide)) d_M_leads_46 ?_
  refine zh_t (show nI (m_pl z (nI i).toNatClampNeg) = nI (m_pl z i) from by rw [nI_clamp (by omega)]) ?_
  refine lv_aload_n hx hb d_M_leads_47 rfl (lv_at hl 0 rfl) ?_
  refine va_get (D := D) (ci := 2) (v := .ref (n_aS g)) (C := RM) (T := TM) (N := 12) hx hb hk inM hown hK hP 0 rfl rfl 3 (by decide) (hk _ zk456) (fun _ h9 => h9) rfl d_M_leads_48 ?_
  refine lv_iload_n hx hb d_M_leads_51 rfl (lv_at hl 2 rfl) ?_
  refine va_iald hx hb hK hP 3 2 rfl rfl (vp_in_nI (by omega) (by decide)) d_M_leads_52 ?_
  refine zh_t (show nI (m_sz z (nI i).toNatClampNeg) = nI (m_sz z i) from by rw [nI_clamp (by omega)]) ?_
  refine lv_iadd hx hb d_M_leads_53 ?_
  refine zh_t (show (nI (m_pl z i) + nI (m_sz z i)) = nI (m_pl z i + m_sz z i) from nI_add _ _) ?_
  refine lv_icmp_ge (tgt := 59) hx hb d_M_leads_54 (by decide) (fun h5 => ?_) (fun h5 => ?_)
  · rw [Int32.le_iff_toInt_le, nI_toInt (by omega)] at h5
    refine lv_iinc (lv' := [(2, .int (nI (i + 1))), (0, .ref (n_h g)), (1, .int v)]) (v := nI (i + 1)) hx hb d_M_leads_59 hl (k := 2) rfl (nI_add _ _) (by decide) rfl (fun ls hl => ?_)
    refine lv_goto (tgt := 2) hx hb d_M_leads_62 (by decide) ?_
    exact ih (i + 1) ls ⟨lv_sub hl [1, 2, 0] rfl, by omega, lt_s hno (fun q => q.2.elim h3 (fun q => absurd q.2 (by omega)))⟩ (by show _ < _; (try dsimp only); omega)
  rw [Int32.le_iff_toInt_le, nI_toInt (by omega)] at h5
  refine lv_iload_n hx hb d_M_leads_57 rfl (lv_at hl 2 rfl) ?_
  exact W.iret hx hb hr (fun t ht hW => ⟨_, rfl, Or.inr ⟨i, by omega, rfl, ⟨h2, Or.inr ⟨by omega, by omega⟩⟩, hno⟩, ht⟩) (fun q h => absurd h List.not_mem_nil) d_M_leads_58
set_option maxHeartbeats 1000000 in
set_option maxRecDepth 100000 in
theorem c_M_word_ok (l : Launch) (D : va_G) (t0 : Nat) (g : MG) (z : MT) (sz : Nat) (x : Nat) (hz : mOK z) (hx4 : x + 4 ≤ 8192) : Met l y_M_word w_M_word ({ frames := 0, cells := 0, slots := 0, locals := 0 }) (zPre D t0 (mT g) (mW g z) sz [.ref (n_h g), .int (nI x)]) (vp_Si (fun r => r = nI (zwd (m_oct z) x))) 0 0 (fun _ => False) := by
  refine Met.ofW (cc := c_M_word) (maxL := 2) (ret := (some .int)) (by decide) rfl ?_
  intro p e s m args below meth c s₁ B hml hv
  obtain ⟨rfl, hsz, hP, hK, hD0, hE⟩ := hv
  have hx := B.exec
  have hb := B.bytes
  have hr := B.returns
  have hts := atoms_spec (ws := w_M_word) B.pre
  have hk : ∀ w ∈ zB, w.before _ s = true := fun w h => hts w (List.mem_cons_of_mem _ h)
  have hown : s.vm.findClass "ZoneHeapModel" = some m.cls := findClass_of_methodNamed B.named
  have hlocks := B.notSynchronized
  subst hsz
  have hD := hD0.self (sz := s.heap.size)
  generalize hAe : va_A (mW g z) s.heap.size = A at hD hE
  have hA : ∀ q : Nat, s.heap.size ≤ q → A q := fun q h => by rw [← hAe]; exact Or.inr h
  have hS : va_S A s.heap s.heap [] := va_S.rf
  have hl := lv_entry ([.ref (n_h g), .int (nI x)]) (n := 2) (Nat.le_of_ble_eq_true rfl)
  rw [lg_entry_eq]
  generalize (lg_sl ([.ref (n_h g), .int (nI x)]) ++ List.replicate (2 - (lg_sl ([.ref (n_h g), .int (nI x)])).length) Slot.unset).toArray = ls at hl ⊢
  have hl : lv_has ls 2 [(0, .ref (n_h g)), (1, .int (nI x))] := hl
  refine lv_aload_n hx hb d_M_word_0 rfl (lv_at hl 0 rfl) ?_
  refine va_get (D := D) (ci := 2) (v := .ref (n_aO g)) (C := RM) (T := TM) (N := 12) hx hb hk inM hown hK hP 0 rfl rfl 1 (by decide) (hk _ zk454) (fun _ h9 => h9) rfl d_M_word_1 ?_
  refine lv_iload_n hx hb d_M_word_4 rfl (lv_at hl 1 rfl) ?_
  refine va_iald hx hb hK hP 1 0 rfl rfl (vp_in_nI (by omega) (by decide)) d_M_word_5 ?_
  refine zh_t (show nI (m_oct z (nI x).toNatClampNeg) = nI (m_oct z x) from by rw [nI_clamp (by omega)]) ?_
  refine lv_aload_n hx hb d_M_word_6 rfl (lv_at hl 0 rfl) ?_
  refine va_get (D := D) (ci := 2) (v := .ref (n_aO g)) (C := RM) (T := TM) (N := 12) hx hb hk inM hown hK hP 0 rfl rfl 1 (by decide) (hk _ zk454) (fun _ h9 => h9) rfl d_M_word_7 ?_
  refine lv_iload_n hx hb d_M_word_10 rfl (lv_at hl 1 rfl) ?_
  refine lv_iconst (v := nI 1) hx hb d_M_word_11 (by decide) ?_
  refine lv_iadd hx hb d_M_word_12 ?_
  refine zh_t (show (nI x + nI 1) = nI (x + 1) from nI_add _ _) ?_
  refine va_iald hx hb hK hP 1 0 rfl rfl (vp_in_nI (by omega) (by decide)) d_M_word_13 ?_
  refine zh_t (show nI (m_oct z (nI (x + 1)).toNatClampNeg) = nI (m_oct z (x + 1)) from by rw [nI_clamp (by omega)]) ?_
  refine lv_bipush (v := nI 8) hx hb d_M_word_14 (by decide) ?_
  refine lv_ishl hx hb d_M_word_16 ?_
  refine lv_ior hx hb d_M_word_17 ?_
  refine lv_aload_n hx hb d_M_word_18 rfl (lv_at hl 0 rfl) ?_
  refine va_get (D := D) (ci := 2) (v := .ref (n_aO g)) (C := RM) (T := TM) (N := 12) hx hb hk inM hown hK hP 0 rfl rfl 1 (by decide) (hk _ zk454) (fun _ h9 => h9) rfl d_M_word_19 ?_
  refine lv_iload_n hx hb d_M_word_22 rfl (lv_at hl 1 rfl) ?_
  refine lv_iconst (v := nI 2) hx hb d_M_word_23 (by decide) ?_
  refine lv_iadd hx hb d_M_word_24 ?_
  refine zh_t (show (nI x + nI 2) = nI (x + 2) from nI_add _ _) ?_
  refine va_iald hx hb hK hP 1 0 rfl rfl (vp_in_nI (by omega) (by decide)) d_M_word_25 ?_
  refine zh_t (show nI (m_oct z (nI (x + 2)).toNatClampNeg) = nI (m_oct z (x + 2)) from by rw [nI_clamp (by omega)]) ?_
  refine lv_bipush (v := nI 16) hx hb d_M_word_26 (by decide) ?_
  refine lv_ishl hx hb d_M_word_28 ?_
  refine lv_ior hx hb d_M_word_29 ?_
  refine lv_aload_n hx hb d_M_word_30 rfl (lv_at hl 0 rfl) ?_
  refine va_get (D := D) (ci := 2) (v := .ref (n_aO g)) (C := RM) (T := TM) (N := 12) hx hb hk inM hown hK hP 0 rfl rfl 1 (by decide) (hk _ zk454) (fun _ h9 => h9) rfl d_M_word_31 ?_
  refine lv_iload_n hx hb d_M_word_34 rfl (lv_at hl 1 rfl) ?_
  refine lv_iconst (v := nI 3) hx hb d_M_word_35 (by decide) ?_
  refine lv_iadd hx hb d_M_word_36 ?_
  refine zh_t (show (nI x + nI 3) = nI (x + 3) from nI_add _ _) ?_
  refine va_iald hx hb hK hP 1 0 rfl rfl (vp_in_nI (by omega) (by decide)) d_M_word_37 ?_
  refine zh_t (show nI (m_oct z (nI (x + 3)).toNatClampNeg) = nI (m_oct z (x + 3)) from by rw [nI_clamp (by omega)]) ?_
  refine lv_bipush (v := nI 24) hx hb d_M_word_38 (by decide) ?_
  refine lv_ishl hx hb d_M_word_40 ?_
  refine lv_ior hx hb d_M_word_41 ?_
  exact W.iret hx hb hr (fun t ht hW => ⟨_, rfl, mh_word (hz.2.2.1 _) (hz.2.2.1 _) (hz.2.2.1 _) (hz.2.2.1 _), ht⟩) (fun q h => absurd h List.not_mem_nil) d_M_word_42
set_option maxHeartbeats 1000000 in
set_option maxRecDepth 100000 in
theorem c_M_touch_ok (l : Launch) (D : va_G) (t0 : Nat) (g : MG) (z : MT) (sz : Nat) (v : Int32) (hz : mOK z) : Met l y_M_touch w_M_touch ({ frames := 1, cells := 0, slots := 0, locals := 30 }) (zPre D t0 (mT g) (mW g z) sz [.ref (n_h g), .int v]) (va_Qi (fun r u => (r = zb false ∧ u = z ∧ ∀ k : Nat, k < m_many z → mlead z v k → m_rea z k = true) ∨ (∃ k : Nat, k < m_many z ∧ mlead z v k ∧ m_rea z k = false ∧ r = zb true ∧ u = mu_rea z (va_up (m_rea z) k true))) (fun (u : MT) t => zPost D (mT g) (va_A (mW g z) sz) (mW g u) t) (va_A (mW g z) sz)) 0 0 (va_A (mW g z) sz) := by
  refine Met.ofW (cc := c_M_touch) (maxL := 3) (ret := (some .boolean)) (by decide) rfl ?_
  intro p e s m args below meth c s₁ B hml hv
  obtain ⟨rfl, hsz, hP, hK, hD0, hE⟩ := hv
  have hx := B.exec
  have hb := B.bytes
  have hr := B.returns
  have hts := atoms_spec (ws := w_M_touch) B.pre
  have hk : ∀ w ∈ zB, w.before _ s = true := fun w h => hts w (List.mem_cons_of_mem _ h)
  have hown : s.vm.findClass "ZoneHeapModel" = some m.cls := findClass_of_methodNamed B.named
  have hlocks := B.notSynchronized
  subst hsz
  have hD := hD0.self (sz := s.heap.size)
  generalize hAe : va_A (mW g z) s.heap.size = A at hD hE ⊢
  have hA : ∀ q : Nat, s.heap.size ≤ q → A q := fun q h => by rw [← hAe]; exact Or.inr h
  have hS : va_S A s.heap s.heap [] := va_S.rf
  have hl := lv_entry ([.ref (n_h g), .int v]) (n := 3) (Nat.le_of_ble_eq_true rfl)
  rw [lg_entry_eq]
  generalize (lg_sl ([.ref (n_h g), .int v]) ++ List.replicate (3 - (lg_sl ([.ref (n_h g), .int v])).length) Slot.unset).toArray = ls at hl ⊢
  have hl : lv_has ls 3 [(0, .ref (n_h g)), (1, .int v)] := hl
  have hm := hz.many
  refine lv_aload_n hx hb d_M_touch_0 rfl (lv_at hl 0 rfl) ?_
  refine lv_iload_n hx hb d_M_touch_1 rfl (lv_at hl 1 rfl) ?_
  refine vp_callSi (zrV (n := 1) (As := [.int v]) (rest := []) ⟨hx, hb, hml, hown, hk⟩ (c_M_leads_ok l D t0 g z s.heap.size v hz) zk570 zk572 ks_M_leads zk5 kc_M_leads ⟨rfl, by decide, by decide, by decide⟩ rfl rfl ⟨Nat.le_of_ble_eq_true rfl, Nat.le_of_ble_eq_true rfl⟩ ⟨hP, hK, hD, hS, hA, hE⟩ (va_recv hK hP (ci := 2) (q0 := 0) rfl rfl) rfl hl.1 rfl (Nat.le_of_ble_eq_true rfl) d_M_touch_2 ⟨Nat.le_of_ble_eq_true rfl, Nat.le_of_ble_eq_true rfl⟩).run (fun r hr1 => ?_)
  rcases hr1 with ⟨rfl, hno⟩ | ⟨k, hk5, rfl, hl1, hfirst⟩
  · refine lv_istore_n (lv' := [(2, .int ((-1))), (0, .ref (n_h g)), (1, .int v)]) hx hb d_M_touch_5 rfl hl (by decide) rfl (fun ls hl => ?_)
    refine lv_iload_n hx hb d_M_touch_6 rfl (lv_at hl 0 rfl) ?_
    refine lv_if_lt (tgt := 19) hx hb d_M_touch_7 (by decide) (fun h => ?_) (fun h => ?_)
    rotate_left 1
    · exact absurd (by decide) h
    refine lv_iconst (v := nI 0) hx hb d_M_touch_19 (by decide) ?_
    refine zh_t (show nI 0 = zb false from rfl) ?_
    exact W.zret hx hb hr (zh_nar _) (fun t ht hW => ⟨⟨_, z, rfl, Or.inl ⟨rfl, rfl, fun k hk q => absurd q (hno k hk)⟩, by rw [ht]; exact hP, va_K.moved hW.alike hK, hD⟩, hS.F ht⟩) hS.2.2 d_M_touch_20
  refine lv_istore_n (lv' := [(2, .int (nI k)), (0, .ref (n_h g)), (1, .int v)]) hx hb d_M_touch_5 rfl hl (by decide) rfl (fun ls hl => ?_)
  refine lv_iload_n hx hb d_M_touch_6 rfl (lv_at hl 0 rfl) ?_
  refine lv_if_lt (tgt := 19) hx hb d_M_touch_7 (by decide) (fun h => ?_) (fun h => ?_)
  · rw [show (0 : Int32) = nI 0 from rfl, nI_ltI (by omega) (by omega)] at h
    exact absurd h (by omega)
  rw [show (0 : Int32) = nI 0 from rfl, nI_ltI (by omega) (by omega)] at h
  refine lv_aload_n hx hb d_M_touch_10 rfl (lv_at hl 1 rfl) ?_
  refine va_get (D := D) (ci := 2) (v := .ref (n_aR g)) (C := RM) (T := TM) (N := 12) hx hb hk inM hown hK hP 0 rfl rfl 6 (by decide) (hk _ zk459) (fun _ h9 => h9) rfl d_M_touch_11 ?_
  refine lv_iload_n hx hb d_M_touch_14 rfl (lv_at hl 0 rfl) ?_
  refine va_zald hx hb hK hP 6 5 rfl rfl (vp_in_nI (by omega) (by decide)) d_M_touch_15 ?_
  refine zh_t (show zb (m_rea z (nI k).toNatClampNeg) = zb (m_rea z k) from by rw [nI_clamp (by omega)]) ?_
  refine lv_if_eq (tgt := 21) hx hb d_M_touch_16 (by decide) (fun h => ?_) (fun h => ?_)
  rotate_left 1
  · rw [zh_zb] at h
    have h := ts_nf h
    refine lv_iconst (v := nI 0) hx hb d_M_touch_19 (by decide) ?_
    refine zh_t (show nI 0 = zb false from rfl) ?_
    exact W.zret hx hb hr (zh_nar _) (fun t ht hW => ⟨⟨_, z, rfl, Or.inl ⟨rfl, rfl, fun j hj q => by rw [mlead_one hz hj hk5 q hl1]; exact h⟩, by rw [ht]; exact hP, va_K.moved hW.alike hK, hD⟩, hS.F ht⟩) hS.2.2 d_M_touch_20
  rw [zh_zb] at h
  refine lv_aload_n hx hb d_M_touch_21 rfl (lv_at hl 1 rfl) ?_
  refine va_get (D := D) (ci := 2) (v := .ref (n_aR g)) (C := RM) (T := TM) (N := 12) hx hb hk inM hown hK hP 0 rfl rfl 6 (by decide) (hk _ zk459) (fun _ h9 => h9) rfl d_M_touch_22 ?_
  refine lv_iload_n hx hb d_M_touch_25 rfl (lv_at hl 0 rfl) ?_
  refine lv_iconst (v := nI 1) hx hb d_M_touch_26 (by decide) ?_
  refine zh_t (show nI 1 = zb true from rfl) ?_
  refine va_zast hx hb hK hP hD hS 6 5 rfl rfl (vp_in_nI (by omega) (by decide)) d_M_touch_27 (fun H locs hP hD hS => ?_)
  rw [zh_vnar, zh_updB (by omega)] at hP hD
  have hP : va_P D zcl (mW g (mmk (m_err z) (m_oct z) (m_pl z) (m_sz z) (m_sta z) (m_sin z) (va_up (m_rea z) k true) (m_fnd z) (m_many z) (m_made z) (m_backs z) (m_lm z))) H := hP
  have hD : va_D A (mW g (mmk (m_err z) (m_oct z) (m_pl z) (m_sz z) (m_sta z) (m_sin z) (va_up (m_rea z) k true) (m_fnd z) (m_many z) (m_made z) (m_backs z) (m_lm z))) := hD
  refine lv_iconst (v := nI 1) hx hb d_M_touch_28 (by decide) ?_
  refine zh_t (show nI 1 = zb true from rfl) ?_
  exact W.zret hx hb hr (zh_nar _) (fun t ht hW => ⟨⟨_, (mmk (m_err z) (m_oct z) (m_pl z) (m_sz z) (m_sta z) (m_sin z) (va_up (m_rea z) k true) (m_fnd z) (m_many z) (m_made z) (m_backs z) (m_lm z)), rfl, Or.inr ⟨k, hk5, hl1, h, rfl, rfl⟩, by rw [ht]; exact hP, va_K.moved hW.alike hK, hD⟩, hS.F ht⟩) hS.2.2 d_M_touch_29
end
section
def mbad (z : MT) (v : Int32) (y : Nat) : Prop := (¬ (0 ≤ v.toInt ∧ v.toInt ≤ 8188) ∧ y = 1) ∨ ((0 ≤ v.toInt ∧ v.toInt ≤ 8188) ∧ ((y = 2 ∧ ∃ j : Nat, j < 4 ∧ ∀ k : Nat, k < m_many z → ¬ mof z (nI (v.toInt.toNat + j)) 1 k) ∨ (y = 0 ∧ ∀ j : Nat, j < 4 → ∃ k : Nat, k < m_many z ∧ mof z (nI (v.toInt.toNat + j)) 1 k)))
def mzone (z : MT) (v : Int32) (k : Nat) : Prop := (m_pl z k : Int) - 16 ≤ v.toInt ∧ v.toInt < m_pl z k + 16 * zc (m_sz z k) + 16
def mkind (z : MT) (v : Int32) (y : Nat) : Prop :=
  (y = 1 ∧ ∃ k : Nat, k < m_many z ∧ mof z v 1 k) ∨
  ((∀ k : Nat, k < m_many z → ¬ mof z v 1 k) ∧ ((y = 2 ∧ ∃ k : Nat, k < m_many z ∧ mof z v 2 k) ∨
    ((∀ k : Nat, k < m_many z → ¬ mof z v 2 k) ∧ ((y = 3 ∧ ∃ k : Nat, k < m_many z ∧ mzone z v k) ∨ (y = 0 ∧ ∀ k : Nat, k < m_many z → ¬ mzone z v k)))))
set_option maxHeartbeats 1000000 in
set_option maxRecDepth 100000 in
theorem c_M_block_ok (l : Launch) (D : va_G) (t0 : Nat) (g : MG) (z : MT) (sz : Nat) (v : Int32) (hz : mOK z) : Met l y_M_block w_M_block ({ frames := 1, cells := 0, slots := 0, locals := 40 }) (zPre D t0 (mT g) (mW g z) sz [.ref (n_h g), .int v]) (va_Qi (fun r u => (¬ (0 ≤ v.toInt ∧ v.toInt < 8192) ∧ u = mu_err z 1) ∨ ((0 ≤ v.toInt ∧ v.toInt < 8192) ∧ u = mu_err z 0 ∧ ((r = -1 ∧ ∀ k : Nat, k < m_many z → ¬ mof z v 1 k) ∨ ∃ k : Nat, k < m_many z ∧ mof z v 1 k ∧ r = nI (m_pl z k)))) (fun (u : MT) t => zPost D (mT g) (va_A (mW g z) sz) (mW g u) t) (va_A (mW g z) sz)) 0 0 (va_A (mW g z) sz) := by
  refine Met.ofW (cc := c_M_block) (maxL := 3) (ret := (some .int)) (by decide) rfl ?_
  intro p e s m args below meth c s₁ B hml hv
  obtain ⟨rfl, hsz, hP, hK, hD0, hE⟩ := hv
  have hx := B.exec
  have hb := B.bytes
  have hr := B.returns
  have hts := atoms_spec (ws := w_M_block) B.pre
  have hk : ∀ w ∈ zB, w.before _ s = true := fun w h => hts w (List.mem_cons_of_mem _ h)
  have hown : s.vm.findClass "ZoneHeapModel" = some m.cls := findClass_of_methodNamed B.named
  have hlocks := B.notSynchronized
  subst hsz
  have hD := hD0.self (sz := s.heap.size)
  generalize hAe : va_A (mW g z) s.heap.size = A at hD hE ⊢
  have hA : ∀ q : Nat, s.heap.size ≤ q → A q := fun q h => by rw [← hAe]; exact Or.inr h
  have hS : va_S A s.heap s.heap [] := va_S.rf
  have hl := lv_entry ([.ref (n_h g), .int v]) (n := 3) (Nat.le_of_ble_eq_true rfl)
  rw [lg_entry_eq]
  generalize (lg_sl ([.ref (n_h g), .int v]) ++ List.replicate (3 - (lg_sl ([.ref (n_h g), .int v])).length) Slot.unset).toArray = ls at hl ⊢
  have hl : lv_has ls 3 [(0, .ref (n_h g)), (1, .int v)] := hl
  have hm := hz.many
  refine lv_aload_n hx hb d_M_block_0 rfl (lv_at hl 0 rfl) ?_
  refine lv_iload_n hx hb d_M_block_1 rfl (lv_at hl 1 rfl) ?_
  refine lv_if_lt (tgt := 12) hx hb d_M_block_2 (by decide) (fun h => ?_) (fun h => ?_)
  · refine lv_iconst (v := nI 1) hx hb d_M_block_12 (by decide) ?_
    refine zh_t (show nI 1 = zb true from rfl) ?_
    refine lv_goto (tgt := 17) hx hb d_M_block_13 (by decide) ?_
    refine lv_iconst (v := nI 1) hx hb d_M_block_17 (by decide) ?_
    refine zci (zrV (n := 2) (As := [.int (zb true), .int (nI 1)]) (rest := []) ⟨hx, hb, hml, hown, hk⟩ (c_M_fails_ok l D t0 g z s.heap.size true 1) zk499 zk501 ks_M_fails zk5 kc_M_fails ⟨rfl, by decide, by decide, by decide⟩ rfl rfl ⟨Nat.le_of_ble_eq_true rfl, Nat.le_of_ble_eq_true rfl⟩ ⟨hP, hK, hD, hS, hA, hE⟩ (va_recv hK hP (ci := 2) (q0 := 0) rfl rfl) rfl hl.1 rfl (Nat.le_of_ble_eq_true rfl) d_M_block_18 ⟨Nat.le_of_ble_eq_true rfl, Nat.le_of_ble_eq_true rfl⟩) ⟨hP, hK, hD, hS, hA, hE⟩ (fun r u H locs hu hP hK hD hS => ?_)
    obtain ⟨rfl, rfl⟩ := hu
    have hP : va_P D zcl (mW g (mmk 1 (m_oct z) (m_pl z) (m_sz z) (m_sta z) (m_sin z) (m_rea z) (m_fnd z) (m_many z) (m_made z) (m_backs z) (m_lm z))) H := hP
    have hD : va_D A (mW g (mmk 1 (m_oct z) (m_pl z) (m_sz z) (m_sta z) (m_sin z) (m_rea z) (m_fnd z) (m_many z) (m_made z) (m_backs z) (m_lm z))) := hD
    have hK : va_K D zcl (mT g) s := hK
    refine lv_if_eq (tgt := 26) hx hb d_M_block_21 (by decide) (fun h9 => ?_) (fun h9 => ?_)
    · rw [zh_zb] at h9
      exact absurd h9 (by decide)
    refine lv_iconst (v := nI 0) hx hb d_M_block_24 (by decide) ?_
    exact W.iret hx hb hr (fun t ht hW => ⟨⟨_, (mu_err z 1), rfl, Or.inl ⟨by have := zi_lt0 h; omega, rfl⟩, by rw [ht]; exact hP, va_K.moved hW.alike hK, hD⟩, hS.F ht⟩) hS.2.2 d_M_block_25
  obtain ⟨x, hx31, rfl⟩ := nI_of h
  refine lv_iload_n hx hb d_M_block_5 rfl (lv_at hl 1 rfl) ?_
  refine lv_sipush (v := nI 8192) hx hb d_M_block_6 (by decide) ?_
  refine lv_icmp_lt (tgt := 16) hx hb d_M_block_9 (by decide) (fun h => ?_) (fun h => ?_)
  rotate_left 1
  · rw [nI_ltI (by omega) (by omega)] at h
    refine lv_iconst (v := nI 1) hx hb d_M_block_12 (by decide) ?_
    refine zh_t (show nI 1 = zb true from rfl) ?_
    refine lv_goto (tgt := 17) hx hb d_M_block_13 (by decide) ?_
    refine lv_iconst (v := nI 1) hx hb d_M_block_17 (by decide) ?_
    refine zci (zrV (n := 2) (As := [.int (zb true), .int (nI 1)]) (rest := []) ⟨hx, hb, hml, hown, hk⟩ (c_M_fails_ok l D t0 g z s.heap.size true 1) zk499 zk501 ks_M_fails zk5 kc_M_fails ⟨rfl, by decide, by decide, by decide⟩ rfl rfl ⟨Nat.le_of_ble_eq_true rfl, Nat.le_of_ble_eq_true rfl⟩ ⟨hP, hK, hD, hS, hA, hE⟩ (va_recv hK hP (ci := 2) (q0 := 0) rfl rfl) rfl hl.1 rfl (Nat.le_of_ble_eq_true rfl) d_M_block_18 ⟨Nat.le_of_ble_eq_true rfl, Nat.le_of_ble_eq_true rfl⟩) ⟨hP, hK, hD, hS, hA, hE⟩ (fun r u H locs hu hP hK hD hS => ?_)
    obtain ⟨rfl, rfl⟩ := hu
    have hP : va_P D zcl (mW g (mmk 1 (m_oct z) (m_pl z) (m_sz z) (m_sta z) (m_sin z) (m_rea z) (m_fnd z) (m_many z) (m_made z) (m_backs z) (m_lm z))) H := hP
    have hD : va_D A (mW g (mmk 1 (m_oct z) (m_pl z) (m_sz z) (m_sta z) (m_sin z) (m_rea z) (m_fnd z) (m_many z) (m_made z) (m_backs z) (m_lm z))) := hD
    have hK : va_K D zcl (mT g) s := hK
    refine lv_if_eq (tgt := 26) hx hb d_M_block_21 (by decide) (fun h9 => ?_) (fun h9 => ?_)
    · rw [zh_zb] at h9
      exact absurd h9 (by decide)
    refine lv_iconst (v := nI 0) hx hb d_M_block_24 (by decide) ?_
    exact W.iret hx hb hr (fun t ht hW => ⟨⟨_, (mu_err z 1), rfl, Or.inl ⟨by rw [nI_toInt hx31]; omega, rfl⟩, by rw [ht]; exact hP, va_K.moved hW.alike hK, hD⟩, hS.F ht⟩) hS.2.2 d_M_block_25
  rw [nI_ltI (by omega) (by omega)] at h
  refine lv_iconst (v := nI 0) hx hb d_M_block_16 (by decide) ?_
  refine zh_t (show nI 0 = zb false from rfl) ?_
  refine lv_iconst (v := nI 1) hx hb d_M_block_17 (by decide) ?_
  refine zci (zrV (n := 2) (As := [.int (zb false), .int (nI 1)]) (rest := []) ⟨hx, hb, hml, hown, hk⟩ (c_M_fails_ok l D t0 g z s.heap.size false 1) zk499 zk501 ks_M_fails zk5 kc_M_fails ⟨rfl, by decide, by decide, by decide⟩ rfl rfl ⟨Nat.le_of_ble_eq_true rfl, Nat.le_of_ble_eq_true rfl⟩ ⟨hP, hK, hD, hS, hA, hE⟩ (va_recv hK hP (ci := 2) (q0 := 0) rfl rfl) rfl hl.1 rfl (Nat.le_of_ble_eq_true rfl) d_M_block_18 ⟨Nat.le_of_ble_eq_true rfl, Nat.le_of_ble_eq_true rfl⟩) ⟨hP, hK, hD, hS, hA, hE⟩ (fun r u H locs hu hP hK hD hS => ?_)
  obtain ⟨rfl, rfl⟩ := hu
  have hP : va_P D zcl (mW g (mmk 0 (m_oct z) (m_pl z) (m_sz z) (m_sta z) (m_sin z) (m_rea z) (m_fnd z) (m_many z) (m_made z) (m_backs z) (m_lm z))) H := hP
  have hD : va_D A (mW g (mmk 0 (m_oct z) (m_pl z) (m_sz z) (m_sta z) (m_sin z) (m_rea z) (m_fnd z) (m_many z) (m_made z) (m_backs z) (m_lm z))) := hD
  have hK : va_K D zcl (mT g) s := hK
  refine lv_if_eq (tgt := 26) hx hb d_M_block_21 (by decide) (fun h9 => ?_) (fun h9 => ?_)
  rotate_left 1
  · rw [zh_zb] at h9
    exact absurd rfl h9
  refine lv_aload_n hx hb d_M_block_26 rfl (lv_at hl 0 rfl) ?_
  refine lv_iload_n hx hb d_M_block_27 rfl (lv_at hl 1 rfl) ?_
  refine lv_iconst (v := nI 1) hx hb d_M_block_28 (by decide) ?_
  refine vp_callSi (zrV (n := 2) (As := [.int (nI x), .int (nI 1)]) (rest := []) ⟨hx, hb, hml, hown, hk⟩ (c_M_of_ok l D t0 g (mmk 0 (m_oct z) (m_pl z) (m_sz z) (m_sta z) (m_sin z) (m_rea z) (m_fnd z) (m_many z) (m_made z) (m_backs z) (m_lm z)) H.size (nI x) 1 (by decide) hz) zk538 zk540 ks_M_of zk5 kc_M_of ⟨rfl, by decide, by decide, by decide⟩ rfl rfl ⟨Nat.le_of_ble_eq_true rfl, Nat.le_of_ble_eq_true rfl⟩ ⟨hP, hK, hD, hS, hA, hE⟩ (va_recv hK hP (ci := 2) (q0 := 0) rfl rfl) rfl hl.1 rfl (Nat.le_of_ble_eq_true rfl) d_M_block_29 ⟨Nat.le_of_ble_eq_true rfl, Nat.le_of_ble_eq_true rfl⟩).run (fun r hr1 => ?_)
  have hr1 : zfst (mof z (nI x) 1) (m_many z) r := hr1
  rcases hr1 with ⟨rfl, hno⟩ | ⟨k, hk5, rfl, hl1, hfirst⟩
  · refine lv_istore_n (lv' := [(2, .int ((-1))), (0, .ref (n_h g)), (1, .int (nI x))]) hx hb d_M_block_32 rfl hl (by decide) rfl (fun ls hl => ?_)
    refine lv_iload_n hx hb d_M_block_33 rfl (lv_at hl 0 rfl) ?_
    refine lv_if_ge (tgt := 41) hx hb d_M_block_34 (by decide) (fun h9 => ?_) (fun h9 => ?_)
    · exact absurd h9 (by decide)
    refine lv_iconst (v := ((-1))) hx hb d_M_block_37 (by decide) ?_
    refine lv_goto (tgt := 47) hx hb d_M_block_38 (by decide) ?_
    exact W.iret hx hb hr (fun t ht hW => ⟨⟨_, (mu_err z 0), rfl, Or.inr ⟨by rw [nI_toInt hx31]; omega, rfl, Or.inl ⟨rfl, hno⟩⟩, by rw [ht]; exact hP, va_K.moved hW.alike hK, hD⟩, hS.F ht⟩) hS.2.2 d_M_block_47
  refine lv_istore_n (lv' := [(2, .int (nI k)), (0, .ref (n_h g)), (1, .int (nI x))]) hx hb d_M_block_32 rfl hl (by decide) rfl (fun ls hl => ?_)
  refine lv_iload_n hx hb d_M_block_33 rfl (lv_at hl 0 rfl) ?_
  refine lv_if_ge (tgt := 41) hx hb d_M_block_34 (by decide) (fun h9 => ?_) (fun h9 => ?_)
  rotate_left 1
  · rw [show (0 : Int32) = nI 0 from rfl, nI_leI (by omega) (by omega)] at h9
    exact absurd h9 (by omega)
  rw [show (0 : Int32) = nI 0 from rfl, nI_leI (by omega) (by omega)] at h9
  have hat := hz.at hk5
  refine lv_aload_n hx hb d_M_block_41 rfl (lv_at hl 1 rfl) ?_
  refine va_get (D := D) (ci := 2) (v := .ref (n_aP g)) (C := RM) (T := TM) (N := 12) hx hb hk inM hown hK hP 0 rfl rfl 2 (by decide) (hk _ zk455) (fun _ h9 => h9) rfl d_M_block_42 ?_
  refine lv_iload_n hx hb d_M_block_45 rfl (lv_at hl 0 rfl) ?_
  refine va_iald hx hb hK hP 2 1 rfl rfl (vp_in_nI (by omega) (by decide)) d_M_block_46 ?_
  refine zh_t (show nI (m_pl z (nI k).toNatClampNeg) = nI (m_pl z k) from by rw [nI_clamp (by omega)]) ?_
  exact W.iret hx hb hr (fun t ht hW => ⟨⟨_, (mu_err z 0), rfl, Or.inr ⟨by rw [nI_toInt hx31]; omega, rfl, Or.inr ⟨k, hk5, hl1, rfl⟩⟩, by rw [ht]; exact hP, va_K.moved hW.alike hK, hD⟩, hS.F ht⟩) hS.2.2 d_M_block_47
set_option maxHeartbeats 1000000 in
set_option maxRecDepth 100000 in
theorem c_M_kind_ok (l : Launch) (D : va_G) (t0 : Nat) (g : MG) (z : MT) (sz : Nat) (v : Int32) (hz : mOK z) : Met l y_M_kind w_M_kind ({ frames := 1, cells := 0, slots := 0, locals := 40 }) (zPre D t0 (mT g) (mW g z) sz [.ref (n_h g), .int v]) (va_Qi (fun r u => (¬ (0 ≤ v.toInt ∧ v.toInt < 8192) ∧ u = mu_err z 1) ∨ ((0 ≤ v.toInt ∧ v.toInt < 8192) ∧ u = mu_err z 0 ∧ ∃ y : Nat, mkind z v y ∧ r = nI y)) (fun (u : MT) t => zPost D (mT g) (va_A (mW g z) sz) (mW g u) t) (va_A (mW g z) sz)) 0 0 (va_A (mW g z) sz) := by
  refine Met.ofW (cc := c_M_kind) (maxL := 3) (ret := (some .int)) (by decide) rfl ?_
  intro p e s m args below meth c s₁ B hml hv
  obtain ⟨rfl, hsz, hP, hK, hD0, hE⟩ := hv
  have hx := B.exec
  have hb := B.bytes
  have hr := B.returns
  have hts := atoms_spec (ws := w_M_kind) B.pre
  have hk : ∀ w ∈ zB, w.before _ s = true := fun w h => hts w (List.mem_cons_of_mem _ h)
  have hown : s.vm.findClass "ZoneHeapModel" = some m.cls := findClass_of_methodNamed B.named
  have hlocks := B.notSynchronized
  subst hsz
  have hD := hD0.self (sz := s.heap.size)
  generalize hAe : va_A (mW g z) s.heap.size = A at hD hE ⊢
  have hA : ∀ q : Nat, s.heap.size ≤ q → A q := fun q h => by rw [← hAe]; exact Or.inr h
  have hS : va_S A s.heap s.heap [] := va_S.rf
  have hl := lv_entry ([.ref (n_h g), .int v]) (n := 3) (Nat.le_of_ble_eq_true rfl)
  rw [lg_entry_eq]
  generalize (lg_sl ([.ref (n_h g), .int v]) ++ List.replicate (3 - (lg_sl ([.ref (n_h g), .int v])).length) Slot.unset).toArray = ls at hl ⊢
  have hl : lv_has ls 3 [(0, .ref (n_h g)), (1, .int v)] := hl
  have hm := hz.many
  refine lv_aload_n hx hb d_M_kind_0 rfl (lv_at hl 0 rfl) ?_
  refine lv_iload_n hx hb d_M_kind_1 rfl (lv_at hl 1 rfl) ?_
  refine lv_if_lt (tgt := 12) hx hb d_M_kind_2 (by decide) (fun h => ?_) (fun h => ?_)
  · refine lv_iconst (v := nI 1) hx hb d_M_kind_12 (by decide) ?_
    refine zh_t (show nI 1 = zb true from rfl) ?_
    refine lv_goto (tgt := 17) hx hb d_M_kind_13 (by decide) ?_
    refine lv_iconst (v := nI 1) hx hb d_M_kind_17 (by decide) ?_
    refine zci (zrV (n := 2) (As := [.int (zb true), .int (nI 1)]) (rest := []) ⟨hx, hb, hml, hown, hk⟩ (c_M_fails_ok l D t0 g z s.heap.size true 1) zk499 zk501 ks_M_fails zk5 kc_M_fails ⟨rfl, by decide, by decide, by decide⟩ rfl rfl ⟨Nat.le_of_ble_eq_true rfl, Nat.le_of_ble_eq_true rfl⟩ ⟨hP, hK, hD, hS, hA, hE⟩ (va_recv hK hP (ci := 2) (q0 := 0) rfl rfl) rfl hl.1 rfl (Nat.le_of_ble_eq_true rfl) d_M_kind_18 ⟨Nat.le_of_ble_eq_true rfl, Nat.le_of_ble_eq_true rfl⟩) ⟨hP, hK, hD, hS, hA, hE⟩ (fun r u H locs hu hP hK hD hS => ?_)
    obtain ⟨rfl, rfl⟩ := hu
    have hP : va_P D zcl (mW g (mmk 1 (m_oct z) (m_pl z) (m_sz z) (m_sta z) (m_sin z) (m_rea z) (m_fnd z) (m_many z) (m_made z) (m_backs z) (m_lm z))) H := hP
    have hD : va_D A (mW g (mmk 1 (m_oct z) (m_pl z) (m_sz z) (m_sta z) (m_sin z) (m_rea z) (m_fnd z) (m_many z) (m_made z) (m_backs z) (m_lm z))) := hD
    have hK : va_K D zcl (mT g) s := hK
    refine lv_if_eq (tgt := 26) hx hb d_M_kind_21 (by decide) (fun h9 => ?_) (fun h9 => ?_)
    · rw [zh_zb] at h9
      exact absurd h9 (by decide)
    refine lv_iconst (v := nI 0) hx hb d_M_kind_24 (by decide) ?_
    exact W.iret hx hb hr (fun t ht hW => ⟨⟨_, (mu_err z 1), rfl, Or.inl ⟨by have := zi_lt0 h; omega, rfl⟩, by rw [ht]; exact hP, va_K.moved hW.alike hK, hD⟩, hS.F ht⟩) hS.2.2 d_M_kind_25
  obtain ⟨x, hx31, rfl⟩ := nI_of h
  refine lv_iload_n hx hb d_M_kind_5 rfl (lv_at hl 1 rfl) ?_
  refine lv_sipush (v := nI 8192) hx hb d_M_kind_6 (by decide) ?_
  refine lv_icmp_lt (tgt := 16) hx hb d_M_kind_9 (by decide) (fun h => ?_) (fun h => ?_)
  rotate_left 1
  · rw [nI_ltI (by omega) (by omega)] at h
    refine lv_iconst (v := nI 1) hx hb d_M_kind_12 (by decide) ?_
    refine zh_t (show nI 1 = zb true from rfl) ?_
    refine lv_goto (tgt := 17) hx hb d_M_kind_13 (by decide) ?_
    refine lv_iconst (v := nI 1) hx hb d_M_kind_17 (by decide) ?_
    refine zci (zrV (n := 2) (As := [.int (zb true), .int (nI 1)]) (rest := []) ⟨hx, hb, hml, hown, hk⟩ (c_M_fails_ok l D t0 g z s.heap.size true 1) zk499 zk501 ks_M_fails zk5 kc_M_fails ⟨rfl, by decide, by decide, by decide⟩ rfl rfl ⟨Nat.le_of_ble_eq_true rfl, Nat.le_of_ble_eq_true rfl⟩ ⟨hP, hK, hD, hS, hA, hE⟩ (va_recv hK hP (ci := 2) (q0 := 0) rfl rfl) rfl hl.1 rfl (Nat.le_of_ble_eq_true rfl) d_M_kind_18 ⟨Nat.le_of_ble_eq_true rfl, Nat.le_of_ble_eq_true rfl⟩) ⟨hP, hK, hD, hS, hA, hE⟩ (fun r u H locs hu hP hK hD hS => ?_)
    obtain ⟨rfl, rfl⟩ := hu
    have hP : va_P D zcl (mW g (mmk 1 (m_oct z) (m_pl z) (m_sz z) (m_sta z) (m_sin z) (m_rea z) (m_fnd z) (m_many z) (m_made z) (m_backs z) (m_lm z))) H := hP
    have hD : va_D A (mW g (mmk 1 (m_oct z) (m_pl z) (m_sz z) (m_sta z) (m_sin z) (m_rea z) (m_fnd z) (m_many z) (m_made z) (m_backs z) (m_lm z))) := hD
    have hK : va_K D zcl (mT g) s := hK
    refine lv_if_eq (tgt := 26) hx hb d_M_kind_21 (by decide) (fun h9 => ?_) (fun h9 => ?_)
    · rw [zh_zb] at h9
      exact absurd h9 (by decide)
    refine lv_iconst (v := nI 0) hx hb d_M_kind_24 (by decide) ?_
    exact W.iret hx hb hr (fun t ht hW => ⟨⟨_, (mu_err z 1), rfl, Or.inl ⟨by rw [nI_toInt hx31]; omega, rfl⟩, by rw [ht]; exact hP, va_K.moved hW.alike hK, hD⟩, hS.F ht⟩) hS.2.2 d_M_kind_25
  rw [nI_ltI (by omega) (by omega)] at h
  refine lv_iconst (v := nI 0) hx hb d_M_kind_16 (by decide) ?_
  refine zh_t (show nI 0 = zb false from rfl) ?_
  refine lv_iconst (v := nI 1) hx hb d_M_kind_17 (by decide) ?_
  refine zci (zrV (n := 2) (As := [.int (zb false), .int (nI 1)]) (rest := []) ⟨hx, hb, hml, hown, hk⟩ (c_M_fails_ok l D t0 g z s.heap.size false 1) zk499 zk501 ks_M_fails zk5 kc_M_fails ⟨rfl, by decide, by decide, by decide⟩ rfl rfl ⟨Nat.le_of_ble_eq_true rfl, Nat.le_of_ble_eq_true rfl⟩ ⟨hP, hK, hD, hS, hA, hE⟩ (va_recv hK hP (ci := 2) (q0 := 0) rfl rfl) rfl hl.1 rfl (Nat.le_of_ble_eq_true rfl) d_M_kind_18 ⟨Nat.le_of_ble_eq_true rfl, Nat.le_of_ble_eq_true rfl⟩) ⟨hP, hK, hD, hS, hA, hE⟩ (fun r u H locs hu hP hK hD hS => ?_)
  obtain ⟨rfl, rfl⟩ := hu
  have hP : va_P D zcl (mW g (mmk 0 (m_oct z) (m_pl z) (m_sz z) (m_sta z) (m_sin z) (m_rea z) (m_fnd z) (m_many z) (m_made z) (m_backs z) (m_lm z))) H := hP
  have hD : va_D A (mW g (mmk 0 (m_oct z) (m_pl z) (m_sz z) (m_sta z) (m_sin z) (m_rea z) (m_fnd z) (m_many z) (m_made z) (m_backs z) (m_lm z))) := hD
  have hK : va_K D zcl (mT g) s := hK
  refine lv_if_eq (tgt := 26) hx hb d_M_kind_21 (by decide) (fun h9 => ?_) (fun h9 => ?_)
  rotate_left 1
  · rw [zh_zb] at h9
    exact absurd rfl h9
  refine lv_aload_n hx hb d_M_kind_26 rfl (lv_at hl 0 rfl) ?_
  refine lv_iload_n hx hb d_M_kind_27 rfl (lv_at hl 1 rfl) ?_
  refine lv_iconst (v := nI 1) hx hb d_M_kind_28 (by decide) ?_
  refine vp_callSi (zrV (n := 2) (As := [.int (nI x), .int (nI 1)]) (rest := []) ⟨hx, hb, hml, hown, hk⟩ (c_M_of_ok l D t0 g (mmk 0 (m_oct z) (m_pl z) (m_sz z) (m_sta z) (m_sin z) (m_rea z) (m_fnd z) (m_many z) (m_made z) (m_backs z) (m_lm z)) H.size (nI x) 1 (by decide) hz) zk538 zk540 ks_M_of zk5 kc_M_of ⟨rfl, by decide, by decide, by decide⟩ rfl rfl ⟨Nat.le_of_ble_eq_true rfl, Nat.le_of_ble_eq_true rfl⟩ ⟨hP, hK, hD, hS, hA, hE⟩ (va_recv hK hP (ci := 2) (q0 := 0) rfl rfl) rfl hl.1 rfl (Nat.le_of_ble_eq_true rfl) d_M_kind_29 ⟨Nat.le_of_ble_eq_true rfl, Nat.le_of_ble_eq_true rfl⟩).run (fun r hr1 => ?_)
  have hr1 : zfst (mof z (nI x) 1) (m_many z) r := hr1
  rcases hr1 with ⟨rfl, hno1⟩ | ⟨k, hk5, rfl, hl1, hfirst⟩
  rotate_left 1
  · refine lv_if_lt (tgt := 37) hx hb d_M_kind_32 (by decide) (fun h9 => ?_) (fun h9 => ?_)
    · rw [show (0 : Int32) = nI 0 from rfl, nI_ltI (by omega) (by omega)] at h9
      exact absurd h9 (by omega)
    rw [show (0 : Int32) = nI 0 from rfl, nI_ltI (by omega) (by omega)] at h9
    refine lv_iconst (v := nI 1) hx hb d_M_kind_35 (by decide) ?_
    exact W.iret hx hb hr (fun t ht hW => ⟨⟨_, (mu_err z 0), rfl, Or.inr ⟨by rw [nI_toInt hx31]; omega, rfl, 1, Or.inl ⟨rfl, k, hk5, hl1⟩, rfl⟩, by rw [ht]; exact hP, va_K.moved hW.alike hK, hD⟩, hS.F ht⟩) hS.2.2 d_M_kind_36
  refine lv_if_lt (tgt := 37) hx hb d_M_kind_32 (by decide) (fun h9 => ?_) (fun h9 => ?_)
  rotate_left 1
  · exact absurd (by decide) h9
  refine lv_aload_n hx hb d_M_kind_37 rfl (lv_at hl 0 rfl) ?_
  refine lv_iload_n hx hb d_M_kind_38 rfl (lv_at hl 1 rfl) ?_
  refine lv_iconst (v := nI 2) hx hb d_M_kind_39 (by decide) ?_
  refine vp_callSi (zrV (n := 2) (As := [.int (nI x), .int (nI 2)]) (rest := []) ⟨hx, hb, hml, hown, hk⟩ (c_M_of_ok l D t0 g (mmk 0 (m_oct z) (m_pl z) (m_sz z) (m_sta z) (m_sin z) (m_rea z) (m_fnd z) (m_many z) (m_made z) (m_backs z) (m_lm z)) H.size (nI x) 2 (by decide) hz) zk538 zk540 ks_M_of zk5 kc_M_of ⟨rfl, by decide, by decide, by decide⟩ rfl rfl ⟨Nat.le_of_ble_eq_true rfl, Nat.le_of_ble_eq_true rfl⟩ ⟨hP, hK, hD, hS, hA, hE⟩ (va_recv hK hP (ci := 2) (q0 := 0) rfl rfl) rfl hl.1 rfl (Nat.le_of_ble_eq_true rfl) d_M_kind_40 ⟨Nat.le_of_ble_eq_true rfl, Nat.le_of_ble_eq_true rfl⟩).run (fun r hr1 => ?_)
  have hr1 : zfst (mof z (nI x) 2) (m_many z) r := hr1
  rcases hr1 with ⟨rfl, hno2⟩ | ⟨k, hk5, rfl, hl1, hfirst⟩
  rotate_left 1
  · refine lv_if_lt (tgt := 48) hx hb d_M_kind_43 (by decide) (fun h9 => ?_) (fun h9 => ?_)
    · rw [show (0 : Int32) = nI 0 from rfl, nI_ltI (by omega) (by omega)] at h9
      exact absurd h9 (by omega)
    rw [show (0 : Int32) = nI 0 from rfl, nI_ltI (by omega) (by omega)] at h9
    refine lv_iconst (v := nI 2) hx hb d_M_kind_46 (by decide) ?_
    exact W.iret hx hb hr (fun t ht hW => ⟨⟨_, (mu_err z 0), rfl, Or.inr ⟨by rw [nI_toInt hx31]; omega, rfl, 2, Or.inr ⟨hno1, Or.inl ⟨rfl, k, hk5, hl1⟩⟩, rfl⟩, by rw [ht]; exact hP, va_K.moved hW.alike hK, hD⟩, hS.F ht⟩) hS.2.2 d_M_kind_47
  refine lv_if_lt (tgt := 48) hx hb d_M_kind_43 (by decide) (fun h9 => ?_) (fun h9 => ?_)
  rotate_left 1
  · exact absurd (by decide) h9
  refine lv_iconst (v := nI 0) hx hb d_M_kind_48 (by decide) ?_
  refine lv_istore_n (lv' := [(2, .int (nI 0)), (0, .ref (n_h g)), (1, .int (nI x))]) hx hb d_M_kind_49 rfl hl (by decide) rfl (fun ls hl => ?_)
  refine zh_loop0 (A := Nat) (fun q ls => lv_has ls 3 [(0, .ref (n_h g)), (1, .int (nI x)), (2, .int (nI q))] ∧ (q ≤ m_many z) ∧ (∀ j : Nat, j < q → ¬ mzone z (nI x) j)) (fun q => m_many z - q) ?_ 0 ⟨lv_sub hl [1, 2, 0] rfl, Nat.zero_le _, fun j hj => absurd hj (Nat.not_lt_zero _)⟩
  rintro i ls ⟨hl, hi, hno⟩ ih
  have hl : lv_has ls 3 [(0, .ref (n_h g)), (1, .int (nI x)), (2, .int (nI i))] := hl
  have hi : i ≤ m_many z := hi
  have hno : ∀ j : Nat, j < i → ¬ mzone z (nI x) j := hno
  refine lv_iload_n hx hb d_M_kind_50 rfl (lv_at hl 2 rfl) ?_
  refine lv_aload_n hx hb d_M_kind_51 rfl (lv_at hl 0 rfl) ?_
  refine va_get (D := D) (ci := 2) (v := .int (nI (m_many z))) (C := RM) (T := TM) (N := 12) hx hb hk inM hown hK hP 0 rfl rfl 8 (by decide) (hk _ zk461) (fun _ h9 => h9) rfl d_M_kind_52 ?_
  refine lv_icmp_ge (tgt := 102) hx hb d_M_kind_55 (by decide) (fun h2 => ?_) (fun h2 => ?_)
  · rw [nI_leI (by omega) (by omega)] at h2
    refine lv_iconst (v := nI 0) hx hb d_M_kind_102 (by decide) ?_
    exact W.iret hx hb hr (fun t ht hW => ⟨⟨_, (mu_err z 0), rfl, Or.inr ⟨by rw [nI_toInt hx31]; omega, rfl, 0, Or.inr ⟨hno1, Or.inr ⟨hno2, Or.inr ⟨rfl, fun k hk => hno k (by omega)⟩⟩⟩, rfl⟩, by rw [ht]; exact hP, va_K.moved hW.alike hK, hD⟩, hS.F ht⟩) hS.2.2 d_M_kind_103
  rw [nI_leI (by omega) (by omega)] at h2
  have hat := hz.at (k := i) (by omega)
  refine lv_iload_n hx hb d_M_kind_58 rfl (lv_at hl 1 rfl) ?_
  refine lv_aload_n hx hb d_M_kind_59 rfl (lv_at hl 0 rfl) ?_
  refine va_get (D := D) (ci := 2) (v := .ref (n_aP g)) (C := RM) (T := TM) (N := 12) hx hb hk inM hown hK hP 0 rfl rfl 2 (by decide) (hk _ zk455) (fun _ h9 => h9) rfl d_M_kind_60 ?_
  refine lv_iload_n hx hb d_M_kind_63 rfl (lv_at hl 2 rfl) ?_
  refine va_iald hx hb hK hP 2 1 rfl rfl (vp_in_nI (by omega) (by decide)) d_M_kind_64 ?_
  refine zh_t (show nI (m_pl z (nI i).toNatClampNeg) = nI (m_pl z i) from by rw [nI_clamp (by omega)]) ?_
  refine lv_bipush (v := nI 16) hx hb d_M_kind_65 (by decide) ?_
  refine lv_isub hx hb d_M_kind_67 ?_
  refine zh_t (show (nI (m_pl z i) - nI 16) = nI (m_pl z i - 16) from pk_sub (by omega)) ?_
  refine lv_icmp_lt (tgt := 96) hx hb d_M_kind_68 (by decide) (fun h3 => ?_) (fun h3 => ?_)
  · rw [nI_ltI (by omega) (by omega)] at h3
    refine lv_iinc (lv' := [(2, .int (nI (i + 1))), (0, .ref (n_h g)), (1, .int (nI x))]) (v := nI (i + 1)) hx hb d_M_kind_96 hl (k := 2) rfl (nI_add _ _) (by decide) rfl (fun ls hl => ?_)
    refine lv_goto (tgt := 50) hx hb d_M_kind_99 (by decide) ?_
    exact ih (i + 1) ls ⟨lv_sub hl [1, 2, 0] rfl, by omega, lt_s hno (fun q => by have q1 := q.1; rw [nI_toInt hx31] at q1; omega)⟩ (by show _ < _; (try dsimp only); omega)
  rw [nI_ltI (by omega) (by omega)] at h3
  refine lv_iload_n hx hb d_M_kind_71 rfl (lv_at hl 1 rfl) ?_
  refine lv_aload_n hx hb d_M_kind_72 rfl (lv_at hl 0 rfl) ?_
  refine va_get (D := D) (ci := 2) (v := .ref (n_aP g)) (C := RM) (T := TM) (N := 12) hx hb hk inM hown hK hP 0 rfl rfl 2 (by decide) (hk _ zk455) (fun _ h9 => h9) rfl d_M_kind_73 ?_
  refine lv_iload_n hx hb d_M_kind_76 rfl (lv_at hl 2 rfl) ?_
  refine va_iald hx hb hK hP 2 1 rfl rfl (vp_in_nI (by omega) (by decide)) d_M_kind_77 ?_
  refine zh_t (show nI (m_pl z (nI i).toNatClampNeg) = nI (m_pl z i) from by rw [nI_clamp (by omega)]) ?_
  refine lv_aload_n hx hb d_M_kind_78 rfl (lv_at hl 0 rfl) ?_
  refine va_get (D := D) (ci := 2) (v := .ref (n_aS g)) (C := RM) (T := TM) (N := 12) hx hb hk inM hown hK hP 0 rfl rfl 3 (by decide) (hk _ zk456) (fun _ h9 => h9) rfl d_M_kind_79 ?_
  refine lv_iload_n hx hb d_M_kind_82 rfl (lv_at hl 2 rfl) ?_
  refine va_iald hx hb hK hP 3 2 rfl rfl (vp_in_nI (by omega) (by decide)) d_M_kind_83 ?_
  refine zh_t (show nI (m_sz z (nI i).toNatClampNeg) = nI (m_sz z i) from by rw [nI_clamp (by omega)]) ?_
  refine vp_callSi (zrS (n := 1) (As := [.int (nI (m_sz z i))]) (rest := [.int (nI (m_pl z i)), .int (nI x)]) ⟨hx, hb, hml, hown, hk⟩ (c_M_taken_ok l D t0 (mT g) (mW g (mmk 0 (m_oct z) (m_pl z) (m_sz z) (m_sta z) (m_sin z) (m_rea z) (m_fnd z) (m_many z) (m_made z) (m_backs z) (m_lm z))) H.size (m_sz z i) hat.2.2.1) zk511 zk512 zk5 kc_M_taken ⟨by decide, by decide, by decide⟩ rfl rfl ⟨Nat.le_of_ble_eq_true rfl, Nat.le_of_ble_eq_true rfl⟩ ⟨hP, hK, hD, hS, hA, hE⟩ rfl hl.1 rfl (Nat.le_of_ble_eq_true rfl) d_M_kind_84 ⟨Nat.le_of_ble_eq_true rfl, Nat.le_of_ble_eq_true rfl⟩).run (fun r hr1 => ?_)
  subst hr1
  refine lv_iadd hx hb d_M_kind_87 ?_
  refine zh_t (show (nI (m_pl z i) + nI (16 * zc (m_sz z i))) = nI (m_pl z i + (16 * zc (m_sz z i))) from nI_add _ _) ?_
  refine lv_bipush (v := nI 16) hx hb d_M_kind_88 (by decide) ?_
  refine lv_iadd hx hb d_M_kind_90 ?_
  refine zh_t (show (nI (m_pl z i + (16 * zc (m_sz z i))) + nI 16) = nI ((m_pl z i + (16 * zc (m_sz z i))) + 16) from nI_add _ _) ?_
  refine lv_icmp_ge (tgt := 96) hx hb d_M_kind_91 (by decide) (fun h4 => ?_) (fun h4 => ?_)
  · rw [nI_leI (by omega) (by omega)] at h4
    refine lv_iinc (lv' := [(2, .int (nI (i + 1))), (0, .ref (n_h g)), (1, .int (nI x))]) (v := nI (i + 1)) hx hb d_M_kind_96 hl (k := 2) rfl (nI_add _ _) (by decide) rfl (fun ls hl => ?_)
    refine lv_goto (tgt := 50) hx hb d_M_kind_99 (by decide) ?_
    exact ih (i + 1) ls ⟨lv_sub hl [1, 2, 0] rfl, by omega, lt_s hno (fun q => by have q1 := q.2; rw [nI_toInt hx31] at q1; omega)⟩ (by show _ < _; (try dsimp only); omega)
  rw [nI_leI (by omega) (by omega)] at h4
  refine lv_iconst (v := nI 3) hx hb d_M_kind_94 (by decide) ?_
  exact W.iret hx hb hr (fun t ht hW => ⟨⟨_, (mu_err z 0), rfl, Or.inr ⟨by rw [nI_toInt hx31]; omega, rfl, 3, Or.inr ⟨hno1, Or.inr ⟨hno2, Or.inl ⟨rfl, i, by omega, by constructor <;> (rw [nI_toInt hx31]; omega)⟩⟩⟩, rfl⟩, by rw [ht]; exact hP, va_K.moved hW.alike hK, hD⟩, hS.F ht⟩) hS.2.2 d_M_kind_95
set_option maxHeartbeats 1000000 in
set_option maxRecDepth 100000 in
theorem c_M_bad_ok (l : Launch) (D : va_G) (t0 : Nat) (g : MG) (z : MT) (sz : Nat) (v : Int32) (hz : mOK z) : Met l y_M_bad w_M_bad ({ frames := 1, cells := 0, slots := 0, locals := 40 }) (zPre D t0 (mT g) (mW g z) sz [.ref (n_h g), .int v]) (va_Qi (fun r u => ∃ y : Nat, mbad z v y ∧ r = zb (decide (y ≠ 0)) ∧ u = mu_err z y) (fun (u : MT) t => zPost D (mT g) (va_A (mW g z) sz) (mW g u) t) (va_A (mW g z) sz)) 0 0 (va_A (mW g z) sz) := by
  refine Met.ofW (cc := c_M_bad) (maxL := 3) (ret := (some .boolean)) (by decide) rfl ?_
  intro p e s m args below meth c s₁ B hml hv
  obtain ⟨rfl, hsz, hP, hK, hD0, hE⟩ := hv
  have hx := B.exec
  have hb := B.bytes
  have hr := B.returns
  have hts := atoms_spec (ws := w_M_bad) B.pre
  have hk : ∀ w ∈ zB, w.before _ s = true := fun w h => hts w (List.mem_cons_of_mem _ h)
  have hown : s.vm.findClass "ZoneHeapModel" = some m.cls := findClass_of_methodNamed B.named
  have hlocks := B.notSynchronized
  subst hsz
  have hD := hD0.self (sz := s.heap.size)
  generalize hAe : va_A (mW g z) s.heap.size = A at hD hE ⊢
  have hA : ∀ q : Nat, s.heap.size ≤ q → A q := fun q h => by rw [← hAe]; exact Or.inr h
  have hS : va_S A s.heap s.heap [] := va_S.rf
  have hl := lv_entry ([.ref (n_h g), .int v]) (n := 3) (Nat.le_of_ble_eq_true rfl)
  rw [lg_entry_eq]
  generalize (lg_sl ([.ref (n_h g), .int v]) ++ List.replicate (3 - (lg_sl ([.ref (n_h g), .int v])).length) Slot.unset).toArray = ls at hl ⊢
  have hl : lv_has ls 3 [(0, .ref (n_h g)), (1, .int v)] := hl
  have hm := hz.many
  refine lv_aload_n hx hb d_M_bad_0 rfl (lv_at hl 0 rfl) ?_
  refine lv_iload_n hx hb d_M_bad_1 rfl (lv_at hl 1 rfl) ?_
  refine lv_if_lt (tgt := 12) hx hb d_M_bad_2 (by decide) (fun h => ?_) (fun h => ?_)
  · refine lv_iconst (v := nI 1) hx hb d_M_bad_12 (by decide) ?_
    refine zh_t (show nI 1 = zb true from rfl) ?_
    refine lv_goto (tgt := 17) hx hb d_M_bad_13 (by decide) ?_
    refine lv_iconst (v := nI 1) hx hb d_M_bad_17 (by decide) ?_
    refine zci (zrV (n := 2) (As := [.int (zb true), .int (nI 1)]) (rest := []) ⟨hx, hb, hml, hown, hk⟩ (c_M_fails_ok l D t0 g z s.heap.size true 1) zk499 zk501 ks_M_fails zk5 kc_M_fails ⟨rfl, by decide, by decide, by decide⟩ rfl rfl ⟨Nat.le_of_ble_eq_true rfl, Nat.le_of_ble_eq_true rfl⟩ ⟨hP, hK, hD, hS, hA, hE⟩ (va_recv hK hP (ci := 2) (q0 := 0) rfl rfl) rfl hl.1 rfl (Nat.le_of_ble_eq_true rfl) d_M_bad_18 ⟨Nat.le_of_ble_eq_true rfl, Nat.le_of_ble_eq_true rfl⟩) ⟨hP, hK, hD, hS, hA, hE⟩ (fun r u H locs hu hP hK hD hS => ?_)
    obtain ⟨rfl, rfl⟩ := hu
    have hP : va_P D zcl (mW g (mmk 1 (m_oct z) (m_pl z) (m_sz z) (m_sta z) (m_sin z) (m_rea z) (m_fnd z) (m_many z) (m_made z) (m_backs z) (m_lm z))) H := hP
    have hD : va_D A (mW g (mmk 1 (m_oct z) (m_pl z) (m_sz z) (m_sta z) (m_sin z) (m_rea z) (m_fnd z) (m_many z) (m_made z) (m_backs z) (m_lm z))) := hD
    have hK : va_K D zcl (mT g) s := hK
    refine lv_if_eq (tgt := 26) hx hb d_M_bad_21 (by decide) (fun h9 => ?_) (fun h9 => ?_)
    · rw [zh_zb] at h9
      exact absurd h9 (by decide)
    refine lv_iconst (v := nI 1) hx hb d_M_bad_24 (by decide) ?_
    refine zh_t (show nI 1 = zb true from rfl) ?_
    exact W.zret hx hb hr (zh_nar _) (fun t ht hW => ⟨⟨_, (mu_err z 1), rfl, ⟨1, Or.inl ⟨by have := zi_lt0 h; omega, rfl⟩, rfl, rfl⟩, by rw [ht]; exact hP, va_K.moved hW.alike hK, hD⟩, hS.F ht⟩) hS.2.2 d_M_bad_25
  obtain ⟨x, hx31, rfl⟩ := nI_of h
  refine lv_iload_n hx hb d_M_bad_5 rfl (lv_at hl 1 rfl) ?_
  refine lv_sipush (v := nI 8188) hx hb d_M_bad_6 (by decide) ?_
  refine lv_icmp_le (tgt := 16) hx hb d_M_bad_9 (by decide) (fun h => ?_) (fun h => ?_)
  rotate_left 1
  · rw [nI_leI (by omega) (by omega)] at h
    refine lv_iconst (v := nI 1) hx hb d_M_bad_12 (by decide) ?_
    refine zh_t (show nI 1 = zb true from rfl) ?_
    refine lv_goto (tgt := 17) hx hb d_M_bad_13 (by decide) ?_
    refine lv_iconst (v := nI 1) hx hb d_M_bad_17 (by decide) ?_
    refine zci (zrV (n := 2) (As := [.int (zb true), .int (nI 1)]) (rest := []) ⟨hx, hb, hml, hown, hk⟩ (c_M_fails_ok l D t0 g z s.heap.size true 1) zk499 zk501 ks_M_fails zk5 kc_M_fails ⟨rfl, by decide, by decide, by decide⟩ rfl rfl ⟨Nat.le_of_ble_eq_true rfl, Nat.le_of_ble_eq_true rfl⟩ ⟨hP, hK, hD, hS, hA, hE⟩ (va_recv hK hP (ci := 2) (q0 := 0) rfl rfl) rfl hl.1 rfl (Nat.le_of_ble_eq_true rfl) d_M_bad_18 ⟨Nat.le_of_ble_eq_true rfl, Nat.le_of_ble_eq_true rfl⟩) ⟨hP, hK, hD, hS, hA, hE⟩ (fun r u H locs hu hP hK hD hS => ?_)
    obtain ⟨rfl, rfl⟩ := hu
    have hP : va_P D zcl (mW g (mmk 1 (m_oct z) (m_pl z) (m_sz z) (m_sta z) (m_sin z) (m_rea z) (m_fnd z) (m_many z) (m_made z) (m_backs z) (m_lm z))) H := hP
    have hD : va_D A (mW g (mmk 1 (m_oct z) (m_pl z) (m_sz z) (m_sta z) (m_sin z) (m_rea z) (m_fnd z) (m_many z) (m_made z) (m_backs z) (m_lm z))) := hD
    have hK : va_K D zcl (mT g) s := hK
    refine lv_if_eq (tgt := 26) hx hb d_M_bad_21 (by decide) (fun h9 => ?_) (fun h9 => ?_)
    · rw [zh_zb] at h9
      exact absurd h9 (by decide)
    refine lv_iconst (v := nI 1) hx hb d_M_bad_24 (by decide) ?_
    refine zh_t (show nI 1 = zb true from rfl) ?_
    exact W.zret hx hb hr (zh_nar _) (fun t ht hW => ⟨⟨_, (mu_err z 1), rfl, ⟨1, Or.inl ⟨by rw [nI_toInt hx31]; omega, rfl⟩, rfl, rfl⟩, by rw [ht]; exact hP, va_K.moved hW.alike hK, hD⟩, hS.F ht⟩) hS.2.2 d_M_bad_25
  rw [nI_leI (by omega) (by omega)] at h
  refine lv_iconst (v := nI 0) hx hb d_M_bad_16 (by decide) ?_
  refine zh_t (show nI 0 = zb false from rfl) ?_
  refine lv_iconst (v := nI 1) hx hb d_M_bad_17 (by decide) ?_
  refine zci (zrV (n := 2) (As := [.int (zb false), .int (nI 1)]) (rest := []) ⟨hx, hb, hml, hown, hk⟩ (c_M_fails_ok l D t0 g z s.heap.size false 1) zk499 zk501 ks_M_fails zk5 kc_M_fails ⟨rfl, by decide, by decide, by decide⟩ rfl rfl ⟨Nat.le_of_ble_eq_true rfl, Nat.le_of_ble_eq_true rfl⟩ ⟨hP, hK, hD, hS, hA, hE⟩ (va_recv hK hP (ci := 2) (q0 := 0) rfl rfl) rfl hl.1 rfl (Nat.le_of_ble_eq_true rfl) d_M_bad_18 ⟨Nat.le_of_ble_eq_true rfl, Nat.le_of_ble_eq_true rfl⟩) ⟨hP, hK, hD, hS, hA, hE⟩ (fun r u H locs hu hP hK hD hS => ?_)
  obtain ⟨rfl, rfl⟩ := hu
  have hP : va_P D zcl (mW g (mmk 0 (m_oct z) (m_pl z) (m_sz z) (m_sta z) (m_sin z) (m_rea z) (m_fnd z) (m_many z) (m_made z) (m_backs z) (m_lm z))) H := hP
  have hD : va_D A (mW g (mmk 0 (m_oct z) (m_pl z) (m_sz z) (m_sta z) (m_sin z) (m_rea z) (m_fnd z) (m_many z) (m_made z) (m_backs z) (m_lm z))) := hD
  have hK : va_K D zcl (mT g) s := hK
  refine lv_if_eq (tgt := 26) hx hb d_M_bad_21 (by decide) (fun h9 => ?_) (fun h9 => ?_)
  rotate_left 1
  · rw [zh_zb] at h9
    exact absurd rfl h9
  have hvn : (nI x).toInt.toNat = x := by rw [nI_toInt hx31]; rfl
  have hin : 0 ≤ (nI x).toInt ∧ (nI x).toInt ≤ 8188 := by rw [nI_toInt hx31]; omega
  refine lv_iconst (v := nI 0) hx hb d_M_bad_26 (by decide) ?_
  refine lv_istore_n (lv' := [(2, .int (nI 0)), (0, .ref (n_h g)), (1, .int (nI x))]) hx hb d_M_bad_27 rfl hl (by decide) rfl (fun ls hl => ?_)
  refine lv_iload_n hx hb d_M_bad_28 rfl (lv_at hl 0 rfl) ?_
  refine lv_iconst (v := nI 4) hx hb d_M_bad_29 (by decide) ?_
  refine lv_icmp_ge (tgt := 65) hx hb d_M_bad_30 (by decide) (fun h9 => ?_) (fun h9 => ?_)
  · rw [nI_leI (by omega) (by omega)] at h9
    exact absurd h9 (by omega)
  rw [nI_leI (by omega) (by omega)] at h9
  refine lv_aload_n hx hb d_M_bad_33 rfl (lv_at hl 1 rfl) ?_
  refine lv_aload_n hx hb d_M_bad_34 rfl (lv_at hl 1 rfl) ?_
  refine lv_iload_n hx hb d_M_bad_35 rfl (lv_at hl 2 rfl) ?_
  refine lv_iload_n hx hb d_M_bad_36 rfl (lv_at hl 0 rfl) ?_
  refine lv_iadd hx hb d_M_bad_37 ?_
  refine zh_t (show (nI x + nI 0) = nI (x + 0) from nI_add _ _) ?_
  refine lv_iconst (v := nI 1) hx hb d_M_bad_38 (by decide) ?_
  refine vp_callSi (zrV (n := 2) (As := [.int (nI (x + 0)), .int (nI 1)]) (rest := [.ref (n_h g)]) ⟨hx, hb, hml, hown, hk⟩ (c_M_of_ok l D t0 g (mmk 0 (m_oct z) (m_pl z) (m_sz z) (m_sta z) (m_sin z) (m_rea z) (m_fnd z) (m_many z) (m_made z) (m_backs z) (m_lm z)) H.size (nI (x + 0)) 1 (by decide) hz) zk538 zk540 ks_M_of zk5 kc_M_of ⟨rfl, by decide, by decide, by decide⟩ rfl rfl ⟨Nat.le_of_ble_eq_true rfl, Nat.le_of_ble_eq_true rfl⟩ ⟨hP, hK, hD, hS, hA, hE⟩ (va_recv hK hP (ci := 2) (q0 := 0) rfl rfl) rfl hl.1 rfl (Nat.le_of_ble_eq_true rfl) d_M_bad_39 ⟨Nat.le_of_ble_eq_true rfl, Nat.le_of_ble_eq_true rfl⟩).run (fun r hr1 => ?_)
  have hr1 : zfst (mof z (nI (x + 0)) 1) (m_many z) r := hr1
  rcases hr1 with ⟨rfl, hno⟩ | ⟨k0, hk0, rfl, hl0, hfirst⟩
  · refine lv_if_ge (tgt := 49) hx hb d_M_bad_42 (by decide) (fun h9 => ?_) (fun h9 => ?_)
    · exact absurd h9 (by decide)
    refine lv_iconst (v := nI 1) hx hb d_M_bad_45 (by decide) ?_
    refine zh_t (show nI 1 = zb true from rfl) ?_
    refine lv_goto (tgt := 50) hx hb d_M_bad_46 (by decide) ?_
    refine lv_iconst (v := nI 2) hx hb d_M_bad_50 (by decide) ?_
    refine zci (zrV (n := 2) (As := [.int (zb true), .int (nI 2)]) (rest := []) ⟨hx, hb, hml, hown, hk⟩ (c_M_fails_ok l D t0 g (mmk 0 (m_oct z) (m_pl z) (m_sz z) (m_sta z) (m_sin z) (m_rea z) (m_fnd z) (m_many z) (m_made z) (m_backs z) (m_lm z)) H.size true 2) zk499 zk501 ks_M_fails zk5 kc_M_fails ⟨rfl, by decide, by decide, by decide⟩ rfl rfl ⟨Nat.le_of_ble_eq_true rfl, Nat.le_of_ble_eq_true rfl⟩ ⟨hP, hK, hD, hS, hA, hE⟩ (va_recv hK hP (ci := 2) (q0 := 0) rfl rfl) rfl hl.1 rfl (Nat.le_of_ble_eq_true rfl) d_M_bad_51 ⟨Nat.le_of_ble_eq_true rfl, Nat.le_of_ble_eq_true rfl⟩) ⟨hP, hK, hD, hS, hA, hE⟩ (fun r u H locs hu hP hK hD hS => ?_)
    obtain ⟨rfl, rfl⟩ := hu
    have hP : va_P D zcl (mW g (mmk 2 (m_oct z) (m_pl z) (m_sz z) (m_sta z) (m_sin z) (m_rea z) (m_fnd z) (m_many z) (m_made z) (m_backs z) (m_lm z))) H := hP
    have hD : va_D A (mW g (mmk 2 (m_oct z) (m_pl z) (m_sz z) (m_sta z) (m_sin z) (m_rea z) (m_fnd z) (m_many z) (m_made z) (m_backs z) (m_lm z))) := hD
    have hK : va_K D zcl (mT g) s := hK
    refine lv_if_eq (tgt := 59) hx hb d_M_bad_54 (by decide) (fun h9 => ?_) (fun h9 => ?_)
    · rw [zh_zb] at h9
      exact absurd h9 (by decide)
    refine lv_iconst (v := nI 1) hx hb d_M_bad_57 (by decide) ?_
    refine zh_t (show nI 1 = zb true from rfl) ?_
    exact W.zret hx hb hr (zh_nar _) (fun t ht hW => ⟨⟨_, (mu_err z 2), rfl, ⟨2, Or.inr ⟨hin, Or.inl ⟨rfl, 0, by decide, by rw [hvn]; exact hno⟩⟩, rfl, rfl⟩, by rw [ht]; exact hP, va_K.moved hW.alike hK, hD⟩, hS.F ht⟩) hS.2.2 d_M_bad_58
  refine lv_if_ge (tgt := 49) hx hb d_M_bad_42 (by decide) (fun h9 => ?_) (fun h9 => ?_)
  rotate_left 1
  · rw [show (0 : Int32) = nI 0 from rfl, nI_leI (by omega) (by omega)] at h9
    exact absurd h9 (by omega)
  rw [show (0 : Int32) = nI 0 from rfl, nI_leI (by omega) (by omega)] at h9
  refine lv_iconst (v := nI 0) hx hb d_M_bad_49 (by decide) ?_
  refine zh_t (show nI 0 = zb false from rfl) ?_
  refine lv_iconst (v := nI 2) hx hb d_M_bad_50 (by decide) ?_
  refine zci (zrV (n := 2) (As := [.int (zb false), .int (nI 2)]) (rest := []) ⟨hx, hb, hml, hown, hk⟩ (c_M_fails_ok l D t0 g (mmk 0 (m_oct z) (m_pl z) (m_sz z) (m_sta z) (m_sin z) (m_rea z) (m_fnd z) (m_many z) (m_made z) (m_backs z) (m_lm z)) H.size false 2) zk499 zk501 ks_M_fails zk5 kc_M_fails ⟨rfl, by decide, by decide, by decide⟩ rfl rfl ⟨Nat.le_of_ble_eq_true rfl, Nat.le_of_ble_eq_true rfl⟩ ⟨hP, hK, hD, hS, hA, hE⟩ (va_recv hK hP (ci := 2) (q0 := 0) rfl rfl) rfl hl.1 rfl (Nat.le_of_ble_eq_true rfl) d_M_bad_51 ⟨Nat.le_of_ble_eq_true rfl, Nat.le_of_ble_eq_true rfl⟩) ⟨hP, hK, hD, hS, hA, hE⟩ (fun r u H locs hu hP hK hD hS => ?_)
  obtain ⟨rfl, rfl⟩ := hu
  have hP : va_P D zcl (mW g (mmk 0 (m_oct z) (m_pl z) (m_sz z) (m_sta z) (m_sin z) (m_rea z) (m_fnd z) (m_many z) (m_made z) (m_backs z) (m_lm z))) H := hP
  have hD : va_D A (mW g (mmk 0 (m_oct z) (m_pl z) (m_sz z) (m_sta z) (m_sin z) (m_rea z) (m_fnd z) (m_many z) (m_made z) (m_backs z) (m_lm z))) := hD
  have hK : va_K D zcl (mT g) s := hK
  refine lv_if_eq (tgt := 59) hx hb d_M_bad_54 (by decide) (fun h9 => ?_) (fun h9 => ?_)
  rotate_left 1
  · rw [zh_zb] at h9
    exact absurd rfl h9
  refine lv_iinc (lv' := [(2, .int (nI (0 + 1))), (0, .ref (n_h g)), (1, .int (nI x))]) (v := nI (0 + 1)) hx hb d_M_bad_59 hl (k := 0) rfl (nI_add _ _) (by decide) rfl (fun ls hl => ?_)
  have hl : lv_has ls 3 [(2, .int (nI 1)), (0, .ref (n_h g)), (1, .int (nI x))] := hl
  refine lv_goto (tgt := 28) hx hb d_M_bad_62 (by decide) ?_
  refine lv_iload_n hx hb d_M_bad_28 rfl (lv_at hl 0 rfl) ?_
  refine lv_iconst (v := nI 4) hx hb d_M_bad_29 (by decide) ?_
  refine lv_icmp_ge (tgt := 65) hx hb d_M_bad_30 (by decide) (fun h9 => ?_) (fun h9 => ?_)
  · rw [nI_leI (by omega) (by omega)] at h9
    exact absurd h9 (by omega)
  rw [nI_leI (by omega) (by omega)] at h9
  refine lv_aload_n hx hb d_M_bad_33 rfl (lv_at hl 1 rfl) ?_
  refine lv_aload_n hx hb d_M_bad_34 rfl (lv_at hl 1 rfl) ?_
  refine lv_iload_n hx hb d_M_bad_35 rfl (lv_at hl 2 rfl) ?_
  refine lv_iload_n hx hb d_M_bad_36 rfl (lv_at hl 0 rfl) ?_
  refine lv_iadd hx hb d_M_bad_37 ?_
  refine zh_t (show (nI x + nI 1) = nI (x + 1) from nI_add _ _) ?_
  refine lv_iconst (v := nI 1) hx hb d_M_bad_38 (by decide) ?_
  refine vp_callSi (zrV (n := 2) (As := [.int (nI (x + 1)), .int (nI 1)]) (rest := [.ref (n_h g)]) ⟨hx, hb, hml, hown, hk⟩ (c_M_of_ok l D t0 g (mmk 0 (m_oct z) (m_pl z) (m_sz z) (m_sta z) (m_sin z) (m_rea z) (m_fnd z) (m_many z) (m_made z) (m_backs z) (m_lm z)) H.size (nI (x + 1)) 1 (by decide) hz) zk538 zk540 ks_M_of zk5 kc_M_of ⟨rfl, by decide, by decide, by decide⟩ rfl rfl ⟨Nat.le_of_ble_eq_true rfl, Nat.le_of_ble_eq_true rfl⟩ ⟨hP, hK, hD, hS, hA, hE⟩ (va_recv hK hP (ci := 2) (q0 := 0) rfl rfl) rfl hl.1 rfl (Nat.le_of_ble_eq_true rfl) d_M_bad_39 ⟨Nat.le_of_ble_eq_true rfl, Nat.le_of_ble_eq_true rfl⟩).run (fun r hr1 => ?_)
  have hr1 : zfst (mof z (nI (x + 1)) 1) (m_many z) r := hr1
  rcases hr1 with ⟨rfl, hno⟩ | ⟨k1, hk1, rfl, hl1, hfirst⟩
  · refine lv_if_ge (tgt := 49) hx hb d_M_bad_42 (by decide) (fun h9 => ?_) (fun h9 => ?_)
    · exact absurd h9 (by decide)
    refine lv_iconst (v := nI 1) hx hb d_M_bad_45 (by decide) ?_
    refine zh_t (show nI 1 = zb true from rfl) ?_
    refine lv_goto (tgt := 50) hx hb d_M_bad_46 (by decide) ?_
    refine lv_iconst (v := nI 2) hx hb d_M_bad_50 (by decide) ?_
    refine zci (zrV (n := 2) (As := [.int (zb true), .int (nI 2)]) (rest := []) ⟨hx, hb, hml, hown, hk⟩ (c_M_fails_ok l D t0 g (mmk 0 (m_oct z) (m_pl z) (m_sz z) (m_sta z) (m_sin z) (m_rea z) (m_fnd z) (m_many z) (m_made z) (m_backs z) (m_lm z)) H.size true 2) zk499 zk501 ks_M_fails zk5 kc_M_fails ⟨rfl, by decide, by decide, by decide⟩ rfl rfl ⟨Nat.le_of_ble_eq_true rfl, Nat.le_of_ble_eq_true rfl⟩ ⟨hP, hK, hD, hS, hA, hE⟩ (va_recv hK hP (ci := 2) (q0 := 0) rfl rfl) rfl hl.1 rfl (Nat.le_of_ble_eq_true rfl) d_M_bad_51 ⟨Nat.le_of_ble_eq_true rfl, Nat.le_of_ble_eq_true rfl⟩) ⟨hP, hK, hD, hS, hA, hE⟩ (fun r u H locs hu hP hK hD hS => ?_)
    obtain ⟨rfl, rfl⟩ := hu
    have hP : va_P D zcl (mW g (mmk 2 (m_oct z) (m_pl z) (m_sz z) (m_sta z) (m_sin z) (m_rea z) (m_fnd z) (m_many z) (m_made z) (m_backs z) (m_lm z))) H := hP
    have hD : va_D A (mW g (mmk 2 (m_oct z) (m_pl z) (m_sz z) (m_sta z) (m_sin z) (m_rea z) (m_fnd z) (m_many z) (m_made z) (m_backs z) (m_lm z))) := hD
    have hK : va_K D zcl (mT g) s := hK
    refine lv_if_eq (tgt := 59) hx hb d_M_bad_54 (by decide) (fun h9 => ?_) (fun h9 => ?_)
    · rw [zh_zb] at h9
      exact absurd h9 (by decide)
    refine lv_iconst (v := nI 1) hx hb d_M_bad_57 (by decide) ?_
    refine zh_t (show nI 1 = zb true from rfl) ?_
    exact W.zret hx hb hr (zh_nar _) (fun t ht hW => ⟨⟨_, (mu_err z 2), rfl, ⟨2, Or.inr ⟨hin, Or.inl ⟨rfl, 1, by decide, by rw [hvn]; exact hno⟩⟩, rfl, rfl⟩, by rw [ht]; exact hP, va_K.moved hW.alike hK, hD⟩, hS.F ht⟩) hS.2.2 d_M_bad_58
  refine lv_if_ge (tgt := 49) hx hb d_M_bad_42 (by decide) (fun h9 => ?_) (fun h9 => ?_)
  rotate_left 1
  · rw [show (0 : Int32) = nI 0 from rfl, nI_leI (by omega) (by omega)] at h9
    exact absurd h9 (by omega)
  rw [show (0 : Int32) = nI 0 from rfl, nI_leI (by omega) (by omega)] at h9
  refine lv_iconst (v := nI 0) hx hb d_M_bad_49 (by decide) ?_
  refine zh_t (show nI 0 = zb false from rfl) ?_
  refine lv_iconst (v := nI 2) hx hb d_M_bad_50 (by decide) ?_
  refine zci (zrV (n := 2) (As := [.int (zb false), .int (nI 2)]) (rest := []) ⟨hx, hb, hml, hown, hk⟩ (c_M_fails_ok l D t0 g (mmk 0 (m_oct z) (m_pl z) (m_sz z) (m_sta z) (m_sin z) (m_rea z) (m_fnd z) (m_many z) (m_made z) (m_backs z) (m_lm z)) H.size false 2) zk499 zk501 ks_M_fails zk5 kc_M_fails ⟨rfl, by decide, by decide, by decide⟩ rfl rfl ⟨Nat.le_of_ble_eq_true rfl, Nat.le_of_ble_eq_true rfl⟩ ⟨hP, hK, hD, hS, hA, hE⟩ (va_recv hK hP (ci := 2) (q0 := 0) rfl rfl) rfl hl.1 rfl (Nat.le_of_ble_eq_true rfl) d_M_bad_51 ⟨Nat.le_of_ble_eq_true rfl, Nat.le_of_ble_eq_true rfl⟩) ⟨hP, hK, hD, hS, hA, hE⟩ (fun r u H locs hu hP hK hD hS => ?_)
  obtain ⟨rfl, rfl⟩ := hu
  have hP : va_P D zcl (mW g (mmk 0 (m_oct z) (m_pl z) (m_sz z) (m_sta z) (m_sin z) (m_rea z) (m_fnd z) (m_many z) (m_made z) (m_backs z) (m_lm z))) H := hP
  have hD : va_D A (mW g (mmk 0 (m_oct z) (m_pl z) (m_sz z) (m_sta z) (m_sin z) (m_rea z) (m_fnd z) (m_many z) (m_made z) (m_backs z) (m_lm z))) := hD
  have hK : va_K D zcl (mT g) s := hK
  refine lv_if_eq (tgt := 59) hx hb d_M_bad_54 (by decide) (fun h9 => ?_) (fun h9 => ?_)
  rotate_left 1
  · rw [zh_zb] at h9
    exact absurd rfl h9
  refine lv_iinc (lv' := [(2, .int (nI (1 + 1))), (0, .ref (n_h g)), (1, .int (nI x))]) (v := nI (1 + 1)) hx hb d_M_bad_59 hl (k := 0) rfl (nI_add _ _) (by decide) rfl (fun ls hl => ?_)
  have hl : lv_has ls 3 [(2, .int (nI 2)), (0, .ref (n_h g)), (1, .int (nI x))] := hl
  refine lv_goto (tgt := 28) hx hb d_M_bad_62 (by decide) ?_
  refine lv_iload_n hx hb d_M_bad_28 rfl (lv_at hl 0 rfl) ?_
  refine lv_iconst (v := nI 4) hx hb d_M_bad_29 (by decide) ?_
  refine lv_icmp_ge (tgt := 65) hx hb d_M_bad_30 (by decide) (fun h9 => ?_) (fun h9 => ?_)
  · rw [nI_leI (by omega) (by omega)] at h9
    exact absurd h9 (by omega)
  rw [nI_leI (by omega) (by omega)] at h9
  refine lv_aload_n hx hb d_M_bad_33 rfl (lv_at hl 1 rfl) ?_
  refine lv_aload_n hx hb d_M_bad_34 rfl (lv_at hl 1 rfl) ?_
  refine lv_iload_n hx hb d_M_bad_35 rfl (lv_at hl 2 rfl) ?_
  refine lv_iload_n hx hb d_M_bad_36 rfl (lv_at hl 0 rfl) ?_
  refine lv_iadd hx hb d_M_bad_37 ?_
  refine zh_t (show (nI x + nI 2) = nI (x + 2) from nI_add _ _) ?_
  refine lv_iconst (v := nI 1) hx hb d_M_bad_38 (by decide) ?_
  refine vp_callSi (zrV (n := 2) (As := [.int (nI (x + 2)), .int (nI 1)]) (rest := [.ref (n_h g)]) ⟨hx, hb, hml, hown, hk⟩ (c_M_of_ok l D t0 g (mmk 0 (m_oct z) (m_pl z) (m_sz z) (m_sta z) (m_sin z) (m_rea z) (m_fnd z) (m_many z) (m_made z) (m_backs z) (m_lm z)) H.size (nI (x + 2)) 1 (by decide) hz) zk538 zk540 ks_M_of zk5 kc_M_of ⟨rfl, by decide, by decide, by decide⟩ rfl rfl ⟨Nat.le_of_ble_eq_true rfl, Nat.le_of_ble_eq_true rfl⟩ ⟨hP, hK, hD, hS, hA, hE⟩ (va_recv hK hP (ci := 2) (q0 := 0) rfl rfl) rfl hl.1 rfl (Nat.le_of_ble_eq_true rfl) d_M_bad_39 ⟨Nat.le_of_ble_eq_true rfl, Nat.le_of_ble_eq_true rfl⟩).run (fun r hr1 => ?_)
  have hr1 : zfst (mof z (nI (x + 2)) 1) (m_many z) r := hr1
  rcases hr1 with ⟨rfl, hno⟩ | ⟨k2, hk2, rfl, hl2, hfirst⟩
  · refine lv_if_ge (tgt := 49) hx hb d_M_bad_42 (by decide) (fun h9 => ?_) (fun h9 => ?_)
    · exact absurd h9 (by decide)
    refine lv_iconst (v := nI 1) hx hb d_M_bad_45 (by decide) ?_
    refine zh_t (show nI 1 = zb true from rfl) ?_
    refine lv_goto (tgt := 50) hx hb d_M_bad_46 (by decide) ?_
    refine lv_iconst (v := nI 2) hx hb d_M_bad_50 (by decide) ?_
    refine zci (zrV (n := 2) (As := [.int (zb true), .int (nI 2)]) (rest := []) ⟨hx, hb, hml, hown, hk⟩ (c_M_fails_ok l D t0 g (mmk 0 (m_oct z) (m_pl z) (m_sz z) (m_sta z) (m_sin z) (m_rea z) (m_fnd z) (m_many z) (m_made z) (m_backs z) (m_lm z)) H.size true 2) zk499 zk501 ks_M_fails zk5 kc_M_fails ⟨rfl, by decide, by decide, by decide⟩ rfl rfl ⟨Nat.le_of_ble_eq_true rfl, Nat.le_of_ble_eq_true rfl⟩ ⟨hP, hK, hD, hS, hA, hE⟩ (va_recv hK hP (ci := 2) (q0 := 0) rfl rfl) rfl hl.1 rfl (Nat.le_of_ble_eq_true rfl) d_M_bad_51 ⟨Nat.le_of_ble_eq_true rfl, Nat.le_of_ble_eq_true rfl⟩) ⟨hP, hK, hD, hS, hA, hE⟩ (fun r u H locs hu hP hK hD hS => ?_)
    obtain ⟨rfl, rfl⟩ := hu
    have hP : va_P D zcl (mW g (mmk 2 (m_oct z) (m_pl z) (m_sz z) (m_sta z) (m_sin z) (m_rea z) (m_fnd z) (m_many z) (m_made z) (m_backs z) (m_lm z))) H := hP
    have hD : va_D A (mW g (mmk 2 (m_oct z) (m_pl z) (m_sz z) (m_sta z) (m_sin z) (m_rea z) (m_fnd z) (m_many z) (m_made z) (m_backs z) (m_lm z))) := hD
    have hK : va_K D zcl (mT g) s := hK
    refine lv_if_eq (tgt := 59) hx hb d_M_bad_54 (by decide) (fun h9 => ?_) (fun h9 => ?_)
    · rw [zh_zb] at h9
      exact absurd h9 (by decide)
    refine lv_iconst (v := nI 1) hx hb d_M_bad_57 (by decide) ?_
    refine zh_t (show nI 1 = zb true from rfl) ?_
    exact W.zret hx hb hr (zh_nar _) (fun t ht hW => ⟨⟨_, (mu_err z 2), rfl, ⟨2, Or.inr ⟨hin, Or.inl ⟨rfl, 2, by decide, by rw [hvn]; exact hno⟩⟩, rfl, rfl⟩, by rw [ht]; exact hP, va_K.moved hW.alike hK, hD⟩, hS.F ht⟩) hS.2.2 d_M_bad_58
  refine lv_if_ge (tgt := 49) hx hb d_M_bad_42 (by decide) (fun h9 => ?_) (fun h9 => ?_)
  rotate_left 1
  · rw [show (0 : Int32) = nI 0 from rfl, nI_leI (by omega) (by omega)] at h9
    exact absurd h9 (by omega)
  rw [show (0 : Int32) = nI 0 from rfl, nI_leI (by omega) (by omega)] at h9
  refine lv_iconst (v := nI 0) hx hb d_M_bad_49 (by decide) ?_
  refine zh_t (show nI 0 = zb false from rfl) ?_
  refine lv_iconst (v := nI 2) hx hb d_M_bad_50 (by decide) ?_
  refine zci (zrV (n := 2) (As := [.int (zb false), .int (nI 2)]) (rest := []) ⟨hx, hb, hml, hown, hk⟩ (c_M_fails_ok l D t0 g (mmk 0 (m_oct z) (m_pl z) (m_sz z) (m_sta z) (m_sin z) (m_rea z) (m_fnd z) (m_many z) (m_made z) (m_backs z) (m_lm z)) H.size false 2) zk499 zk501 ks_M_fails zk5 kc_M_fails ⟨rfl, by decide, by decide, by decide⟩ rfl rfl ⟨Nat.le_of_ble_eq_true rfl, Nat.le_of_ble_eq_true rfl⟩ ⟨hP, hK, hD, hS, hA, hE⟩ (va_recv hK hP (ci := 2) (q0 := 0) rfl rfl) rfl hl.1 rfl (Nat.le_of_ble_eq_true rfl) d_M_bad_51 ⟨Nat.le_of_ble_eq_true rfl, Nat.le_of_ble_eq_true rfl⟩) ⟨hP, hK, hD, hS, hA, hE⟩ (fun r u H locs hu hP hK hD hS => ?_)
  obtain ⟨rfl, rfl⟩ := hu
  have hP : va_P D zcl (mW g (mmk 0 (m_oct z) (m_pl z) (m_sz z) (m_sta z) (m_sin z) (m_rea z) (m_fnd z) (m_many z) (m_made z) (m_backs z) (m_lm z))) H := hP
  have hD : va_D A (mW g (mmk 0 (m_oct z) (m_pl z) (m_sz z) (m_sta z) (m_sin z) (m_rea z) (m_fnd z) (m_many z) (m_made z) (m_backs z) (m_lm z))) := hD
  have hK : va_K D zcl (mT g) s := hK
  refine lv_if_eq (tgt := 59) hx hb d_M_bad_54 (by decide) (fun h9 => ?_) (fun h9 => ?_)
  rotate_left 1
  · rw [zh_zb] at h9
    exact absurd rfl h9
  refine lv_iinc (lv' := [(2, .int (nI (2 + 1))), (0, .ref (n_h g)), (1, .int (nI x))]) (v := nI (2 + 1)) hx hb d_M_bad_59 hl (k := 0) rfl (nI_add _ _) (by decide) rfl (fun ls hl => ?_)
  have hl : lv_has ls 3 [(2, .int (nI 3)), (0, .ref (n_h g)), (1, .int (nI x))] := hl
  refine lv_goto (tgt := 28) hx hb d_M_bad_62 (by decide) ?_
  refine lv_iload_n hx hb d_M_bad_28 rfl (lv_at hl 0 rfl) ?_
  refine lv_iconst (v := nI 4) hx hb d_M_bad_29 (by decide) ?_
  refine lv_icmp_ge (tgt := 65) hx hb d_M_bad_30 (by decide) (fun h9 => ?_) (fun h9 => ?_)
  · rw [nI_leI (by omega) (by omega)] at h9
    exact absurd h9 (by omega)
  rw [nI_leI (by omega) (by omega)] at h9
  refine lv_aload_n hx hb d_M_bad_33 rfl (lv_at hl 1 rfl) ?_
  refine lv_aload_n hx hb d_M_bad_34 rfl (lv_at hl 1 rfl) ?_
  refine lv_iload_n hx hb d_M_bad_35 rfl (lv_at hl 2 rfl) ?_
  refine lv_iload_n hx hb d_M_bad_36 rfl (lv_at hl 0 rfl) ?_
  refine lv_iadd hx hb d_M_bad_37 ?_
  refine zh_t (show (nI x + nI 3) = nI (x + 3) from nI_add _ _) ?_
  refine lv_iconst (v := nI 1) hx hb d_M_bad_38 (by decide) ?_
  refine vp_callSi (zrV (n := 2) (As := [.int (nI (x + 3)), .int (nI 1)]) (rest := [.ref (n_h g)]) ⟨hx, hb, hml, hown, hk⟩ (c_M_of_ok l D t0 g (mmk 0 (m_oct z) (m_pl z) (m_sz z) (m_sta z) (m_sin z) (m_rea z) (m_fnd z) (m_many z) (m_made z) (m_backs z) (m_lm z)) H.size (nI (x + 3)) 1 (by decide) hz) zk538 zk540 ks_M_of zk5 kc_M_of ⟨rfl, by decide, by decide, by decide⟩ rfl rfl ⟨Nat.le_of_ble_eq_true rfl, Nat.le_of_ble_eq_true rfl⟩ ⟨hP, hK, hD, hS, hA, hE⟩ (va_recv hK hP (ci := 2) (q0 := 0) rfl rfl) rfl hl.1 rfl (Nat.le_of_ble_eq_true rfl) d_M_bad_39 ⟨Nat.le_of_ble_eq_true rfl, Nat.le_of_ble_eq_true rfl⟩).run (fun r hr1 => ?_)
  have hr1 : zfst (mof z (nI (x + 3)) 1) (m_many z) r := hr1
  rcases hr1 with ⟨rfl, hno⟩ | ⟨k3, hk3, rfl, hl3, hfirst⟩
  · refine lv_if_ge (tgt := 49) hx hb d_M_bad_42 (by decide) (fun h9 => ?_) (fun h9 => ?_)
    · exact absurd h9 (by decide)
    refine lv_iconst (v := nI 1) hx hb d_M_bad_45 (by decide) ?_
    refine zh_t (show nI 1 = zb true from rfl) ?_
    refine lv_goto (tgt := 50) hx hb d_M_bad_46 (by decide) ?_
    refine lv_iconst (v := nI 2) hx hb d_M_bad_50 (by decide) ?_
    refine zci (zrV (n := 2) (As := [.int (zb true), .int (nI 2)]) (rest := []) ⟨hx, hb, hml, hown, hk⟩ (c_M_fails_ok l D t0 g (mmk 0 (m_oct z) (m_pl z) (m_sz z) (m_sta z) (m_sin z) (m_rea z) (m_fnd z) (m_many z) (m_made z) (m_backs z) (m_lm z)) H.size true 2) zk499 zk501 ks_M_fails zk5 kc_M_fails ⟨rfl, by decide, by decide, by decide⟩ rfl rfl ⟨Nat.le_of_ble_eq_true rfl, Nat.le_of_ble_eq_true rfl⟩ ⟨hP, hK, hD, hS, hA, hE⟩ (va_recv hK hP (ci := 2) (q0 := 0) rfl rfl) rfl hl.1 rfl (Nat.le_of_ble_eq_true rfl) d_M_bad_51 ⟨Nat.le_of_ble_eq_true rfl, Nat.le_of_ble_eq_true rfl⟩) ⟨hP, hK, hD, hS, hA, hE⟩ (fun r u H locs hu hP hK hD hS => ?_)
    obtain ⟨rfl, rfl⟩ := hu
    have hP : va_P D zcl (mW g (mmk 2 (m_oct z) (m_pl z) (m_sz z) (m_sta z) (m_sin z) (m_rea z) (m_fnd z) (m_many z) (m_made z) (m_backs z) (m_lm z))) H := hP
    have hD : va_D A (mW g (mmk 2 (m_oct z) (m_pl z) (m_sz z) (m_sta z) (m_sin z) (m_rea z) (m_fnd z) (m_many z) (m_made z) (m_backs z) (m_lm z))) := hD
    have hK : va_K D zcl (mT g) s := hK
    refine lv_if_eq (tgt := 59) hx hb d_M_bad_54 (by decide) (fun h9 => ?_) (fun h9 => ?_)
    · rw [zh_zb] at h9
      exact absurd h9 (by decide)
    refine lv_iconst (v := nI 1) hx hb d_M_bad_57 (by decide) ?_
    refine zh_t (show nI 1 = zb true from rfl) ?_
    exact W.zret hx hb hr (zh_nar _) (fun t ht hW => ⟨⟨_, (mu_err z 2), rfl, ⟨2, Or.inr ⟨hin, Or.inl ⟨rfl, 3, by decide, by rw [hvn]; exact hno⟩⟩, rfl, rfl⟩, by rw [ht]; exact hP, va_K.moved hW.alike hK, hD⟩, hS.F ht⟩) hS.2.2 d_M_bad_58
  refine lv_if_ge (tgt := 49) hx hb d_M_bad_42 (by decide) (fun h9 => ?_) (fun h9 => ?_)
  rotate_left 1
  · rw [show (0 : Int32) = nI 0 from rfl, nI_leI (by omega) (by omega)] at h9
    exact absurd h9 (by omega)
  rw [show (0 : Int32) = nI 0 from rfl, nI_leI (by omega) (by omega)] at h9
  refine lv_iconst (v := nI 0) hx hb d_M_bad_49 (by decide) ?_
  refine zh_t (show nI 0 = zb false from rfl) ?_
  refine lv_iconst (v := nI 2) hx hb d_M_bad_50 (by decide) ?_
  refine zci (zrV (n := 2) (As := [.int (zb false), .int (nI 2)]) (rest := []) ⟨hx, hb, hml, hown, hk⟩ (c_M_fails_ok l D t0 g (mmk 0 (m_oct z) (m_pl z) (m_sz z) (m_sta z) (m_sin z) (m_rea z) (m_fnd z) (m_many z) (m_made z) (m_backs z) (m_lm z)) H.size false 2) zk499 zk501 ks_M_fails zk5 kc_M_fails ⟨rfl, by decide, by decide, by decide⟩ rfl rfl ⟨Nat.le_of_ble_eq_true rfl, Nat.le_of_ble_eq_true rfl⟩ ⟨hP, hK, hD, hS, hA, hE⟩ (va_recv hK hP (ci := 2) (q0 := 0) rfl rfl) rfl hl.1 rfl (Nat.le_of_ble_eq_true rfl) d_M_bad_51 ⟨Nat.le_of_ble_eq_true rfl, Nat.le_of_ble_eq_true rfl⟩) ⟨hP, hK, hD, hS, hA, hE⟩ (fun r u H locs hu hP hK hD hS => ?_)
  obtain ⟨rfl, rfl⟩ := hu
  have hP : va_P D zcl (mW g (mmk 0 (m_oct z) (m_pl z) (m_sz z) (m_sta z) (m_sin z) (m_rea z) (m_fnd z) (m_many z) (m_made z) (m_backs z) (m_lm z))) H := hP
  have hD : va_D A (mW g (mmk 0 (m_oct z) (m_pl z) (m_sz z) (m_sta z) (m_sin z) (m_rea z) (m_fnd z) (m_many z) (m_made z) (m_backs z) (m_lm z))) := hD
  have hK : va_K D zcl (mT g) s := hK
  refine lv_if_eq (tgt := 59) hx hb d_M_bad_54 (by decide) (fun h9 => ?_) (fun h9 => ?_)
  rotate_left 1
  · rw [zh_zb] at h9
    exact absurd rfl h9
  refine lv_iinc (lv' := [(2, .int (nI (3 + 1))), (0, .ref (n_h g)), (1, .int (nI x))]) (v := nI (3 + 1)) hx hb d_M_bad_59 hl (k := 0) rfl (nI_add _ _) (by decide) rfl (fun ls hl => ?_)
  have hl : lv_has ls 3 [(2, .int (nI 4)), (0, .ref (n_h g)), (1, .int (nI x))] := hl
  refine lv_goto (tgt := 28) hx hb d_M_bad_62 (by decide) ?_
  refine lv_iload_n hx hb d_M_bad_28 rfl (lv_at hl 0 rfl) ?_
  refine lv_iconst (v := nI 4) hx hb d_M_bad_29 (by decide) ?_
  refine lv_icmp_ge (tgt := 65) hx hb d_M_bad_30 (by decide) (fun h9 => ?_) (fun h9 => ?_)
  rotate_left 1
  · rw [nI_leI (by omega) (by omega)] at h9
    exact absurd h9 (by omega)
  rw [nI_leI (by omega) (by omega)] at h9
  refine lv_iconst (v := nI 0) hx hb d_M_bad_65 (by decide) ?_
  refine zh_t (show nI 0 = zb false from rfl) ?_
  exact W.zret hx hb hr (zh_nar _) (fun t ht hW => ⟨⟨_, (mu_err z 0), rfl, ⟨0, Or.inr ⟨hin, Or.inr ⟨rfl, fun j hj => by rw [hvn]; rcases (show j = 0 ∨ j = 1 ∨ j = 2 ∨ j = 3 by omega) with rfl | rfl | rfl | rfl; (exact ⟨k0, hk0, hl0⟩); (exact ⟨k1, hk1, hl1⟩); (exact ⟨k2, hk2, hl2⟩); (exact ⟨k3, hk3, hl3⟩)⟩⟩, rfl, rfl⟩, by rw [ht]; exact hP, va_K.moved hW.alike hK, hD⟩, hS.F ht⟩) hS.2.2 d_M_bad_66
end
section
set_option maxHeartbeats 1000000 in
set_option maxRecDepth 100000 in
theorem c_M_read_ok (l : Launch) (D : va_G) (t0 : Nat) (g : MG) (z : MT) (sz : Nat) (v : Int32) (hz : mOK z) : Met l y_M_read w_M_read ({ frames := 2, cells := 0, slots := 0, locals := 70 }) (zPre D t0 (mT g) (mW g z) sz [.ref (n_h g), .int v]) (va_Qi (fun r u => ∃ y : Nat, mbad z v y ∧ u = mu_err z y ∧ (y = 0 → r = nI (zwd (m_oct z) v.toInt.toNat))) (fun (u : MT) t => zPost D (mT g) (va_A (mW g z) sz) (mW g u) t) (va_A (mW g z) sz)) 0 0 (va_A (mW g z) sz) := by
  refine Met.ofW (cc := c_M_read) (maxL := 2) (ret := (some .int)) (by decide) rfl ?_
  intro p e s m args below meth c s₁ B hml hv
  obtain ⟨rfl, hsz, hP, hK, hD0, hE⟩ := hv
  have hx := B.exec
  have hb := B.bytes
  have hr := B.returns
  have hts := atoms_spec (ws := w_M_read) B.pre
  have hk : ∀ w ∈ zB, w.before _ s = true := fun w h => hts w (List.mem_cons_of_mem _ h)
  have hown : s.vm.findClass "ZoneHeapModel" = some m.cls := findClass_of_methodNamed B.named
  have hlocks := B.notSynchronized
  subst hsz
  have hD := hD0.self (sz := s.heap.size)
  generalize hAe : va_A (mW g z) s.heap.size = A at hD hE ⊢
  have hA : ∀ q : Nat, s.heap.size ≤ q → A q := fun q h => by rw [← hAe]; exact Or.inr h
  have hS : va_S A s.heap s.heap [] := va_S.rf
  have hl := lv_entry ([.ref (n_h g), .int v]) (n := 2) (Nat.le_of_ble_eq_true rfl)
  rw [lg_entry_eq]
  generalize (lg_sl ([.ref (n_h g), .int v]) ++ List.replicate (2 - (lg_sl ([.ref (n_h g), .int v])).length) Slot.unset).toArray = ls at hl ⊢
  have hl : lv_has ls 2 [(0, .ref (n_h g)), (1, .int v)] := hl
  refine lv_aload_n hx hb d_M_read_0 rfl (lv_at hl 0 rfl) ?_
  refine lv_iload_n hx hb d_M_read_1 rfl (lv_at hl 1 rfl) ?_
  refine zci (zrV (n := 1) (As := [.int v]) (rest := []) ⟨hx, hb, hml, hown, hk⟩ (c_M_bad_ok l D t0 g z s.heap.size v hz) zk550 zk552 ks_M_bad zk5 kc_M_bad ⟨rfl, by decide, by decide, by decide⟩ rfl rfl ⟨Nat.le_of_ble_eq_true rfl, Nat.le_of_ble_eq_true rfl⟩ ⟨hP, hK, hD, hS, hA, hE⟩ (va_recv hK hP (ci := 2) (q0 := 0) rfl rfl) rfl hl.1 rfl (Nat.le_of_ble_eq_true rfl) d_M_read_2 ⟨Nat.le_of_ble_eq_true rfl, Nat.le_of_ble_eq_true rfl⟩) ⟨hP, hK, hD, hS, hA, hE⟩ (fun r u H locs hu hP hK hD hS => ?_)
  obtain ⟨y, hy, rfl, rfl⟩ := hu
  have hP : va_P D zcl (mW g (mmk y (m_oct z) (m_pl z) (m_sz z) (m_sta z) (m_sin z) (m_rea z) (m_fnd z) (m_many z) (m_made z) (m_backs z) (m_lm z))) H := hP
  have hD : va_D A (mW g (mmk y (m_oct z) (m_pl z) (m_sz z) (m_sta z) (m_sin z) (m_rea z) (m_fnd z) (m_many z) (m_made z) (m_backs z) (m_lm z))) := hD
  have hK : va_K D zcl (mT g) s := hK
  refine lv_if_eq (tgt := 12) hx hb d_M_read_5 (by decide) (fun h => ?_) (fun h => ?_)
  rotate_left 1
  · rw [zh_zb] at h
    have h := of_decide_eq_true (ts_nf h)
    refine lv_iconst (v := nI 0) hx hb d_M_read_8 (by decide) ?_
    refine lv_goto (tgt := 17) hx hb d_M_read_9 (by decide) ?_
    exact W.iret hx hb hr (fun t ht hW => ⟨⟨_, (mu_err z y), rfl, ⟨y, hy, rfl, fun q => absurd q h⟩, by rw [ht]; exact hP, va_K.moved hW.alike hK, hD⟩, hS.F ht⟩) hS.2.2 d_M_read_17
  rw [zh_zb] at h
  have hy0 : y = 0 := Decidable.byContradiction (of_decide_eq_false h)
  have hx4 : ∃ x : Nat, v = nI x ∧ x + 4 ≤ 8192 := by
    rcases hy with ⟨-, q⟩ | ⟨q, -⟩
    · omega
    · exact ⟨v.toInt.toNat, Int32.toInt_inj.mp (by rw [nI_toInt (by omega)]; omega), by omega⟩
  obtain ⟨x, rfl, hx4⟩ := hx4
  have hvn : (nI x).toInt.toNat = x := by rw [nI_toInt (by omega)]; rfl
  refine lv_aload_n hx hb d_M_read_12 rfl (lv_at hl 0 rfl) ?_
  refine lv_iload_n hx hb d_M_read_13 rfl (lv_at hl 1 rfl) ?_
  refine vp_callSi (zrV (n := 1) (As := [.int (nI x)]) (rest := []) ⟨hx, hb, hml, hown, hk⟩ (c_M_word_ok l D t0 g (mmk y (m_oct z) (m_pl z) (m_sz z) (m_sta z) (m_sin z) (m_rea z) (m_fnd z) (m_many z) (m_made z) (m_backs z) (m_lm z)) H.size x hz hx4) zk558 zk560 ks_M_word zk5 kc_M_word ⟨rfl, by decide, by decide, by decide⟩ rfl rfl ⟨Nat.le_of_ble_eq_true rfl, Nat.le_of_ble_eq_true rfl⟩ ⟨hP, hK, hD, hS, hA, hE⟩ (va_recv hK hP (ci := 2) (q0 := 0) rfl rfl) rfl hl.1 rfl (Nat.le_of_ble_eq_true rfl) d_M_read_14 ⟨Nat.le_of_ble_eq_true rfl, Nat.le_of_ble_eq_true rfl⟩).run (fun r hr1 => ?_)
  exact W.iret hx hb hr (fun t ht hW => ⟨⟨_, (mu_err z y), rfl, ⟨y, hy, rfl, fun _ => by rw [hvn]; exact hr1⟩, by rw [ht]; exact hP, va_K.moved hW.alike hK, hD⟩, hS.F ht⟩) hS.2.2 d_M_read_17
def mq_wr (z : MT) (x n : Nat) : MT := (mmk 0 (zq_wr (m_oct z) x n) (m_pl z) (m_sz z) (m_sta z) (m_sin z) (m_rea z) (m_fnd z) (m_many z) (m_made z) (m_backs z) (m_lm z))
set_option maxHeartbeats 1000000 in
set_option maxRecDepth 100000 in
theorem c_M_write_ok (l : Launch) (D : va_G) (t0 : Nat) (g : MG) (z : MT) (sz : Nat) (v v2 : Int32) (hz : mOK z) : Met l y_M_write w_M_write ({ frames := 2, cells := 0, slots := 0, locals := 70 }) (zPre D t0 (mT g) (mW g z) sz [.ref (n_h g), .int v, .int v2]) (va_Qv (fun u => ∃ y : Nat, mbad z v y ∧ ((y ≠ 0 ∧ u = mu_err z y) ∨ (y = 0 ∧ u = mq_wr z v.toInt.toNat v2.toBitVec.toNat))) (fun (u : MT) t => zPost D (mT g) (va_A (mW g z) sz) (mW g u) t) (va_A (mW g z) sz)) 0 0 (va_A (mW g z) sz) := by
  refine Met.ofW (cc := c_M_write) (maxL := 4) (ret := none) (by decide) rfl ?_
  intro p e s m args below meth c s₁ B hml hv
  obtain ⟨rfl, hsz, hP, hK, hD0, hE⟩ := hv
  have hx := B.exec
  have hb := B.bytes
  have hr := B.returns
  have hts := atoms_spec (ws := w_M_write) B.pre
  have hk : ∀ w ∈ zB, w.before _ s = true := fun w h => hts w (List.mem_cons_of_mem _ h)
  have hown : s.vm.findClass "ZoneHeapModel" = some m.cls := findClass_of_methodNamed B.named
  have hlocks := B.notSynchronized
  subst hsz
  have hD := hD0.self (sz := s.heap.size)
  generalize hAe : va_A (mW g z) s.heap.size = A at hD hE ⊢
  have hA : ∀ q : Nat, s.heap.size ≤ q → A q := fun q h => by rw [← hAe]; exact Or.inr h
  have hS : va_S A s.heap s.heap [] := va_S.rf
  have hl := lv_entry ([.ref (n_h g), .int v, .int v2]) (n := 4) (Nat.le_of_ble_eq_true rfl)
  rw [lg_entry_eq]
  generalize (lg_sl ([.ref (n_h g), .int v, .int v2]) ++ List.replicate (4 - (lg_sl ([.ref (n_h g), .int v, .int v2])).length) Slot.unset).toArray = ls at hl ⊢
  have hl : lv_has ls 4 [(0, .ref (n_h g)), (1, .int v), (2, .int v2)] := hl
  refine lv_aload_n hx hb d_M_write_0 rfl (lv_at hl 0 rfl) ?_
  refine lv_iload_n hx hb d_M_write_1 rfl (lv_at hl 1 rfl) ?_
  refine zci (zrV (n := 1) (As := [.int v]) (rest := []) ⟨hx, hb, hml, hown, hk⟩ (c_M_bad_ok l D t0 g z s.heap.size v hz) zk550 zk552 ks_M_bad zk5 kc_M_bad ⟨rfl, by decide, by decide, by decide⟩ rfl rfl ⟨Nat.le_of_ble_eq_true rfl, Nat.le_of_ble_eq_true rfl⟩ ⟨hP, hK, hD, hS, hA, hE⟩ (va_recv hK hP (ci := 2) (q0 := 0) rfl rfl) rfl hl.1 rfl (Nat.le_of_ble_eq_true rfl) d_M_write_2 ⟨Nat.le_of_ble_eq_true rfl, Nat.le_of_ble_eq_true rfl⟩) ⟨hP, hK, hD, hS, hA, hE⟩ (fun r u H locs hu hP hK hD hS => ?_)
  obtain ⟨y, hy, rfl, rfl⟩ := hu
  have hP : va_P D zcl (mW g (mmk y (m_oct z) (m_pl z) (m_sz z) (m_sta z) (m_sin z) (m_rea z) (m_fnd z) (m_many z) (m_made z) (m_backs z) (m_lm z))) H := hP
  have hD : va_D A (mW g (mmk y (m_oct z) (m_pl z) (m_sz z) (m_sta z) (m_sin z) (m_rea z) (m_fnd z) (m_many z) (m_made z) (m_backs z) (m_lm z))) := hD
  have hK : va_K D zcl (mT g) s := hK
  refine lv_if_eq (tgt := 9) hx hb d_M_write_5 (by decide) (fun h => ?_) (fun h => ?_)
  rotate_left 1
  · rw [zh_zb] at h
    have h := of_decide_eq_true (ts_nf h)
    exact W.vret hx hb hr (fun t ht hW => ⟨⟨(mu_err z y), rfl, ⟨y, hy, Or.inl ⟨h, rfl⟩⟩, by rw [ht]; exact hP, va_K.moved hW.alike hK, hD⟩, hS.F ht⟩) hS.2.2 d_M_write_8
  rw [zh_zb] at h
  have hy0 : y = 0 := Decidable.byContradiction (of_decide_eq_false h)
  have hx4 : ∃ x : Nat, v = nI x ∧ x + 4 ≤ 8192 := by
    rcases hy with ⟨-, q⟩ | ⟨q, -⟩
    · omega
    · exact ⟨v.toInt.toNat, Int32.toInt_inj.mp (by rw [nI_toInt (by omega)]; omega), by omega⟩
  obtain ⟨x, rfl, hx4⟩ := hx4
  have hvn : (nI x).toInt.toNat = x := by rw [nI_toInt (by omega)]; rfl
  obtain ⟨n, hn, rfl⟩ := wb_of32 v2
  have hnn : (nI n).toBitVec.toNat = n := pk_tn hn
  rw [hy0] at hP hD
  have hP : va_P D zcl (mW g (mmk 0 (m_oct z) (m_pl z) (m_sz z) (m_sta z) (m_sin z) (m_rea z) (m_fnd z) (m_many z) (m_made z) (m_backs z) (m_lm z))) H := hP
  have hD : va_D A (mW g (mmk 0 (m_oct z) (m_pl z) (m_sz z) (m_sta z) (m_sin z) (m_rea z) (m_fnd z) (m_many z) (m_made z) (m_backs z) (m_lm z))) := hD
  have hK : va_K D zcl (mT g) s := hK
  refine lv_iconst (v := nI 0) hx hb d_M_write_9 (by decide) ?_
  refine lv_istore_n (lv' := [(3, .int (nI 0)), (0, .ref (n_h g)), (1, .int (nI x)), (2, .int (nI n))]) hx hb d_M_write_10 rfl hl (by decide) rfl (fun ls hl => ?_)
  refine lv_iload_n hx hb d_M_write_11 rfl (lv_at hl 0 rfl) ?_
  refine lv_iconst (v := nI 4) hx hb d_M_write_12 (by decide) ?_
  refine lv_icmp_ge (tgt := 40) hx hb d_M_write_13 (by decide) (fun h9 => ?_) (fun h9 => ?_)
  · rw [nI_leI (by omega) (by omega)] at h9
    exact absurd h9 (by omega)
  rw [nI_leI (by omega) (by omega)] at h9
  refine lv_aload_n hx hb d_M_write_16 rfl (lv_at hl 1 rfl) ?_
  refine va_get (D := D) (ci := 2) (v := .ref (n_aO g)) (C := RM) (T := TM) (N := 12) hx hb hk inM hown hK hP 0 rfl rfl 1 (by decide) (hk _ zk454) (fun _ h9 => h9) rfl d_M_write_17 ?_
  refine lv_iload_n hx hb d_M_write_20 rfl (lv_at hl 2 rfl) ?_
  refine lv_iload_n hx hb d_M_write_21 rfl (lv_at hl 0 rfl) ?_
  refine lv_iadd hx hb d_M_write_22 ?_
  refine zh_t (show (nI x + nI 0) = nI (x + 0) from nI_add _ _) ?_
  refine lv_iload_n hx hb d_M_write_23 rfl (lv_at hl 3 rfl) ?_
  refine lv_bipush (v := nI 8) hx hb d_M_write_24 (by decide) ?_
  refine lv_iload_n hx hb d_M_write_26 rfl (lv_at hl 0 rfl) ?_
  refine lv_imul hx hb d_M_write_27 ?_
  refine zh_t (show (nI 8 * nI 0) = nI (8 * 0) from pk_mul _ _) ?_
  refine lv_ishr hx hb d_M_write_28 ?_
  refine lv_sipush (v := nI 255) hx hb d_M_write_29 (by decide) ?_
  refine lv_iand hx hb d_M_write_32 ?_
  refine zh_t (show ((((nI n) >>> ((nI (8 * 0)) &&& 31))) &&& (nI 255)) = nI (n / 2 ^ (8 * 0) % 256) from mh_shr hn 0 (by decide)) ?_
  refine va_iast hx hb hK hP hD hS 1 0 rfl rfl (vp_in_nI (by omega) (by decide)) d_M_write_33 (fun H locs hP hD hS => ?_)
  rw [zh_upd (by omega)] at hP hD
  have hP : va_P D zcl (mW g (mmk 0 (va_up (m_oct z) (x + 0) (n / 2 ^ (8 * 0) % 256)) (m_pl z) (m_sz z) (m_sta z) (m_sin z) (m_rea z) (m_fnd z) (m_many z) (m_made z) (m_backs z) (m_lm z))) H := hP
  have hD : va_D A (mW g (mmk 0 (va_up (m_oct z) (x + 0) (n / 2 ^ (8 * 0) % 256)) (m_pl z) (m_sz z) (m_sta z) (m_sin z) (m_rea z) (m_fnd z) (m_many z) (m_made z) (m_backs z) (m_lm z))) := hD
  refine lv_iinc (lv' := [(3, .int (nI (0 + 1))), (0, .ref (n_h g)), (1, .int (nI x)), (2, .int (nI n))]) (v := nI (0 + 1)) hx hb d_M_write_34 hl (k := 0) rfl (nI_add _ _) (by decide) rfl (fun ls hl => ?_)
  have hl : lv_has ls 4 [(3, .int (nI 1)), (0, .ref (n_h g)), (1, .int (nI x)), (2, .int (nI n))] := hl
  refine lv_goto (tgt := 11) hx hb d_M_write_37 (by decide) ?_
  refine lv_iload_n hx hb d_M_write_11 rfl (lv_at hl 0 rfl) ?_
  refine lv_iconst (v := nI 4) hx hb d_M_write_12 (by decide) ?_
  refine lv_icmp_ge (tgt := 40) hx hb d_M_write_13 (by decide) (fun h9 => ?_) (fun h9 => ?_)
  · rw [nI_leI (by omega) (by omega)] at h9
    exact absurd h9 (by omega)
  rw [nI_leI (by omega) (by omega)] at h9
  refine lv_aload_n hx hb d_M_write_16 rfl (lv_at hl 1 rfl) ?_
  refine va_get (D := D) (ci := 2) (v := .ref (n_aO g)) (C := RM) (T := TM) (N := 12) hx hb hk inM hown hK hP 0 rfl rfl 1 (by decide) (hk _ zk454) (fun _ h9 => h9) rfl d_M_write_17 ?_
  refine lv_iload_n hx hb d_M_write_20 rfl (lv_at hl 2 rfl) ?_
  refine lv_iload_n hx hb d_M_write_21 rfl (lv_at hl 0 rfl) ?_
  refine lv_iadd hx hb d_M_write_22 ?_
  refine zh_t (show (nI x + nI 1) = nI (x + 1) from nI_add _ _) ?_
  refine lv_iload_n hx hb d_M_write_23 rfl (lv_at hl 3 rfl) ?_
  refine lv_bipush (v := nI 8) hx hb d_M_write_24 (by decide) ?_
  refine lv_iload_n hx hb d_M_write_26 rfl (lv_at hl 0 rfl) ?_
  refine lv_imul hx hb d_M_write_27 ?_
  refine zh_t (show (nI 8 * nI 1) = nI (8 * 1) from pk_mul _ _) ?_
  refine lv_ishr hx hb d_M_write_28 ?_
  refine lv_sipush (v := nI 255) hx hb d_M_write_29 (by decide) ?_
  refine lv_iand hx hb d_M_write_32 ?_
  refine zh_t (show ((((nI n) >>> ((nI (8 * 1)) &&& 31))) &&& (nI 255)) = nI (n / 2 ^ (8 * 1) % 256) from mh_shr hn 1 (by decide)) ?_
  refine va_iast hx hb hK hP hD hS 1 0 rfl rfl (vp_in_nI (by omega) (by decide)) d_M_write_33 (fun H locs hP hD hS => ?_)
  rw [zh_upd (by omega)] at hP hD
  have hP : va_P D zcl (mW g (mmk 0 (va_up (va_up (m_oct z) (x + 0) (n / 2 ^ (8 * 0) % 256)) (x + 1) (n / 2 ^ (8 * 1) % 256)) (m_pl z) (m_sz z) (m_sta z) (m_sin z) (m_rea z) (m_fnd z) (m_many z) (m_made z) (m_backs z) (m_lm z))) H := hP
  have hD : va_D A (mW g (mmk 0 (va_up (va_up (m_oct z) (x + 0) (n / 2 ^ (8 * 0) % 256)) (x + 1) (n / 2 ^ (8 * 1) % 256)) (m_pl z) (m_sz z) (m_sta z) (m_sin z) (m_rea z) (m_fnd z) (m_many z) (m_made z) (m_backs z) (m_lm z))) := hD
  refine lv_iinc (lv' := [(3, .int (nI (1 + 1))), (0, .ref (n_h g)), (1, .int (nI x)), (2, .int (nI n))]) (v := nI (1 + 1)) hx hb d_M_write_34 hl (k := 0) rfl (nI_add _ _) (by decide) rfl (fun ls hl => ?_)
  have hl : lv_has ls 4 [(3, .int (nI 2)), (0, .ref (n_h g)), (1, .int (nI x)), (2, .int (nI n))] := hl
  refine lv_goto (tgt := 11) hx hb d_M_write_37 (by decide) ?_
  refine lv_iload_n hx hb d_M_write_11 rfl (lv_at hl 0 rfl) ?_
  refine lv_iconst (v := nI 4) hx hb d_M_write_12 (by decide) ?_
  refine lv_icmp_ge (tgt := 40) hx hb d_M_write_13 (by decide) (fun h9 => ?_) (fun h9 => ?_)
  · rw [nI_leI (by omega) (by omega)] at h9
    exact absurd h9 (by omega)
  rw [nI_leI (by omega) (by omega)] at h9
  refine lv_aload_n hx hb d_M_write_16 rfl (lv_at hl 1 rfl) ?_
  refine va_get (D := D) (ci := 2) (v := .ref (n_aO g)) (C := RM) (T := TM) (N := 12) hx hb hk inM hown hK hP 0 rfl rfl 1 (by decide) (hk _ zk454) (fun _ h9 => h9) rfl d_M_write_17 ?_
  refine lv_iload_n hx hb d_M_write_20 rfl (lv_at hl 2 rfl) ?_
  refine lv_iload_n hx hb d_M_write_21 rfl (lv_at hl 0 rfl) ?_
  refine lv_iadd hx hb d_M_write_22 ?_
  refine zh_t (show (nI x + nI 2) = nI (x + 2) from nI_add _ _) ?_
  refine lv_iload_n hx hb d_M_write_23 rfl (lv_at hl 3 rfl) ?_
  refine lv_bipush (v := nI 8) hx hb d_M_write_24 (by decide) ?_
  refine lv_iload_n hx hb d_M_write_26 rfl (lv_at hl 0 rfl) ?_
  refine lv_imul hx hb d_M_write_27 ?_
  refine zh_t (show (nI 8 * nI 2) = nI (8 * 2) from pk_mul _ _) ?_
  refine lv_ishr hx hb d_M_write_28 ?_
  refine lv_sipush (v := nI 255) hx hb d_M_write_29 (by decide) ?_
  refine lv_iand hx hb d_M_write_32 ?_
  refine zh_t (show ((((nI n) >>> ((nI (8 * 2)) &&& 31))) &&& (nI 255)) = nI (n / 2 ^ (8 * 2) % 256) from mh_shr hn 2 (by decide)) ?_
  refine va_iast hx hb hK hP hD hS 1 0 rfl rfl (vp_in_nI (by omega) (by decide)) d_M_write_33 (fun H locs hP hD hS => ?_)
  rw [zh_upd (by omega)] at hP hD
  have hP : va_P D zcl (mW g (mmk 0 (va_up (va_up (va_up (m_oct z) (x + 0) (n / 2 ^ (8 * 0) % 256)) (x + 1) (n / 2 ^ (8 * 1) % 256)) (x + 2) (n / 2 ^ (8 * 2) % 256)) (m_pl z) (m_sz z) (m_sta z) (m_sin z) (m_rea z) (m_fnd z) (m_many z) (m_made z) (m_backs z) (m_lm z))) H := hP
  have hD : va_D A (mW g (mmk 0 (va_up (va_up (va_up (m_oct z) (x + 0) (n / 2 ^ (8 * 0) % 256)) (x + 1) (n / 2 ^ (8 * 1) % 256)) (x + 2) (n / 2 ^ (8 * 2) % 256)) (m_pl z) (m_sz z) (m_sta z) (m_sin z) (m_rea z) (m_fnd z) (m_many z) (m_made z) (m_backs z) (m_lm z))) := hD
  refine lv_iinc (lv' := [(3, .int (nI (2 + 1))), (0, .ref (n_h g)), (1, .int (nI x)), (2, .int (nI n))]) (v := nI (2 + 1)) hx hb d_M_write_34 hl (k := 0) rfl (nI_add _ _) (by decide) rfl (fun ls hl => ?_)
  have hl : lv_has ls 4 [(3, .int (nI 3)), (0, .ref (n_h g)), (1, .int (nI x)), (2, .int (nI n))] := hl
  refine lv_goto (tgt := 11) hx hb d_M_write_37 (by decide) ?_
  refine lv_iload_n hx hb d_M_write_11 rfl (lv_at hl 0 rfl) ?_
  refine lv_iconst (v := nI 4) hx hb d_M_write_12 (by decide) ?_
  refine lv_icmp_ge (tgt := 40) hx hb d_M_write_13 (by decide) (fun h9 => ?_) (fun h9 => ?_)
  · rw [nI_leI (by omega) (by omega)] at h9
    exact absurd h9 (by omega)
  rw [nI_leI (by omega) (by omega)] at h9
  refine lv_aload_n hx hb d_M_write_16 rfl (lv_at hl 1 rfl) ?_
  refine va_get (D := D) (ci := 2) (v := .ref (n_aO g)) (C := RM) (T := TM) (N := 12) hx hb hk inM hown hK hP 0 rfl rfl 1 (by decide) (hk _ zk454) (fun _ h9 => h9) rfl d_M_write_17 ?_
  refine lv_iload_n hx hb d_M_write_20 rfl (lv_at hl 2 rfl) ?_
  refine lv_iload_n hx hb d_M_write_21 rfl (lv_at hl 0 rfl) ?_
  refine lv_iadd hx hb d_M_write_22 ?_
  refine zh_t (show (nI x + nI 3) = nI (x + 3) from nI_add _ _) ?_
  refine lv_iload_n hx hb d_M_write_23 rfl (lv_at hl 3 rfl) ?_
  refine lv_bipush (v := nI 8) hx hb d_M_write_24 (by decide) ?_
  refine lv_iload_n hx hb d_M_write_26 rfl (lv_at hl 0 rfl) ?_
  refine lv_imul hx hb d_M_write_27 ?_
  refine zh_t (show (nI 8 * nI 3) = nI (8 * 3) from pk_mul _ _) ?_
  refine lv_ishr hx hb d_M_write_28 ?_
  refine lv_sipush (v := nI 255) hx hb d_M_write_29 (by decide) ?_
  refine lv_iand hx hb d_M_write_32 ?_
  refine zh_t (show ((((nI n) >>> ((nI (8 * 3)) &&& 31))) &&& (nI 255)) = nI (n / 2 ^ (8 * 3) % 256) from mh_shr hn 3 (by decide)) ?_
  refine va_iast hx hb hK hP hD hS 1 0 rfl rfl (vp_in_nI (by omega) (by decide)) d_M_write_33 (fun H locs hP hD hS => ?_)
  rw [zh_upd (by omega)] at hP hD
  have hP : va_P D zcl (mW g (mmk 0 (va_up (va_up (va_up (va_up (m_oct z) (x + 0) (n / 2 ^ (8 * 0) % 256)) (x + 1) (n / 2 ^ (8 * 1) % 256)) (x + 2) (n / 2 ^ (8 * 2) % 256)) (x + 3) (n / 2 ^ (8 * 3) % 256)) (m_pl z) (m_sz z) (m_sta z) (m_sin z) (m_rea z) (m_fnd z) (m_many z) (m_made z) (m_backs z) (m_lm z))) H := hP
  have hD : va_D A (mW g (mmk 0 (va_up (va_up (va_up (va_up (m_oct z) (x + 0) (n / 2 ^ (8 * 0) % 256)) (x + 1) (n / 2 ^ (8 * 1) % 256)) (x + 2) (n / 2 ^ (8 * 2) % 256)) (x + 3) (n / 2 ^ (8 * 3) % 256)) (m_pl z) (m_sz z) (m_sta z) (m_sin z) (m_rea z) (m_fnd z) (m_many z) (m_made z) (m_backs z) (m_lm z))) := hD
  refine lv_iinc (lv' := [(3, .int (nI (3 + 1))), (0, .ref (n_h g)), (1, .int (nI x)), (2, .int (nI n))]) (v := nI (3 + 1)) hx hb d_M_write_34 hl (k := 0) rfl (nI_add _ _) (by decide) rfl (fun ls hl => ?_)
  have hl : lv_has ls 4 [(3, .int (nI 4)), (0, .ref (n_h g)), (1, .int (nI x)), (2, .int (nI n))] := hl
  refine lv_goto (tgt := 11) hx hb d_M_write_37 (by decide) ?_
  refine lv_iload_n hx hb d_M_write_11 rfl (lv_at hl 0 rfl) ?_
  refine lv_iconst (v := nI 4) hx hb d_M_write_12 (by decide) ?_
  refine lv_icmp_ge (tgt := 40) hx hb d_M_write_13 (by decide) (fun h9 => ?_) (fun h9 => ?_)
  rotate_left 1
  · rw [nI_leI (by omega) (by omega)] at h9
    exact absurd h9 (by omega)
  rw [nI_leI (by omega) (by omega)] at h9
  exact W.vret hx hb hr (fun t ht hW => ⟨⟨(mq_wr z x n), rfl, ⟨y, hy, Or.inr ⟨hy0, by rw [hvn, hnn]⟩⟩, by rw [ht]; exact hP, va_K.moved hW.alike hK, hD⟩, hS.F ht⟩) hS.2.2 d_M_write_40
set_option maxHeartbeats 1000000 in
set_option maxRecDepth 100000 in
theorem c_M_lostAt_ok (l : Launch) (D : va_G) (t0 : Nat) (g : MG) (z : MT) (sz : Nat) (v : Int32) (hz : mOK z) : Met l y_M_lostAt w_M_lostAt ({ frames := 1, cells := 0, slots := 0, locals := 40 }) (zPre D t0 (mT g) (mW g z) sz [.ref (n_h g), .int v]) (va_Qi (fun r u => (¬ (0 ≤ v.toInt ∧ v.toInt < m_lm z) ∧ u = mu_err z 1) ∨ ((0 ≤ v.toInt ∧ v.toInt < m_lm z) ∧ u = mu_err z 0 ∧ r = nI (m_fnd z v.toInt.toNat))) (fun (u : MT) t => zPost D (mT g) (va_A (mW g z) sz) (mW g u) t) (va_A (mW g z) sz)) 0 0 (va_A (mW g z) sz) := by
  refine Met.ofW (cc := c_M_lostAt) (maxL := 2) (ret := (some .int)) (by decide) rfl ?_
  intro p e s m args below meth c s₁ B hml hv
  obtain ⟨rfl, hsz, hP, hK, hD0, hE⟩ := hv
  have hx := B.exec
  have hb := B.bytes
  have hr := B.returns
  have hts := atoms_spec (ws := w_M_lostAt) B.pre
  have hk : ∀ w ∈ zB, w.before _ s = true := fun w h => hts w (List.mem_cons_of_mem _ h)
  have hown : s.vm.findClass "ZoneHeapModel" = some m.cls := findClass_of_methodNamed B.named
  have hlocks := B.notSynchronized
  subst hsz
  have hD := hD0.self (sz := s.heap.size)
  generalize hAe : va_A (mW g z) s.heap.size = A at hD hE ⊢
  have hA : ∀ q : Nat, s.heap.size ≤ q → A q := fun q h => by rw [← hAe]; exact Or.inr h
  have hS : va_S A s.heap s.heap [] := va_S.rf
  have hl := lv_entry ([.ref (n_h g), .int v]) (n := 2) (Nat.le_of_ble_eq_true rfl)
  rw [lg_entry_eq]
  generalize (lg_sl ([.ref (n_h g), .int v]) ++ List.replicate (2 - (lg_sl ([.ref (n_h g), .int v])).length) Slot.unset).toArray = ls at hl ⊢
  have hl : lv_has ls 2 [(0, .ref (n_h g)), (1, .int v)] := hl
  have hlm := hz.2.2.2.1
  refine lv_aload_n hx hb d_M_lostAt_0 rfl (lv_at hl 0 rfl) ?_
  refine lv_iload_n hx hb d_M_lostAt_1 rfl (lv_at hl 1 rfl) ?_
  refine lv_if_lt (tgt := 13) hx hb d_M_lostAt_2 (by decide) (fun h => ?_) (fun h => ?_)
  · refine lv_iconst (v := nI 1) hx hb d_M_lostAt_13 (by decide) ?_
    refine zh_t (show nI 1 = zb true from rfl) ?_
    refine lv_goto (tgt := 18) hx hb d_M_lostAt_14 (by decide) ?_
    refine lv_iconst (v := nI 1) hx hb d_M_lostAt_18 (by decide) ?_
    refine zci (zrV (n := 2) (As := [.int (zb true), .int (nI 1)]) (rest := []) ⟨hx, hb, hml, hown, hk⟩ (c_M_fails_ok l D t0 g z s.heap.size true 1) zk499 zk501 ks_M_fails zk5 kc_M_fails ⟨rfl, by decide, by decide, by decide⟩ rfl rfl ⟨Nat.le_of_ble_eq_true rfl, Nat.le_of_ble_eq_true rfl⟩ ⟨hP, hK, hD, hS, hA, hE⟩ (va_recv hK hP (ci := 2) (q0 := 0) rfl rfl) rfl hl.1 rfl (Nat.le_of_ble_eq_true rfl) d_M_lostAt_19 ⟨Nat.le_of_ble_eq_true rfl, Nat.le_of_ble_eq_true rfl⟩) ⟨hP, hK, hD, hS, hA, hE⟩ (fun r u H locs hu hP hK hD hS => ?_)
    obtain ⟨rfl, rfl⟩ := hu
    have hP : va_P D zcl (mW g (mmk 1 (m_oct z) (m_pl z) (m_sz z) (m_sta z) (m_sin z) (m_rea z) (m_fnd z) (m_many z) (m_made z) (m_backs z) (m_lm z))) H := hP
    have hD : va_D A (mW g (mmk 1 (m_oct z) (m_pl z) (m_sz z) (m_sta z) (m_sin z) (m_rea z) (m_fnd z) (m_many z) (m_made z) (m_backs z) (m_lm z))) := hD
    have hK : va_K D zcl (mT g) s := hK
    refine lv_if_eq (tgt := 27) hx hb d_M_lostAt_22 (by decide) (fun h9 => ?_) (fun h9 => ?_)
    · rw [zh_zb] at h9
      exact absurd h9 (by decide)
    refine lv_iconst (v := nI 0) hx hb d_M_lostAt_25 (by decide) ?_
    exact W.iret hx hb hr (fun t ht hW => ⟨⟨_, (mu_err z 1), rfl, Or.inl ⟨by have := zi_lt0 h; omega, rfl⟩, by rw [ht]; exact hP, va_K.moved hW.alike hK, hD⟩, hS.F ht⟩) hS.2.2 d_M_lostAt_26
  obtain ⟨x, hx31, rfl⟩ := nI_of h
  refine lv_iload_n hx hb d_M_lostAt_5 rfl (lv_at hl 1 rfl) ?_
  refine lv_aload_n hx hb d_M_lostAt_6 rfl (lv_at hl 0 rfl) ?_
  refine va_get (D := D) (ci := 2) (v := .int (nI (m_lm z))) (C := RM) (T := TM) (N := 12) hx hb hk inM hown hK hP 0 rfl rfl 11 (by decide) (hk _ zk464) (fun _ h9 => h9) rfl d_M_lostAt_7 ?_
  refine lv_icmp_lt (tgt := 17) hx hb d_M_lostAt_10 (by decide) (fun h => ?_) (fun h => ?_)
  rotate_left 1
  · rw [nI_ltI (by omega) (by omega)] at h
    refine lv_iconst (v := nI 1) hx hb d_M_lostAt_13 (by decide) ?_
    refine zh_t (show nI 1 = zb true from rfl) ?_
    refine lv_goto (tgt := 18) hx hb d_M_lostAt_14 (by decide) ?_
    refine lv_iconst (v := nI 1) hx hb d_M_lostAt_18 (by decide) ?_
    refine zci (zrV (n := 2) (As := [.int (zb true), .int (nI 1)]) (rest := []) ⟨hx, hb, hml, hown, hk⟩ (c_M_fails_ok l D t0 g z s.heap.size true 1) zk499 zk501 ks_M_fails zk5 kc_M_fails ⟨rfl, by decide, by decide, by decide⟩ rfl rfl ⟨Nat.le_of_ble_eq_true rfl, Nat.le_of_ble_eq_true rfl⟩ ⟨hP, hK, hD, hS, hA, hE⟩ (va_recv hK hP (ci := 2) (q0 := 0) rfl rfl) rfl hl.1 rfl (Nat.le_of_ble_eq_true rfl) d_M_lostAt_19 ⟨Nat.le_of_ble_eq_true rfl, Nat.le_of_ble_eq_true rfl⟩) ⟨hP, hK, hD, hS, hA, hE⟩ (fun r u H locs hu hP hK hD hS => ?_)
    obtain ⟨rfl, rfl⟩ := hu
    have hP : va_P D zcl (mW g (mmk 1 (m_oct z) (m_pl z) (m_sz z) (m_sta z) (m_sin z) (m_rea z) (m_fnd z) (m_many z) (m_made z) (m_backs z) (m_lm z))) H := hP
    have hD : va_D A (mW g (mmk 1 (m_oct z) (m_pl z) (m_sz z) (m_sta z) (m_sin z) (m_rea z) (m_fnd z) (m_many z) (m_made z) (m_backs z) (m_lm z))) := hD
    have hK : va_K D zcl (mT g) s := hK
    refine lv_if_eq (tgt := 27) hx hb d_M_lostAt_22 (by decide) (fun h9 => ?_) (fun h9 => ?_)
    · rw [zh_zb] at h9
      exact absurd h9 (by decide)
    refine lv_iconst (v := nI 0) hx hb d_M_lostAt_25 (by decide) ?_
    exact W.iret hx hb hr (fun t ht hW => ⟨⟨_, (mu_err z 1), rfl, Or.inl ⟨by rw [nI_toInt hx31]; omega, rfl⟩, by rw [ht]; exact hP, va_K.moved hW.alike hK, hD⟩, hS.F ht⟩) hS.2.2 d_M_lostAt_26
  rw [nI_ltI (by omega) (by omega)] at h
  refine lv_iconst (v := nI 0) hx hb d_M_lostAt_17 (by decide) ?_
  refine zh_t (show nI 0 = zb false from rfl) ?_
  refine lv_iconst (v := nI 1) hx hb d_M_lostAt_18 (by decide) ?_
  refine zci (zrV (n := 2) (As := [.int (zb false), .int (nI 1)]) (rest := []) ⟨hx, hb, hml, hown, hk⟩ (c_M_fails_ok l D t0 g z s.heap.size false 1) zk499 zk501 ks_M_fails zk5 kc_M_fails ⟨rfl, by decide, by decide, by decide⟩ rfl rfl ⟨Nat.le_of_ble_eq_true rfl, Nat.le_of_ble_eq_true rfl⟩ ⟨hP, hK, hD, hS, hA, hE⟩ (va_recv hK hP (ci := 2) (q0 := 0) rfl rfl) rfl hl.1 rfl (Nat.le_of_ble_eq_true rfl) d_M_lostAt_19 ⟨Nat.le_of_ble_eq_true rfl, Nat.le_of_ble_eq_true rfl⟩) ⟨hP, hK, hD, hS, hA, hE⟩ (fun r u H locs hu hP hK hD hS => ?_)
  obtain ⟨rfl, rfl⟩ := hu
  have hP : va_P D zcl (mW g (mmk 0 (m_oct z) (m_pl z) (m_sz z) (m_sta z) (m_sin z) (m_rea z) (m_fnd z) (m_many z) (m_made z) (m_backs z) (m_lm z))) H := hP
  have hD : va_D A (mW g (mmk 0 (m_oct z) (m_pl z) (m_sz z) (m_sta z) (m_sin z) (m_rea z) (m_fnd z) (m_many z) (m_made z) (m_backs z) (m_lm z))) := hD
  have hK : va_K D zcl (mT g) s := hK
  refine lv_if_eq (tgt := 27) hx hb d_M_lostAt_22 (by decide) (fun h9 => ?_) (fun h9 => ?_)
  rotate_left 1
  · rw [zh_zb] at h9
    exact absurd rfl h9
  refine lv_aload_n hx hb d_M_lostAt_27 rfl (lv_at hl 0 rfl) ?_
  refine va_get (D := D) (ci := 2) (v := .ref (n_aF g)) (C := RM) (T := TM) (N := 12) hx hb hk inM hown hK hP 0 rfl rfl 7 (by decide) (hk _ zk460) (fun _ h9 => h9) rfl d_M_lostAt_28 ?_
  refine lv_iload_n hx hb d_M_lostAt_31 rfl (lv_at hl 1 rfl) ?_
  refine va_iald hx hb hK hP 7 6 rfl rfl (vp_in_nI (by omega) (by decide)) d_M_lostAt_32 ?_
  refine zh_t (show nI (m_fnd z (nI x).toNatClampNeg) = nI (m_fnd z x) from by rw [nI_clamp (by omega)]) ?_
  exact W.iret hx hb hr (fun t ht hW => ⟨⟨_, (mu_err z 0), rfl, Or.inr ⟨by rw [nI_toInt hx31]; omega, rfl, by rw [nI_toInt hx31]; rfl⟩, by rw [ht]; exact hP, va_K.moved hW.alike hK, hD⟩, hS.F ht⟩) hS.2.2 d_M_lostAt_33
set_option maxHeartbeats 1000000 in
set_option maxRecDepth 100000 in
theorem c_M_get_ok (l : Launch) (D : va_G) (t0 : Nat) (g : MG) (z : MT) (sz : Nat) (v : Int32) (hz : mOK z) : Met l y_M_get w_M_get ({ frames := 3, cells := 0, slots := 0, locals := 90 }) (zPre D t0 (mT g) (mW g z) sz [.ref (n_h g), .int v]) (va_Qi (fun r u => (¬ (0 ≤ v.toInt ∧ v.toInt ≤ 2048) ∧ u = mu_err z 1) ∨ ((0 ≤ v.toInt ∧ v.toInt ≤ 2048) ∧ ∃ k : Nat, mroom z v.toInt.toNat k ∧ r = nI (16 * k) ∧ ((k = 0 ∧ u = mu_err z 0) ∨ (k ≠ 0 ∧ u = mq_make (mu_err z 0) k v.toInt.toNat)))) (fun (u : MT) t => zPost D (mT g) (va_A (mW g z) sz) (mW g u) t) (va_A (mW g z) sz)) 0 0 (va_A (mW g z) sz) := by
  refine Met.ofW (cc := c_M_get) (maxL := 2) (ret := (some .int)) (by decide) rfl ?_
  intro p e s m args below meth c s₁ B hml hv
  obtain ⟨rfl, hsz, hP, hK, hD0, hE⟩ := hv
  have hx := B.exec
  have hb := B.bytes
  have hr := B.returns
  have hts := atoms_spec (ws := w_M_get) B.pre
  have hk : ∀ w ∈ zB, w.before _ s = true := fun w h => hts w (List.mem_cons_of_mem _ h)
  have hown : s.vm.findClass "ZoneHeapModel" = some m.cls := findClass_of_methodNamed B.named
  have hlocks := B.notSynchronized
  subst hsz
  have hD := hD0.self (sz := s.heap.size)
  generalize hAe : va_A (mW g z) s.heap.size = A at hD hE ⊢
  have hA : ∀ q : Nat, s.heap.size ≤ q → A q := fun q h => by rw [← hAe]; exact Or.inr h
  have hS : va_S A s.heap s.heap [] := va_S.rf
  have hl := lv_entry ([.ref (n_h g), .int v]) (n := 2) (Nat.le_of_ble_eq_true rfl)
  rw [lg_entry_eq]
  generalize (lg_sl ([.ref (n_h g), .int v]) ++ List.replicate (2 - (lg_sl ([.ref (n_h g), .int v])).length) Slot.unset).toArray = ls at hl ⊢
  have hl : lv_has ls 2 [(0, .ref (n_h g)), (1, .int v)] := hl
  refine lv_aload_n hx hb d_M_get_0 rfl (lv_at hl 0 rfl) ?_
  refine lv_iload_n hx hb d_M_get_1 rfl (lv_at hl 1 rfl) ?_
  refine lv_if_lt (tgt := 12) hx hb d_M_get_2 (by decide) (fun h => ?_) (fun h => ?_)
  · refine lv_iconst (v := nI 1) hx hb d_M_get_12 (by decide) ?_
    refine zh_t (show nI 1 = zb true from rfl) ?_
    refine lv_goto (tgt := 17) hx hb d_M_get_13 (by decide) ?_
    refine lv_iconst (v := nI 1) hx hb d_M_get_17 (by decide) ?_
    refine zci (zrV (n := 2) (As := [.int (zb true), .int (nI 1)]) (rest := []) ⟨hx, hb, hml, hown, hk⟩ (c_M_fails_ok l D t0 g z s.heap.size true 1) zk499 zk501 ks_M_fails zk5 kc_M_fails ⟨rfl, by decide, by decide, by decide⟩ rfl rfl ⟨Nat.le_of_ble_eq_true rfl, Nat.le_of_ble_eq_true rfl⟩ ⟨hP, hK, hD, hS, hA, hE⟩ (va_recv hK hP (ci := 2) (q0 := 0) rfl rfl) rfl hl.1 rfl (Nat.le_of_ble_eq_true rfl) d_M_get_18 ⟨Nat.le_of_ble_eq_true rfl, Nat.le_of_ble_eq_true rfl⟩) ⟨hP, hK, hD, hS, hA, hE⟩ (fun r u H locs hu hP hK hD hS => ?_)
    obtain ⟨rfl, rfl⟩ := hu
    have hP : va_P D zcl (mW g (mmk 1 (m_oct z) (m_pl z) (m_sz z) (m_sta z) (m_sin z) (m_rea z) (m_fnd z) (m_many z) (m_made z) (m_backs z) (m_lm z))) H := hP
    have hD : va_D A (mW g (mmk 1 (m_oct z) (m_pl z) (m_sz z) (m_sta z) (m_sin z) (m_rea z) (m_fnd z) (m_many z) (m_made z) (m_backs z) (m_lm z))) := hD
    have hK : va_K D zcl (mT g) s := hK
    refine lv_if_eq (tgt := 26) hx hb d_M_get_21 (by decide) (fun h9 => ?_) (fun h9 => ?_)
    · rw [zh_zb] at h9
      exact absurd h9 (by decide)
    refine lv_iconst (v := nI 0) hx hb d_M_get_24 (by decide) ?_
    exact W.iret hx hb hr (fun t ht hW => ⟨⟨_, (mu_err z 1), rfl, Or.inl ⟨by have := zi_lt0 h; omega, rfl⟩, by rw [ht]; exact hP, va_K.moved hW.alike hK, hD⟩, hS.F ht⟩) hS.2.2 d_M_get_25
  obtain ⟨x, hx31, rfl⟩ := nI_of h
  refine lv_iload_n hx hb d_M_get_5 rfl (lv_at hl 1 rfl) ?_
  refine lv_sipush (v := nI 2048) hx hb d_M_get_6 (by decide) ?_
  refine lv_icmp_le (tgt := 16) hx hb d_M_get_9 (by decide) (fun h => ?_) (fun h => ?_)
  rotate_left 1
  · rw [nI_leI (by omega) (by omega)] at h
    refine lv_iconst (v := nI 1) hx hb d_M_get_12 (by decide) ?_
    refine zh_t (show nI 1 = zb true from rfl) ?_
    refine lv_goto (tgt := 17) hx hb d_M_get_13 (by decide) ?_
    refine lv_iconst (v := nI 1) hx hb d_M_get_17 (by decide) ?_
    refine zci (zrV (n := 2) (As := [.int (zb true), .int (nI 1)]) (rest := []) ⟨hx, hb, hml, hown, hk⟩ (c_M_fails_ok l D t0 g z s.heap.size true 1) zk499 zk501 ks_M_fails zk5 kc_M_fails ⟨rfl, by decide, by decide, by decide⟩ rfl rfl ⟨Nat.le_of_ble_eq_true rfl, Nat.le_of_ble_eq_true rfl⟩ ⟨hP, hK, hD, hS, hA, hE⟩ (va_recv hK hP (ci := 2) (q0 := 0) rfl rfl) rfl hl.1 rfl (Nat.le_of_ble_eq_true rfl) d_M_get_18 ⟨Nat.le_of_ble_eq_true rfl, Nat.le_of_ble_eq_true rfl⟩) ⟨hP, hK, hD, hS, hA, hE⟩ (fun r u H locs hu hP hK hD hS => ?_)
    obtain ⟨rfl, rfl⟩ := hu
    have hP : va_P D zcl (mW g (mmk 1 (m_oct z) (m_pl z) (m_sz z) (m_sta z) (m_sin z) (m_rea z) (m_fnd z) (m_many z) (m_made z) (m_backs z) (m_lm z))) H := hP
    have hD : va_D A (mW g (mmk 1 (m_oct z) (m_pl z) (m_sz z) (m_sta z) (m_sin z) (m_rea z) (m_fnd z) (m_many z) (m_made z) (m_backs z) (m_lm z))) := hD
    have hK : va_K D zcl (mT g) s := hK
    refine lv_if_eq (tgt := 26) hx hb d_M_get_21 (by decide) (fun h9 => ?_) (fun h9 => ?_)
    · rw [zh_zb] at h9
      exact absurd h9 (by decide)
    refine lv_iconst (v := nI 0) hx hb d_M_get_24 (by decide) ?_
    exact W.iret hx hb hr (fun t ht hW => ⟨⟨_, (mu_err z 1), rfl, Or.inl ⟨by rw [nI_toInt hx31]; omega, rfl⟩, by rw [ht]; exact hP, va_K.moved hW.alike hK, hD⟩, hS.F ht⟩) hS.2.2 d_M_get_25
  rw [nI_leI (by omega) (by omega)] at h
  refine lv_iconst (v := nI 0) hx hb d_M_get_16 (by decide) ?_
  refine zh_t (show nI 0 = zb false from rfl) ?_
  refine lv_iconst (v := nI 1) hx hb d_M_get_17 (by decide) ?_
  refine zci (zrV (n := 2) (As := [.int (zb false), .int (nI 1)]) (rest := []) ⟨hx, hb, hml, hown, hk⟩ (c_M_fails_ok l D t0 g z s.heap.size false 1) zk499 zk501 ks_M_fails zk5 kc_M_fails ⟨rfl, by decide, by decide, by decide⟩ rfl rfl ⟨Nat.le_of_ble_eq_true rfl, Nat.le_of_ble_eq_true rfl⟩ ⟨hP, hK, hD, hS, hA, hE⟩ (va_recv hK hP (ci := 2) (q0 := 0) rfl rfl) rfl hl.1 rfl (Nat.le_of_ble_eq_true rfl) d_M_get_18 ⟨Nat.le_of_ble_eq_true rfl, Nat.le_of_ble_eq_true rfl⟩) ⟨hP, hK, hD, hS, hA, hE⟩ (fun r u H locs hu hP hK hD hS => ?_)
  obtain ⟨rfl, rfl⟩ := hu
  have hP : va_P D zcl (mW g (mmk 0 (m_oct z) (m_pl z) (m_sz z) (m_sta z) (m_sin z) (m_rea z) (m_fnd z) (m_many z) (m_made z) (m_backs z) (m_lm z))) H := hP
  have hD : va_D A (mW g (mmk 0 (m_oct z) (m_pl z) (m_sz z) (m_sta z) (m_sin z) (m_rea z) (m_fnd z) (m_many z) (m_made z) (m_backs z) (m_lm z))) := hD
  have hK : va_K D zcl (mT g) s := hK
  refine lv_if_eq (tgt := 26) hx hb d_M_get_21 (by decide) (fun h9 => ?_) (fun h9 => ?_)
  rotate_left 1
  · rw [zh_zb] at h9
    exact absurd rfl h9
  have hvn : (nI x).toInt.toNat = x := by rw [nI_toInt hx31]; rfl
  refine lv_aload_n hx hb d_M_get_26 rfl (lv_at hl 0 rfl) ?_
  refine lv_iload_n hx hb d_M_get_27 rfl (lv_at hl 1 rfl) ?_
  refine zci (zrV (n := 1) (As := [.int (nI x)]) (rest := []) ⟨hx, hb, hml, hown, hk⟩ (c_M_make_ok l D t0 g (mmk 0 (m_oct z) (m_pl z) (m_sz z) (m_sta z) (m_sin z) (m_rea z) (m_fnd z) (m_many z) (m_made z) (m_backs z) (m_lm z)) H.size x (by omega) hz) zk503 zk505 ks_M_make zk5 kc_M_make ⟨rfl, by decide, by decide, by decide⟩ rfl rfl ⟨Nat.le_of_ble_eq_true rfl, Nat.le_of_ble_eq_true rfl⟩ ⟨hP, hK, hD, hS, hA, hE⟩ (va_recv hK hP (ci := 2) (q0 := 0) rfl rfl) rfl hl.1 rfl (Nat.le_of_ble_eq_true rfl) d_M_get_28 ⟨Nat.le_of_ble_eq_true rfl, Nat.le_of_ble_eq_true rfl⟩) ⟨hP, hK, hD, hS, hA, hE⟩ (fun r u H locs hu hP hK hD hS => ?_)
  obtain ⟨k, hroom, rfl, hcase⟩ := hu
  rcases hcase with ⟨hk0, hue⟩ | ⟨hk0, hue⟩
  · rw [hue] at hP hD
    exact W.iret hx hb hr (fun t ht hW => ⟨⟨_, (mu_err z 0), rfl, Or.inr ⟨by rw [nI_toInt hx31]; omega, k, by rw [hvn]; exact hroom, rfl, Or.inl ⟨hk0, rfl⟩⟩, by rw [ht]; exact hP, va_K.moved hW.alike hK, hD⟩, hS.F ht⟩) hS.2.2 d_M_get_31
  rw [hue] at hP hD
  exact W.iret hx hb hr (fun t ht hW => ⟨⟨_, (mq_make (mu_err z 0) k x), rfl, Or.inr ⟨by rw [nI_toInt hx31]; omega, k, by rw [hvn]; exact hroom, rfl, Or.inr ⟨hk0, by rw [hvn]⟩⟩, by rw [ht]; exact hP, va_K.moved hW.alike hK, hD⟩, hS.F ht⟩) hS.2.2 d_M_get_31
end
section
theorem zsum_zero {f : Nat → Nat} : ∀ {n : Nat}, (∀ k, k < n → f k = 0) → zsum f n = 0
  | 0, _ => rfl
  | n + 1, h => by
    show zsum f n + f n = 0
    rw [zsum_zero (n := n) (fun k hk => h k (by omega)), h n (by omega)]
theorem mkept_some {z : MT} (h : 512 < mkept z) : ¬ ∀ j : Nat, j < m_many z → m_sta z j ≠ 2 := fun q => by
  have : mkept z = 0 := zsum_zero (fun k hk => if_neg (q k hk))
  omega
theorem mkept_lt {z : MT} (h : mOK z) : mkept z < 2 ^ 30 := by
  have h1 := zsum_kept (f := m_sta z) (g := m_sz z) (n := m_many z) (fun k hk => (h.at hk).2.2.1)
  have h2 := h.many
  have h3 : mkept z ≤ m_many z * 2048 := h1
  omega
def mold (z : MT) (k : Nat) (o : Int32) : Prop := (o = -1 ∧ ∀ j : Nat, j < k → m_sta z j ≠ 2) ∨ ∃ i : Nat, i < k ∧ o = nI i ∧ m_sta z i = 2 ∧ ∀ j : Nat, j < k → m_sta z j = 2 → m_sin z i ≤ m_sin z j
set_option maxHeartbeats 1000000 in
set_option maxRecDepth 100000 in
theorem c_M_give_ok (l : Launch) (D : va_G) (t0 : Nat) (g : MG) (z : MT) (sz : Nat) (b : Nat) (hb9 : b < m_many z) (hz : mOK z) (hbk : m_backs z + 1 < 100000) : Met l y_M_give w_M_give ({ frames := 1, cells := 0, slots := 0, locals := 40 }) (zPre D t0 (mT g) (mW g z) sz [.ref (n_h g), .int (nI b)]) (va_Qv (fun u => mgive (mq_mark z b) u) (fun (u : MT) t => zPost D (mT g) (va_A (mW g z) sz) (mW g u) t) (va_A (mW g z) sz)) 0 0 (va_A (mW g z) sz) := by
  refine Met.ofW (cc := c_M_give) (maxL := 4) (ret := none) (by decide) rfl ?_
  intro p e s m args below meth c s₁ B hml hv
  obtain ⟨rfl, hsz, hP, hK, hD0, hE⟩ := hv
  have hx := B.exec
  have hb := B.bytes
  have hr := B.returns
  have hts := atoms_spec (ws := w_M_give) B.pre
  have hk : ∀ w ∈ zB, w.before _ s = true := fun w h => hts w (List.mem_cons_of_mem _ h)
  have hown : s.vm.findClass "ZoneHeapModel" = some m.cls := findClass_of_methodNamed B.named
  have hlocks := B.notSynchronized
  subst hsz
  have hD := hD0.self (sz := s.heap.size)
  generalize hAe : va_A (mW g z) s.heap.size = A at hD hE ⊢
  have hA : ∀ q : Nat, s.heap.size ≤ q → A q := fun q h => by rw [← hAe]; exact Or.inr h
  have hS : va_S A s.heap s.heap [] := va_S.rf
  have hl := lv_entry ([.ref (n_h g), .int (nI b)]) (n := 4) (Nat.le_of_ble_eq_true rfl)
  rw [lg_entry_eq]
  generalize (lg_sl ([.ref (n_h g), .int (nI b)]) ++ List.replicate (4 - (lg_sl ([.ref (n_h g), .int (nI b)])).length) Slot.unset).toArray = ls at hl ⊢
  have hl : lv_has ls 4 [(0, .ref (n_h g)), (1, .int (nI b))] := hl
  have hm := hz.many
  refine lv_aload_n hx hb d_M_give_0 rfl (lv_at hl 0 rfl) ?_
  refine va_get (D := D) (ci := 2) (v := .ref (n_aT g)) (C := RM) (T := TM) (N := 12) hx hb hk inM hown hK hP 0 rfl rfl 4 (by decide) (hk _ zk457) (fun _ h9 => h9) rfl d_M_give_1 ?_
  refine lv_iload_n hx hb d_M_give_4 rfl (lv_at hl 1 rfl) ?_
  refine lv_iconst (v := nI 2) hx hb d_M_give_5 (by decide) ?_
  refine va_iast hx hb hK hP hD hS 4 3 rfl rfl (vp_in_nI (by omega) (by decide)) d_M_give_6 (fun H locs hP hD hS => ?_)
  rw [zh_upd (by omega)] at hP hD
  have hP : va_P D zcl (mW g (mmk (m_err z) (m_oct z) (m_pl z) (m_sz z) (va_up (m_sta z) b 2) (m_sin z) (m_rea z) (m_fnd z) (m_many z) (m_made z) (m_backs z) (m_lm z))) H := hP
  have hD : va_D A (mW g (mmk (m_err z) (m_oct z) (m_pl z) (m_sz z) (va_up (m_sta z) b 2) (m_sin z) (m_rea z) (m_fnd z) (m_many z) (m_made z) (m_backs z) (m_lm z))) := hD
  refine lv_aload_n hx hb d_M_give_7 rfl (lv_at hl 0 rfl) ?_
  refine va_get (D := D) (ci := 2) (v := .ref (n_aN g)) (C := RM) (T := TM) (N := 12) hx hb hk inM hown hK hP 0 rfl rfl 5 (by decide) (hk _ zk458) (fun _ h9 => h9) rfl d_M_give_8 ?_
  refine lv_iload_n hx hb d_M_give_11 rfl (lv_at hl 1 rfl) ?_
  refine lv_aload_n hx hb d_M_give_12 rfl (lv_at hl 0 rfl) ?_
  refine lv_dup hx hb d_M_give_13 rfl ?_
  refine va_get (D := D) (ci := 2) (v := .int (nI (m_backs z))) (C := RM) (T := TM) (N := 12) hx hb hk inM hown hK hP 0 rfl rfl 10 (by decide) (hk _ zk463) (fun _ h9 => h9) rfl d_M_give_14 ?_
  refine lv_iconst (v := nI 1) hx hb d_M_give_17 (by decide) ?_
  refine lv_iadd hx hb d_M_give_18 ?_
  refine zh_t (show (nI (m_backs z) + nI 1) = nI (m_backs z + 1) from nI_add _ _) ?_
  refine lv_dup_x1 hx hb d_M_give_19 rfl rfl ?_
  refine va_put (D := D) (ci := 2) (v := .int (nI (m_backs z + 1))) (ty := .int) (C := RM) (T := TM) (N := 12) hx hb hk inM tyM okM nmM hown hK hP hD hS 0 rfl rfl 10 (by decide) (hk _ zk463) (fun _ h9 => h9) rfl (by decide +kernel) rfl rfl (Nat.le_of_ble_eq_true rfl) d_M_give_20 (fun H locs hP hD hS => ?_)
  have hP : va_P D zcl (mW g (mmk (m_err z) (m_oct z) (m_pl z) (m_sz z) (va_up (m_sta z) b 2) (m_sin z) (m_rea z) (m_fnd z) (m_many z) (m_made z) (m_backs z + 1) (m_lm z))) H := hP
  have hD : va_D A (mW g (mmk (m_err z) (m_oct z) (m_pl z) (m_sz z) (va_up (m_sta z) b 2) (m_sin z) (m_rea z) (m_fnd z) (m_many z) (m_made z) (m_backs z + 1) (m_lm z))) := hD
  refine va_iast hx hb hK hP hD hS 5 4 rfl rfl (vp_in_nI (by omega) (by decide)) d_M_give_23 (fun H locs hP hD hS => ?_)
  rw [zh_upd (by omega)] at hP hD
  have hP : va_P D zcl (mW g (mmk (m_err z) (m_oct z) (m_pl z) (m_sz z) (va_up (m_sta z) b 2) (va_up (m_sin z) b (m_backs z + 1)) (m_rea z) (m_fnd z) (m_many z) (m_made z) (m_backs z + 1) (m_lm z))) H := hP
  have hD : va_D A (mW g (mmk (m_err z) (m_oct z) (m_pl z) (m_sz z) (va_up (m_sta z) b 2) (va_up (m_sin z) b (m_backs z + 1)) (m_rea z) (m_fnd z) (m_many z) (m_made z) (m_backs z + 1) (m_lm z))) := hD
  refine zh_loopH (A := MT) (fun q H locs ls => lv_has ls 4 [(0, .ref (n_h g))] ∧ va_P D zcl (mW g q) H ∧ va_K D zcl (mT g) s ∧ va_D A (mW g q) ∧ va_S A s.heap H locs ∧ (mOK q) ∧ (∀ u : MT, mgive q u → mgive (mq_mark z b) u)) (fun q => m_many q) ?_ (mq_mark z b) ⟨lv_sub hl [0] rfl, hP, hK, hD, hS, hz.mark hbk, fun u h => h⟩
  rintro y H locs ls ⟨hl, hP, hK, hD, hS, hy, hcont⟩ ih
  have hl : lv_has ls 4 [(0, .ref (n_h g))] := hl
  have hP : va_P D zcl (mW g y) H := hP
  have hK : va_K D zcl (mT g) s := hK
  have hD : va_D A (mW g y) := hD
  have hy : mOK y := hy
  have hcont : ∀ u : MT, mgive y u → mgive (mq_mark z b) u := hcont
  have hmy := hy.many
  have hkl := mkept_lt hy
  refine lv_aload_n hx hb d_M_give_24 rfl (lv_at hl 0 rfl) ?_
  refine vp_callSi (zrV (n := 0) (As := []) (rest := []) ⟨hx, hb, hml, hown, hk⟩ (c_M_kept_ok l D t0 g y H.size hy) zk526 zk528 ks_M_kept zk5 kc_M_kept ⟨rfl, by decide, by decide, by decide⟩ rfl rfl ⟨Nat.le_of_ble_eq_true rfl, Nat.le_of_ble_eq_true rfl⟩ ⟨hP, hK, hD, hS, hA, hE⟩ (va_recv hK hP (ci := 2) (q0 := 0) rfl rfl) rfl hl.1 rfl (Nat.le_of_ble_eq_true rfl) d_M_give_25 ⟨Nat.le_of_ble_eq_true rfl, Nat.le_of_ble_eq_true rfl⟩).run (fun r hr1 => ?_)
  subst hr1
  refine lv_sipush (v := nI 512) hx hb d_M_give_28 (by decide) ?_
  refine lv_icmp_le (tgt := 156) hx hb d_M_give_31 (by decide) (fun h => ?_) (fun h => ?_)
  · rw [nI_leI (by omega) (by omega)] at h
    exact W.vret hx hb hr (fun t ht hW => ⟨⟨y, rfl, hcont y ⟨0, h, rfl⟩, by rw [ht]; exact hP, va_K.moved hW.alike hK, hD⟩, hS.F ht⟩) hS.2.2 d_M_give_156
  rw [nI_leI (by omega) (by omega)] at h
  have hkept := h
  refine lv_iconst (v := ((-1))) hx hb d_M_give_34 (by decide) ?_
  refine lv_istore_n (lv' := [(2, .int ((-1))), (0, .ref (n_h g))]) hx hb d_M_give_35 rfl hl (by decide) rfl (fun ls hl => ?_)
  refine lv_iconst (v := nI 0) hx hb d_M_give_36 (by decide) ?_
  refine lv_istore_n (lv' := [(3, .int (nI 0)), (2, .int ((-1))), (0, .ref (n_h g))]) hx hb d_M_give_37 rfl hl (by decide) rfl (fun ls hl => ?_)
  have ih1 := ih
  refine zh_loop0 (A := Nat × Int32) (fun q ls => lv_has ls 4 [(0, .ref (n_h g)), (2, .int q.2), (3, .int (nI q.1))] ∧ (q.1 ≤ m_many y) ∧ (mold y q.1 q.2)) (fun q => m_many y - q.1) ?_ (0, -1) ⟨lv_sub hl [2, 1, 0] rfl, Nat.zero_le _, Or.inl ⟨rfl, fun j hj => absurd hj (Nat.not_lt_zero _)⟩⟩
  rintro ⟨k, o⟩ ls ⟨hl, hk5, ho⟩ ih
  have hl : lv_has ls 4 [(0, .ref (n_h g)), (2, .int o), (3, .int (nI k))] := hl
  have hk5 : k ≤ m_many y := hk5
  have ho : mold y k o := ho
  refine lv_iload_n hx hb d_M_give_38 rfl (lv_at hl 2 rfl) ?_
  refine lv_aload_n hx hb d_M_give_39 rfl (lv_at hl 0 rfl) ?_
  refine va_get (D := D) (ci := 2) (v := .int (nI (m_many y))) (C := RM) (T := TM) (N := 12) hx hb hk inM hown hK hP 0 rfl rfl 8 (by decide) (hk _ zk461) (fun _ h9 => h9) rfl d_M_give_40 ?_
  refine lv_icmp_ge (tgt := 83) hx hb d_M_give_43 (by decide) (fun h => ?_) (fun h => ?_)
  · rw [nI_leI (by omega) (by omega)] at h
    have hke : k = m_many y := by omega
    rw [hke] at ho
    rcases ho with ⟨-, q⟩ | ⟨i, hi, rfl, hst2, hmin⟩
    · exact absurd q (mkept_some (by omega))
    have hold : zr_old (m_many y) (m_sta y) (m_sin y) i := ⟨hi, hst2, hmin⟩
    refine lv_aload_n hx hb d_M_give_83 rfl (lv_at hl 0 rfl) ?_
    refine lv_dup hx hb d_M_give_84 rfl ?_
    refine va_get (D := D) (ci := 2) (v := .int (nI (m_many y))) (C := RM) (T := TM) (N := 12) hx hb hk inM hown hK hP 0 rfl rfl 8 (by decide) (hk _ zk461) (fun _ h9 => h9) rfl d_M_give_85 ?_
    refine lv_iconst (v := nI 1) hx hb d_M_give_88 (by decide) ?_
    refine lv_isub hx hb d_M_give_89 ?_
    refine zh_t (show (nI (m_many y) - nI 1) = nI (m_many y - 1) from pk_sub (by omega)) ?_
    refine va_put (D := D) (ci := 2) (v := .int (nI (m_many y - 1))) (ty := .int) (C := RM) (T := TM) (N := 12) hx hb hk inM tyM okM nmM hown hK hP hD hS 0 rfl rfl 8 (by decide) (hk _ zk461) (fun _ h9 => h9) rfl (by decide +kernel) rfl rfl (Nat.le_of_ble_eq_true rfl) d_M_give_90 (fun H locs hP hD hS => ?_)
    have hP : va_P D zcl (mW g (mmk (m_err y) (m_oct y) (m_pl y) (m_sz y) (m_sta y) (m_sin y) (m_rea y) (m_fnd y) (m_many y - 1) (m_made y) (m_backs y) (m_lm y))) H := hP
    have hD : va_D A (mW g (mmk (m_err y) (m_oct y) (m_pl y) (m_sz y) (m_sta y) (m_sin y) (m_rea y) (m_fnd y) (m_many y - 1) (m_made y) (m_backs y) (m_lm y))) := hD
    refine lv_aload_n hx hb d_M_give_93 rfl (lv_at hl 0 rfl) ?_
    refine va_get (D := D) (ci := 2) (v := .ref (n_aP g)) (C := RM) (T := TM) (N := 12) hx hb hk inM hown hK hP 0 rfl rfl 2 (by decide) (hk _ zk455) (fun _ h9 => h9) rfl d_M_give_94 ?_
    refine lv_iload_n hx hb d_M_give_97 rfl (lv_at hl 1 rfl) ?_
    refine lv_aload_n hx hb d_M_give_98 rfl (lv_at hl 0 rfl) ?_
    refine va_get (D := D) (ci := 2) (v := .ref (n_aP g)) (C := RM) (T := TM) (N := 12) hx hb hk inM hown hK hP 0 rfl rfl 2 (by decide) (hk _ zk455) (fun _ h9 => h9) rfl d_M_give_99 ?_
    refine lv_aload_n hx hb d_M_give_102 rfl (lv_at hl 0 rfl) ?_
    refine va_get (D := D) (ci := 2) (v := .int (nI (m_many y - 1))) (C := RM) (T := TM) (N := 12) hx hb hk inM hown hK hP 0 rfl rfl 8 (by decide) (hk _ zk461) (fun _ h9 => h9) rfl d_M_give_103 ?_
    refine va_iald hx hb hK hP 2 1 rfl rfl (vp_in_nI (by omega) (by decide)) d_M_give_106 ?_
    refine zh_t (show nI (m_pl y (nI (m_many y - 1)).toNatClampNeg) = nI (m_pl y (m_many y - 1)) from by rw [nI_clamp (by omega)]) ?_
    refine va_iast hx hb hK hP hD hS 2 1 rfl rfl (vp_in_nI (by omega) (by decide)) d_M_give_107 (fun H locs hP hD hS => ?_)
    rw [zh_upd (by omega)] at hP hD
    have hP : va_P D zcl (mW g (mmk (m_err y) (m_oct y) (va_up (m_pl y) i (m_pl y (m_many y - 1))) (m_sz y) (m_sta y) (m_sin y) (m_rea y) (m_fnd y) (m_many y - 1) (m_made y) (m_backs y) (m_lm y))) H := hP
    have hD : va_D A (mW g (mmk (m_err y) (m_oct y) (va_up (m_pl y) i (m_pl y (m_many y - 1))) (m_sz y) (m_sta y) (m_sin y) (m_rea y) (m_fnd y) (m_many y - 1) (m_made y) (m_backs y) (m_lm y))) := hD
    refine lv_aload_n hx hb d_M_give_108 rfl (lv_at hl 0 rfl) ?_
    refine va_get (D := D) (ci := 2) (v := .ref (n_aS g)) (C := RM) (T := TM) (N := 12) hx hb hk inM hown hK hP 0 rfl rfl 3 (by decide) (hk _ zk456) (fun _ h9 => h9) rfl d_M_give_109 ?_
    refine lv_iload_n hx hb d_M_give_112 rfl (lv_at hl 1 rfl) ?_
    refine lv_aload_n hx hb d_M_give_113 rfl (lv_at hl 0 rfl) ?_
    refine va_get (D := D) (ci := 2) (v := .ref (n_aS g)) (C := RM) (T := TM) (N := 12) hx hb hk inM hown hK hP 0 rfl rfl 3 (by decide) (hk _ zk456) (fun _ h9 => h9) rfl d_M_give_114 ?_
    refine lv_aload_n hx hb d_M_give_117 rfl (lv_at hl 0 rfl) ?_
    refine va_get (D := D) (ci := 2) (v := .int (nI (m_many y - 1))) (C := RM) (T := TM) (N := 12) hx hb hk inM hown hK hP 0 rfl rfl 8 (by decide) (hk _ zk461) (fun _ h9 => h9) rfl d_M_give_118 ?_
    refine va_iald hx hb hK hP 3 2 rfl rfl (vp_in_nI (by omega) (by decide)) d_M_give_121 ?_
    refine zh_t (show nI (m_sz y (nI (m_many y - 1)).toNatClampNeg) = nI (m_sz y (m_many y - 1)) from by rw [nI_clamp (by omega)]) ?_
    refine va_iast hx hb hK hP hD hS 3 2 rfl rfl (vp_in_nI (by omega) (by decide)) d_M_give_122 (fun H locs hP hD hS => ?_)
    rw [zh_upd (by omega)] at hP hD
    have hP : va_P D zcl (mW g (mmk (m_err y) (m_oct y) (va_up (m_pl y) i (m_pl y (m_many y - 1))) (va_up (m_sz y) i (m_sz y (m_many y - 1))) (m_sta y) (m_sin y) (m_rea y) (m_fnd y) (m_many y - 1) (m_made y) (m_backs y) (m_lm y))) H := hP
    have hD : va_D A (mW g (mmk (m_err y) (m_oct y) (va_up (m_pl y) i (m_pl y (m_many y - 1))) (va_up (m_sz y) i (m_sz y (m_many y - 1))) (m_sta y) (m_sin y) (m_rea y) (m_fnd y) (m_many y - 1) (m_made y) (m_backs y) (m_lm y))) := hD
    refine lv_aload_n hx hb d_M_give_123 rfl (lv_at hl 0 rfl) ?_
    refine va_get (D := D) (ci := 2) (v := .ref (n_aT g)) (C := RM) (T := TM) (N := 12) hx hb hk inM hown hK hP 0 rfl rfl 4 (by decide) (hk _ zk457) (fun _ h9 => h9) rfl d_M_give_124 ?_
    refine lv_iload_n hx hb d_M_give_127 rfl (lv_at hl 1 rfl) ?_
    refine lv_aload_n hx hb d_M_give_128 rfl (lv_at hl 0 rfl) ?_
    refine va_get (D := D) (ci := 2) (v := .ref (n_aT g)) (C := RM) (T := TM) (N := 12) hx hb hk inM hown hK hP 0 rfl rfl 4 (by decide) (hk _ zk457) (fun _ h9 => h9) rfl d_M_give_129 ?_
    refine lv_aload_n hx hb d_M_give_132 rfl (lv_at hl 0 rfl) ?_
    refine va_get (D := D) (ci := 2) (v := .int (nI (m_many y - 1))) (C := RM) (T := TM) (N := 12) hx hb hk inM hown hK hP 0 rfl rfl 8 (by decide) (hk _ zk461) (fun _ h9 => h9) rfl d_M_give_133 ?_
    refine va_iald hx hb hK hP 4 3 rfl rfl (vp_in_nI (by omega) (by decide)) d_M_give_136 ?_
    refine zh_t (show nI (m_sta y (nI (m_many y - 1)).toNatClampNeg) = nI (m_sta y (m_many y - 1)) from by rw [nI_clamp (by omega)]) ?_
    refine va_iast hx hb hK hP hD hS 4 3 rfl rfl (vp_in_nI (by omega) (by decide)) d_M_give_137 (fun H locs hP hD hS => ?_)
    rw [zh_upd (by omega)] at hP hD
    have hP : va_P D zcl (mW g (mmk (m_err y) (m_oct y) (va_up (m_pl y) i (m_pl y (m_many y - 1))) (va_up (m_sz y) i (m_sz y (m_many y - 1))) (va_up (m_sta y) i (m_sta y (m_many y - 1))) (m_sin y) (m_rea y) (m_fnd y) (m_many y - 1) (m_made y) (m_backs y) (m_lm y))) H := hP
    have hD : va_D A (mW g (mmk (m_err y) (m_oct y) (va_up (m_pl y) i (m_pl y (m_many y - 1))) (va_up (m_sz y) i (m_sz y (m_many y - 1))) (va_up (m_sta y) i (m_sta y (m_many y - 1))) (m_sin y) (m_rea y) (m_fnd y) (m_many y - 1) (m_made y) (m_backs y) (m_lm y))) := hD
    refine lv_aload_n hx hb d_M_give_138 rfl (lv_at hl 0 rfl) ?_
    refine va_get (D := D) (ci := 2) (v := .ref (n_aN g)) (C := RM) (T := TM) (N := 12) hx hb hk inM hown hK hP 0 rfl rfl 5 (by decide) (hk _ zk458) (fun _ h9 => h9) rfl d_M_give_139 ?_
    refine lv_iload_n hx hb d_M_give_142 rfl (lv_at hl 1 rfl) ?_
    refine lv_aload_n hx hb d_M_give_143 rfl (lv_at hl 0 rfl) ?_
    refine va_get (D := D) (ci := 2) (v := .ref (n_aN g)) (C := RM) (T := TM) (N := 12) hx hb hk inM hown hK hP 0 rfl rfl 5 (by decide) (hk _ zk458) (fun _ h9 => h9) rfl d_M_give_144 ?_
    refine lv_aload_n hx hb d_M_give_147 rfl (lv_at hl 0 rfl) ?_
    refine va_get (D := D) (ci := 2) (v := .int (nI (m_many y - 1))) (C := RM) (T := TM) (N := 12) hx hb hk inM hown hK hP 0 rfl rfl 8 (by decide) (hk _ zk461) (fun _ h9 => h9) rfl d_M_give_148 ?_
    refine va_iald hx hb hK hP 5 4 rfl rfl (vp_in_nI (by omega) (by decide)) d_M_give_151 ?_
    refine zh_t (show nI (m_sin y (nI (m_many y - 1)).toNatClampNeg) = nI (m_sin y (m_many y - 1)) from by rw [nI_clamp (by omega)]) ?_
    refine va_iast hx hb hK hP hD hS 5 4 rfl rfl (vp_in_nI (by omega) (by decide)) d_M_give_152 (fun H locs hP hD hS => ?_)
    rw [zh_upd (by omega)] at hP hD
    have hP : va_P D zcl (mW g (mmk (m_err y) (m_oct y) (va_up (m_pl y) i (m_pl y (m_many y - 1))) (va_up (m_sz y) i (m_sz y (m_many y - 1))) (va_up (m_sta y) i (m_sta y (m_many y - 1))) (va_up (m_sin y) i (m_sin y (m_many y - 1))) (m_rea y) (m_fnd y) (m_many y - 1) (m_made y) (m_backs y) (m_lm y))) H := hP
    have hD : va_D A (mW g (mmk (m_err y) (m_oct y) (va_up (m_pl y) i (m_pl y (m_many y - 1))) (va_up (m_sz y) i (m_sz y (m_many y - 1))) (va_up (m_sta y) i (m_sta y (m_many y - 1))) (va_up (m_sin y) i (m_sin y (m_many y - 1))) (m_rea y) (m_fnd y) (m_many y - 1) (m_made y) (m_backs y) (m_lm y))) := hD
    refine lv_goto (tgt := 24) hx hb d_M_give_153 (by decide) ?_
    exact ih1 (mq_drop y i) H locs ls ⟨lv_sub hl [0] rfl, hP, hK, hD, hS, hy.drop hi, fun u h => hcont u (by obtain ⟨n, hn⟩ := h; exact ⟨n + 1, by omega, i, hold, hn⟩)⟩ (by show m_many y - 1 < m_many y; omega)
  rw [nI_leI (by omega) (by omega)] at h
  have hat := hy.at (k := k) (by omega)
  refine lv_aload_n hx hb d_M_give_46 rfl (lv_at hl 0 rfl) ?_
  refine va_get (D := D) (ci := 2) (v := .ref (n_aT g)) (C := RM) (T := TM) (N := 12) hx hb hk inM hown hK hP 0 rfl rfl 4 (by decide) (hk _ zk457) (fun _ h9 => h9) rfl d_M_give_47 ?_
  refine lv_iload_n hx hb d_M_give_50 rfl (lv_at hl 2 rfl) ?_
  refine va_iald hx hb hK hP 4 3 rfl rfl (vp_in_nI (by omega) (by decide)) d_M_give_51 ?_
  refine zh_t (show nI (m_sta y (nI k).toNatClampNeg) = nI (m_sta y k) from by rw [nI_clamp (by omega)]) ?_
  refine lv_iconst (v := nI 2) hx hb d_M_give_52 (by decide) ?_
  refine lv_icmp_ne (tgt := 77) hx hb d_M_give_53 (by decide) (fun h2 => ?_) (fun h2 => ?_)
  · rw [nI_eq (by omega) (by omega)] at h2
    refine lv_iinc (lv' := [(3, .int (nI (k + 1))), (0, .ref (n_h g)), (2, .int o)]) (v := nI (k + 1)) hx hb d_M_give_77 hl (k := 2) rfl (nI_add _ _) (by decide) rfl (fun ls hl => ?_)
    refine lv_goto (tgt := 38) hx hb d_M_give_80 (by decide) ?_
    exact ih (k + 1, o) ls ⟨lv_sub hl [1, 2, 0] rfl, by dsimp only; omega, ho.elim (fun q => Or.inl ⟨q.1, lt_s q.2 h2⟩) (fun ⟨i, q1, q2, q3, q4⟩ => Or.inr ⟨i, by show i < k + 1; omega, q2, q3, lt_s q4 (fun q => absurd q h2)⟩)⟩ (by show _ < _; (try dsimp only); omega)
  rw [nI_eq (by omega) (by omega)] at h2
  rcases ho with ⟨rfl, hno⟩ | ⟨i, hi, rfl, hst2, hmin⟩
  · refine lv_iload_n hx hb d_M_give_56 rfl (lv_at hl 1 rfl) ?_
    refine lv_if_lt (tgt := 75) hx hb d_M_give_57 (by decide) (fun h3 => ?_) (fun h3 => ?_)
    rotate_left 1
    · exact absurd (by decide) h3
    refine lv_iload_n hx hb d_M_give_75 rfl (lv_at hl 2 rfl) ?_
    refine lv_istore_n (lv' := [(2, .int (nI k)), (0, .ref (n_h g)), (3, .int (nI k))]) hx hb d_M_give_76 rfl hl (by decide) rfl (fun ls hl => ?_)
    refine lv_iinc (lv' := [(3, .int (nI (k + 1))), (2, .int (nI k)), (0, .ref (n_h g))]) (v := nI (k + 1)) hx hb d_M_give_77 hl (k := 2) rfl (nI_add _ _) (by decide) rfl (fun ls hl => ?_)
    refine lv_goto (tgt := 38) hx hb d_M_give_80 (by decide) ?_
    exact ih (k + 1, nI k) ls ⟨lv_sub hl [2, 1, 0] rfl, by dsimp only; omega, Or.inr ⟨k, by show k < k + 1; omega, rfl, h2, lt_s (fun j hj q => absurd q (hno j hj)) (fun _ => Nat.le_refl _)⟩⟩ (by show _ < _; (try dsimp only); omega)
  have hati := hy.at (k := i) (by omega)
  refine lv_iload_n hx hb d_M_give_56 rfl (lv_at hl 1 rfl) ?_
  refine lv_if_lt (tgt := 75) hx hb d_M_give_57 (by decide) (fun h3 => ?_) (fun h3 => ?_)
  · rw [show (0 : Int32) = nI 0 from rfl, nI_ltI (by omega) (by omega)] at h3
    exact absurd h3 (by omega)
  rw [show (0 : Int32) = nI 0 from rfl, nI_ltI (by omega) (by omega)] at h3
  refine lv_aload_n hx hb d_M_give_60 rfl (lv_at hl 0 rfl) ?_
  refine va_get (D := D) (ci := 2) (v := .ref (n_aN g)) (C := RM) (T := TM) (N := 12) hx hb hk inM hown hK hP 0 rfl rfl 5 (by decide) (hk _ zk458) (fun _ h9 => h9) rfl d_M_give_61 ?_
  refine lv_iload_n hx hb d_M_give_64 rfl (lv_at hl 2 rfl) ?_
  refine va_iald hx hb hK hP 5 4 rfl rfl (vp_in_nI (by omega) (by decide)) d_M_give_65 ?_
  refine zh_t (show nI (m_sin y (nI k).toNatClampNeg) = nI (m_sin y k) from by rw [nI_clamp (by omega)]) ?_
  refine lv_aload_n hx hb d_M_give_66 rfl (lv_at hl 0 rfl) ?_
  refine va_get (D := D) (ci := 2) (v := .ref (n_aN g)) (C := RM) (T := TM) (N := 12) hx hb hk inM hown hK hP 0 rfl rfl 5 (by decide) (hk _ zk458) (fun _ h9 => h9) rfl d_M_give_67 ?_
  refine lv_iload_n hx hb d_M_give_70 rfl (lv_at hl 1 rfl) ?_
  refine va_iald hx hb hK hP 5 4 rfl rfl (vp_in_nI (by omega) (by decide)) d_M_give_71 ?_
  refine zh_t (show nI (m_sin y (nI i).toNatClampNeg) = nI (m_sin y i) from by rw [nI_clamp (by omega)]) ?_
  refine lv_icmp_ge (tgt := 77) hx hb d_M_give_72 (by decide) (fun h4 => ?_) (fun h4 => ?_)
  · rw [nI_leI (by omega) (by omega)] at h4
    refine lv_iinc (lv' := [(3, .int (nI (k + 1))), (0, .ref (n_h g)), (2, .int (nI i))]) (v := nI (k + 1)) hx hb d_M_give_77 hl (k := 2) rfl (nI_add _ _) (by decide) rfl (fun ls hl => ?_)
    refine lv_goto (tgt := 38) hx hb d_M_give_80 (by decide) ?_
    exact ih (k + 1, nI i) ls ⟨lv_sub hl [1, 2, 0] rfl, by dsimp only; omega, Or.inr ⟨i, by show i < k + 1; omega, rfl, hst2, lt_s hmin (fun _ => h4)⟩⟩ (by show _ < _; (try dsimp only); omega)
  rw [nI_leI (by omega) (by omega)] at h4
  refine lv_iload_n hx hb d_M_give_75 rfl (lv_at hl 2 rfl) ?_
  refine lv_istore_n (lv' := [(2, .int (nI k)), (0, .ref (n_h g)), (3, .int (nI k))]) hx hb d_M_give_76 rfl hl (by decide) rfl (fun ls hl => ?_)
  refine lv_iinc (lv' := [(3, .int (nI (k + 1))), (2, .int (nI k)), (0, .ref (n_h g))]) (v := nI (k + 1)) hx hb d_M_give_77 hl (k := 2) rfl (nI_add _ _) (by decide) rfl (fun ls hl => ?_)
  refine lv_goto (tgt := 38) hx hb d_M_give_80 (by decide) ?_
  exact ih (k + 1, nI k) ls ⟨lv_sub hl [2, 1, 0] rfl, by dsimp only; omega, Or.inr ⟨k, by show k < k + 1; omega, rfl, h2, lt_s (fun j hj q => Nat.le_trans (by omega) (hmin j hj q)) (fun _ => Nat.le_refl _)⟩⟩ (by show _ < _; (try dsimp only); omega)
end
section
def mlive (z : MT) (v : Int32) (y k : Nat) : Prop := nI (m_pl z k) = v ∧ m_sta z k = y
/-- no live block stands there: what is thrown -/
def mnot (z : MT) (v : Int32) (y : Nat) : Prop := (∀ k : Nat, k < m_many z → ¬ mlive z v 1 k) ∧ ((y = 2 ∧ ∃ k : Nat, k < m_many z ∧ mlive z v 2 k) ∨ (y = 1 ∧ ∀ k : Nat, k < m_many z → ¬ mlive z v 2 k))
def mq_cpy (z : MT) (x q n : Nat) : MT := mu_oct z (va_cpy (m_oct z) (m_oct z) x q n)
theorem zcpy_0 {f g : Nat → Nat} {x q : Nat} : va_cpy f g x q 0 = g := by
  funext k
  unfold va_cpy
  rw [if_neg (by omega)]
theorem zcpy_s {f : Nat → Nat} {x q j : Nat} (h : x + j < q ∨ q + j ≤ x + j) : va_up (va_cpy f f x q j) (q + j) (va_cpy f f x q j (x + j)) = va_cpy f f x q (j + 1) := by
  funext k
  unfold va_up va_cpy
  by_cases e : k = q + j
  · subst e
    rw [if_pos rfl, if_neg (by omega), if_pos (by omega)]
    congr 1
    omega
  · rw [if_neg e]
    by_cases h2 : q ≤ k ∧ k < q + j
    · rw [if_pos h2, if_pos (by omega)]
    · rw [if_neg h2, if_neg (by omega)]
theorem mOK.make {z : MT} {k n : Nat} (h : mOK z) (hn : n ≤ 2048) (hr : mroom z n k) (hk : k ≠ 0) : mOK (mq_make z k n) := by
  obtain ⟨⟨h1, h1'⟩, h2, h3, h4, h5⟩ := h
  rcases hr with ⟨e, -⟩ | ⟨r1, r2, r3, -⟩
  · exact absurd e hk
  · have up : ∀ (f : Nat → Nat) (v : Nat) {j : Nat}, j < m_many z → va_up f (m_many z) v j = f j := fun f v {j} hj => va_up_ne f v (by omega)
    refine ⟨⟨fun j hj => ?_, fun i j hi hj hij => ?_⟩, fun j => ?_, h3, h4, h5⟩
    · have hj : j < m_many z + 1 := hj
      show 1 ≤ va_up (m_pl z) (m_many z) (16 * k) j / 16 ∧ va_up (m_pl z) (m_many z) (16 * k) j / 16 + zc (va_up (m_sz z) (m_many z) n j) + 1 ≤ 512 ∧ va_up (m_sz z) (m_many z) n j ≤ 2048 ∧ (va_up (m_sta z) (m_many z) 1 j = 1 ∨ va_up (m_sta z) (m_many z) 1 j = 2)
      by_cases e : j = m_many z
      · subst e
        rw [va_up_self, va_up_self, va_up_self]
        exact ⟨by omega, by omega, hn, Or.inl rfl⟩
      · rw [up _ _ (by omega), up _ _ (by omega), up _ _ (by omega)]
        exact h1 j (by omega)
    · have hi : i < m_many z + 1 := hi
      have hj : j < m_many z + 1 := hj
      show va_up (m_pl z) (m_many z) (16 * k) i / 16 + zc (va_up (m_sz z) (m_many z) n i) + 1 ≤ va_up (m_pl z) (m_many z) (16 * k) j / 16 ∨ va_up (m_pl z) (m_many z) (16 * k) j / 16 + zc (va_up (m_sz z) (m_many z) n j) + 1 ≤ va_up (m_pl z) (m_many z) (16 * k) i / 16
      by_cases e : i = m_many z
      · subst e
        rw [va_up_self, va_up_self, up _ _ (by omega), up _ _ (by omega)]
        have := r3 j (by omega)
        have this : ¬ (k < m_pl z j / 16 + zc (m_sz z j) + 1 ∧ m_pl z j / 16 < k + zc n + 1) := this
        omega
      · by_cases e' : j = m_many z
        · subst e'
          rw [va_up_self, va_up_self, up _ _ (by omega), up _ _ (by omega)]
          have := r3 i (by omega)
          have this : ¬ (k < m_pl z i / 16 + zc (m_sz z i) + 1 ∧ m_pl z i / 16 < k + zc n + 1) := this
          omega
        · rw [up _ _ (by omega), up _ _ (by omega), up _ _ (by omega), up _ _ (by omega)]
          exact h1' i j (by omega) (by omega) hij
    · refine ⟨fun hj => ?_, (h2 j).2⟩
      have hj : j < m_many z + 1 := hj
      show va_up (m_pl z) (m_many z) (16 * k) j = 16 * (va_up (m_pl z) (m_many z) (16 * k) j / 16)
      by_cases e : j = m_many z
      · subst e
        rw [va_up_self]
        omega
      · rw [up _ _ (by omega)]
        exact (h2 j).1 (by omega)
set_option maxHeartbeats 1000000 in
set_option maxRecDepth 100000 in
theorem c_M_back_ok (l : Launch) (D : va_G) (t0 : Nat) (g : MG) (z : MT) (sz : Nat) (v : Int32) (hz : mOK z) (hbk : m_backs z + 1 < 100000) : Met l y_M_back w_M_back ({ frames := 2, cells := 0, slots := 0, locals := 70 }) (zPre D t0 (mT g) (mW g z) sz [.ref (n_h g), .int v]) (va_Qi (fun r u => (∃ y : Nat, mnot z v y ∧ u = mu_err z y) ∨ (∃ b : Nat, b < m_many z ∧ mlive z v 1 b ∧ r = nI (m_sz z b) ∧ mgive (mq_mark (mu_err z 0) b) u)) (fun (u : MT) t => zPost D (mT g) (va_A (mW g z) sz) (mW g u) t) (va_A (mW g z) sz)) 0 0 (va_A (mW g z) sz) := by
  refine Met.ofW (cc := c_M_back) (maxL := 4) (ret := (some .int)) (by decide) rfl ?_
  intro p e s m args below meth c s₁ B hml hv
  obtain ⟨rfl, hsz, hP, hK, hD0, hE⟩ := hv
  have hx := B.exec
  have hb := B.bytes
  have hr := B.returns
  have hts := atoms_spec (ws := w_M_back) B.pre
  have hk : ∀ w ∈ zB, w.before _ s = true := fun w h => hts w (List.mem_cons_of_mem _ h)
  have hown : s.vm.findClass "ZoneHeapModel" = some m.cls := findClass_of_methodNamed B.named
  have hlocks := B.notSynchronized
  subst hsz
  have hD := hD0.self (sz := s.heap.size)
  generalize hAe : va_A (mW g z) s.heap.size = A at hD hE ⊢
  have hA : ∀ q : Nat, s.heap.size ≤ q → A q := fun q h => by rw [← hAe]; exact Or.inr h
  have hS : va_S A s.heap s.heap [] := va_S.rf
  have hl := lv_entry ([.ref (n_h g), .int v]) (n := 4) (Nat.le_of_ble_eq_true rfl)
  rw [lg_entry_eq]
  generalize (lg_sl ([.ref (n_h g), .int v]) ++ List.replicate (4 - (lg_sl ([.ref (n_h g), .int v])).length) Slot.unset).toArray = ls at hl ⊢
  have hl : lv_has ls 4 [(0, .ref (n_h g)), (1, .int v)] := hl
  have hm := hz.many
  refine lv_aload_n hx hb d_M_back_0 rfl (lv_at hl 0 rfl) ?_
  refine lv_iload_n hx hb d_M_back_1 rfl (lv_at hl 1 rfl) ?_
  refine lv_iconst (v := nI 1) hx hb d_M_back_2 (by decide) ?_
  refine vp_callSi (zrV (n := 2) (As := [.int v, .int (nI 1)]) (rest := []) ⟨hx, hb, hml, hown, hk⟩ (c_M_at_ok l D t0 g z s.heap.size v 1 (by decide) hz) zk518 zk520 ks_M_at zk5 kc_M_at ⟨rfl, by decide, by decide, by decide⟩ rfl rfl ⟨Nat.le_of_ble_eq_true rfl, Nat.le_of_ble_eq_true rfl⟩ ⟨hP, hK, hD, hS, hA, hE⟩ (va_recv hK hP (ci := 2) (q0 := 0) rfl rfl) rfl hl.1 rfl (Nat.le_of_ble_eq_true rfl) d_M_back_3 ⟨Nat.le_of_ble_eq_true rfl, Nat.le_of_ble_eq_true rfl⟩).run (fun r hr1 => ?_)
  have hr1 : zfst (mlive z v 1) (m_many z) r := hr1
  rcases hr1 with ⟨rfl, hno1⟩ | ⟨b, hb5, rfl, hlv, hfirst⟩
  · refine lv_istore_n (lv' := [(2, .int ((-1))), (0, .ref (n_h g)), (1, .int v)]) hx hb d_M_back_6 rfl hl (by decide) rfl (fun ls hl => ?_)
    refine lv_aload_n hx hb d_M_back_7 rfl (lv_at hl 1 rfl) ?_
    refine lv_iload_n hx hb d_M_back_8 rfl (lv_at hl 0 rfl) ?_
    refine lv_if_ge (tgt := 16) hx hb d_M_back_9 (by decide) (fun h9 => ?_) (fun h9 => ?_)
    · exact absurd h9 (by decide)
    refine lv_iconst (v := nI 1) hx hb d_M_back_12 (by decide) ?_
    refine zh_t (show nI 1 = zb true from rfl) ?_
    refine lv_goto (tgt := 17) hx hb d_M_back_13 (by decide) ?_
    refine lv_aload_n hx hb d_M_back_17 rfl (lv_at hl 1 rfl) ?_
    refine lv_iload_n hx hb d_M_back_18 rfl (lv_at hl 2 rfl) ?_
    refine lv_iconst (v := nI 2) hx hb d_M_back_19 (by decide) ?_
    refine vp_callSi (zrV (n := 2) (As := [.int v, .int (nI 2)]) (rest := [.int (zb true), .ref (n_h g)]) ⟨hx, hb, hml, hown, hk⟩ (c_M_at_ok l D t0 g z s.heap.size v 2 (by decide) hz) zk518 zk520 ks_M_at zk5 kc_M_at ⟨rfl, by decide, by decide, by decide⟩ rfl rfl ⟨Nat.le_of_ble_eq_true rfl, Nat.le_of_ble_eq_true rfl⟩ ⟨hP, hK, hD, hS, hA, hE⟩ (va_recv hK hP (ci := 2) (q0 := 0) rfl rfl) rfl hl.1 rfl (Nat.le_of_ble_eq_true rfl) d_M_back_20 ⟨Nat.le_of_ble_eq_true rfl, Nat.le_of_ble_eq_true rfl⟩).run (fun r2 hr2 => ?_)
    have hr2 : zfst (mlive z v 2) (m_many z) r2 := hr2
    rcases hr2 with ⟨rfl, hno2⟩ | ⟨j2, hj2, rfl, hlv2, -⟩
    · refine lv_if_lt (tgt := 30) hx hb d_M_back_23 (by decide) (fun h9 => ?_) (fun h9 => ?_)
      rotate_left 1
      · exact absurd (by decide) h9
      refine lv_iconst (v := nI 1) hx hb d_M_back_30 (by decide) ?_
      refine zci (zrV (n := 2) (As := [.int (zb true), .int (nI 1)]) (rest := []) ⟨hx, hb, hml, hown, hk⟩ (c_M_fails_ok l D t0 g z s.heap.size true 1) zk499 zk501 ks_M_fails zk5 kc_M_fails ⟨rfl, by decide, by decide, by decide⟩ rfl rfl ⟨Nat.le_of_ble_eq_true rfl, Nat.le_of_ble_eq_true rfl⟩ ⟨hP, hK, hD, hS, hA, hE⟩ (va_recv hK hP (ci := 2) (q0 := 0) rfl rfl) rfl hl.1 rfl (Nat.le_of_ble_eq_true rfl) d_M_back_31 ⟨Nat.le_of_ble_eq_true rfl, Nat.le_of_ble_eq_true rfl⟩) ⟨hP, hK, hD, hS, hA, hE⟩ (fun r u H locs hu hP hK hD hS => ?_)
      obtain ⟨rfl, rfl⟩ := hu
      have hP : va_P D zcl (mW g (mmk 1 (m_oct z) (m_pl z) (m_sz z) (m_sta z) (m_sin z) (m_rea z) (m_fnd z) (m_many z) (m_made z) (m_backs z) (m_lm z))) H := hP
      have hD : va_D A (mW g (mmk 1 (m_oct z) (m_pl z) (m_sz z) (m_sta z) (m_sin z) (m_rea z) (m_fnd z) (m_many z) (m_made z) (m_backs z) (m_lm z))) := hD
      have hK : va_K D zcl (mT g) s := hK
      refine lv_if_eq (tgt := 39) hx hb d_M_back_34 (by decide) (fun h9 => ?_) (fun h9 => ?_)
      · rw [zh_zb] at h9
        exact absurd h9 (by decide)
      refine lv_iconst (v := nI 0) hx hb d_M_back_37 (by decide) ?_
      exact W.iret hx hb hr (fun t ht hW => ⟨⟨_, (mu_err z 1), rfl, Or.inl ⟨1, ⟨hno1, Or.inr ⟨rfl, hno2⟩⟩, rfl⟩, by rw [ht]; exact hP, va_K.moved hW.alike hK, hD⟩, hS.F ht⟩) hS.2.2 d_M_back_38
    refine lv_if_lt (tgt := 30) hx hb d_M_back_23 (by decide) (fun h9 => ?_) (fun h9 => ?_)
    · rw [show (0 : Int32) = nI 0 from rfl, nI_ltI (by omega) (by omega)] at h9
      exact absurd h9 (by omega)
    rw [show (0 : Int32) = nI 0 from rfl, nI_ltI (by omega) (by omega)] at h9
    refine lv_iconst (v := nI 2) hx hb d_M_back_26 (by decide) ?_
    refine lv_goto (tgt := 31) hx hb d_M_back_27 (by decide) ?_
    refine zci (zrV (n := 2) (As := [.int (zb true), .int (nI 2)]) (rest := []) ⟨hx, hb, hml, hown, hk⟩ (c_M_fails_ok l D t0 g z s.heap.size true 2) zk499 zk501 ks_M_fails zk5 kc_M_fails ⟨rfl, by decide, by decide, by decide⟩ rfl rfl ⟨Nat.le_of_ble_eq_true rfl, Nat.le_of_ble_eq_true rfl⟩ ⟨hP, hK, hD, hS, hA, hE⟩ (va_recv hK hP (ci := 2) (q0 := 0) rfl rfl) rfl hl.1 rfl (Nat.le_of_ble_eq_true rfl) d_M_back_31 ⟨Nat.le_of_ble_eq_true rfl, Nat.le_of_ble_eq_true rfl⟩) ⟨hP, hK, hD, hS, hA, hE⟩ (fun r u H locs hu hP hK hD hS => ?_)
    obtain ⟨rfl, rfl⟩ := hu
    have hP : va_P D zcl (mW g (mmk 2 (m_oct z) (m_pl z) (m_sz z) (m_sta z) (m_sin z) (m_rea z) (m_fnd z) (m_many z) (m_made z) (m_backs z) (m_lm z))) H := hP
    have hD : va_D A (mW g (mmk 2 (m_oct z) (m_pl z) (m_sz z) (m_sta z) (m_sin z) (m_rea z) (m_fnd z) (m_many z) (m_made z) (m_backs z) (m_lm z))) := hD
    have hK : va_K D zcl (mT g) s := hK
    refine lv_if_eq (tgt := 39) hx hb d_M_back_34 (by decide) (fun h9 => ?_) (fun h9 => ?_)
    · rw [zh_zb] at h9
      exact absurd h9 (by decide)
    refine lv_iconst (v := nI 0) hx hb d_M_back_37 (by decide) ?_
    exact W.iret hx hb hr (fun t ht hW => ⟨⟨_, (mu_err z 2), rfl, Or.inl ⟨2, ⟨hno1, Or.inl ⟨rfl, j2, hj2, hlv2⟩⟩, rfl⟩, by rw [ht]; exact hP, va_K.moved hW.alike hK, hD⟩, hS.F ht⟩) hS.2.2 d_M_back_38
  refine lv_istore_n (lv' := [(2, .int (nI b)), (0, .ref (n_h g)), (1, .int v)]) hx hb d_M_back_6 rfl hl (by decide) rfl (fun ls hl => ?_)
  refine lv_aload_n hx hb d_M_back_7 rfl (lv_at hl 1 rfl) ?_
  refine lv_iload_n hx hb d_M_back_8 rfl (lv_at hl 0 rfl) ?_
  refine lv_if_ge (tgt := 16) hx hb d_M_back_9 (by decide) (fun h9 => ?_) (fun h9 => ?_)
  rotate_left 1
  · rw [show (0 : Int32) = nI 0 from rfl, nI_leI (by omega) (by omega)] at h9
    exact absurd h9 (by omega)
  rw [show (0 : Int32) = nI 0 from rfl, nI_leI (by omega) (by omega)] at h9
  refine lv_iconst (v := nI 0) hx hb d_M_back_16 (by decide) ?_
  refine zh_t (show nI 0 = zb false from rfl) ?_
  refine lv_aload_n hx hb d_M_back_17 rfl (lv_at hl 1 rfl) ?_
  refine lv_iload_n hx hb d_M_back_18 rfl (lv_at hl 2 rfl) ?_
  refine lv_iconst (v := nI 2) hx hb d_M_back_19 (by decide) ?_
  refine vp_callSi (zrV (n := 2) (As := [.int v, .int (nI 2)]) (rest := [.int (zb false), .ref (n_h g)]) ⟨hx, hb, hml, hown, hk⟩ (c_M_at_ok l D t0 g z s.heap.size v 2 (by decide) hz) zk518 zk520 ks_M_at zk5 kc_M_at ⟨rfl, by decide, by decide, by decide⟩ rfl rfl ⟨Nat.le_of_ble_eq_true rfl, Nat.le_of_ble_eq_true rfl⟩ ⟨hP, hK, hD, hS, hA, hE⟩ (va_recv hK hP (ci := 2) (q0 := 0) rfl rfl) rfl hl.1 rfl (Nat.le_of_ble_eq_true rfl) d_M_back_20 ⟨Nat.le_of_ble_eq_true rfl, Nat.le_of_ble_eq_true rfl⟩).run (fun r2 hr2 => ?_)
  have hr2 : zfst (mlive z v 2) (m_many z) r2 := hr2
  rcases hr2 with ⟨rfl, hno2⟩ | ⟨j2, hj2, rfl, hlv2, -⟩
  · refine lv_if_lt (tgt := 30) hx hb d_M_back_23 (by decide) (fun h9 => ?_) (fun h9 => ?_)
    rotate_left 1
    · exact absurd (by decide) h9
    refine lv_iconst (v := nI 1) hx hb d_M_back_30 (by decide) ?_
    refine zci (zrV (n := 2) (As := [.int (zb false), .int (nI 1)]) (rest := []) ⟨hx, hb, hml, hown, hk⟩ (c_M_fails_ok l D t0 g z s.heap.size false 1) zk499 zk501 ks_M_fails zk5 kc_M_fails ⟨rfl, by decide, by decide, by decide⟩ rfl rfl ⟨Nat.le_of_ble_eq_true rfl, Nat.le_of_ble_eq_true rfl⟩ ⟨hP, hK, hD, hS, hA, hE⟩ (va_recv hK hP (ci := 2) (q0 := 0) rfl rfl) rfl hl.1 rfl (Nat.le_of_ble_eq_true rfl) d_M_back_31 ⟨Nat.le_of_ble_eq_true rfl, Nat.le_of_ble_eq_true rfl⟩) ⟨hP, hK, hD, hS, hA, hE⟩ (fun r u H locs hu hP hK hD hS => ?_)
    obtain ⟨rfl, rfl⟩ := hu
    have hP : va_P D zcl (mW g (mmk 0 (m_oct z) (m_pl z) (m_sz z) (m_sta z) (m_sin z) (m_rea z) (m_fnd z) (m_many z) (m_made z) (m_backs z) (m_lm z))) H := hP
    have hD : va_D A (mW g (mmk 0 (m_oct z) (m_pl z) (m_sz z) (m_sta z) (m_sin z) (m_rea z) (m_fnd z) (m_many z) (m_made z) (m_backs z) (m_lm z))) := hD
    have hK : va_K D zcl (mT g) s := hK
    refine lv_if_eq (tgt := 39) hx hb d_M_back_34 (by decide) (fun h9 => ?_) (fun h9 => ?_)
    rotate_left 1
    · rw [zh_zb] at h9
      exact absurd rfl h9
    have hat := hz.at hb5
    refine lv_aload_n hx hb d_M_back_39 rfl (lv_at hl 1 rfl) ?_
    refine va_get (D := D) (ci := 2) (v := .ref (n_aS g)) (C := RM) (T := TM) (N := 12) hx hb hk inM hown hK hP 0 rfl rfl 3 (by decide) (hk _ zk456) (fun _ h9 => h9) rfl d_M_back_40 ?_
    refine lv_iload_n hx hb d_M_back_43 rfl (lv_at hl 0 rfl) ?_
    refine va_iald hx hb hK hP 3 2 rfl rfl (vp_in_nI (by omega) (by decide)) d_M_back_44 ?_
    refine zh_t (show nI (m_sz z (nI b).toNatClampNeg) = nI (m_sz z b) from by rw [nI_clamp (by omega)]) ?_
    refine lv_istore_n (lv' := [(3, .int (nI (m_sz z b))), (2, .int (nI b)), (0, .ref (n_h g)), (1, .int v)]) hx hb d_M_back_45 rfl hl (by decide) rfl (fun ls hl => ?_)
    refine lv_aload_n hx hb d_M_back_46 rfl (lv_at hl 2 rfl) ?_
    refine lv_iload_n hx hb d_M_back_47 rfl (lv_at hl 1 rfl) ?_
    refine zcv (zrV (n := 1) (As := [.int (nI b)]) (rest := []) ⟨hx, hb, hml, hown, hk⟩ (c_M_give_ok l D t0 g (mmk 0 (m_oct z) (m_pl z) (m_sz z) (m_sta z) (m_sin z) (m_rea z) (m_fnd z) (m_many z) (m_made z) (m_backs z) (m_lm z)) H.size b hb5 hz hbk) zk522 zk524 ks_M_give zk5 kc_M_give ⟨rfl, by decide, by decide, by decide⟩ rfl rfl ⟨Nat.le_of_ble_eq_true rfl, Nat.le_of_ble_eq_true rfl⟩ ⟨hP, hK, hD, hS, hA, hE⟩ (va_recv hK hP (ci := 2) (q0 := 0) rfl rfl) rfl hl.1 rfl (Nat.le_of_ble_eq_true rfl) d_M_back_48 ⟨Nat.le_of_ble_eq_true rfl, Nat.le_of_ble_eq_true rfl⟩) ⟨hP, hK, hD, hS, hA, hE⟩ (fun u H locs hu hP hK hD hS => ?_)
    refine lv_iload_n hx hb d_M_back_51 rfl (lv_at hl 0 rfl) ?_
    exact W.iret hx hb hr (fun t ht hW => ⟨⟨_, u, rfl, Or.inr ⟨b, hb5, hlv, rfl, hu⟩, by rw [ht]; exact hP, va_K.moved hW.alike hK, hD⟩, hS.F ht⟩) hS.2.2 d_M_back_52
  refine lv_if_lt (tgt := 30) hx hb d_M_back_23 (by decide) (fun h9 => ?_) (fun h9 => ?_)
  · rw [show (0 : Int32) = nI 0 from rfl, nI_ltI (by omega) (by omega)] at h9
    exact absurd h9 (by omega)
  rw [show (0 : Int32) = nI 0 from rfl, nI_ltI (by omega) (by omega)] at h9
  refine lv_iconst (v := nI 2) hx hb d_M_back_26 (by decide) ?_
  refine lv_goto (tgt := 31) hx hb d_M_back_27 (by decide) ?_
  refine zci (zrV (n := 2) (As := [.int (zb false), .int (nI 2)]) (rest := []) ⟨hx, hb, hml, hown, hk⟩ (c_M_fails_ok l D t0 g z s.heap.size false 2) zk499 zk501 ks_M_fails zk5 kc_M_fails ⟨rfl, by decide, by decide, by decide⟩ rfl rfl ⟨Nat.le_of_ble_eq_true rfl, Nat.le_of_ble_eq_true rfl⟩ ⟨hP, hK, hD, hS, hA, hE⟩ (va_recv hK hP (ci := 2) (q0 := 0) rfl rfl) rfl hl.1 rfl (Nat.le_of_ble_eq_true rfl) d_M_back_31 ⟨Nat.le_of_ble_eq_true rfl, Nat.le_of_ble_eq_true rfl⟩) ⟨hP, hK, hD, hS, hA, hE⟩ (fun r u H locs hu hP hK hD hS => ?_)
  obtain ⟨rfl, rfl⟩ := hu
  have hP : va_P D zcl (mW g (mmk 0 (m_oct z) (m_pl z) (m_sz z) (m_sta z) (m_sin z) (m_rea z) (m_fnd z) (m_many z) (m_made z) (m_backs z) (m_lm z))) H := hP
  have hD : va_D A (mW g (mmk 0 (m_oct z) (m_pl z) (m_sz z) (m_sta z) (m_sin z) (m_rea z) (m_fnd z) (m_many z) (m_made z) (m_backs z) (m_lm z))) := hD
  have hK : va_K D zcl (mT g) s := hK
  refine lv_if_eq (tgt := 39) hx hb d_M_back_34 (by decide) (fun h9 => ?_) (fun h9 => ?_)
  rotate_left 1
  · rw [zh_zb] at h9
    exact absurd rfl h9
  have hat := hz.at hb5
  refine lv_aload_n hx hb d_M_back_39 rfl (lv_at hl 1 rfl) ?_
  refine va_get (D := D) (ci := 2) (v := .ref (n_aS g)) (C := RM) (T := TM) (N := 12) hx hb hk inM hown hK hP 0 rfl rfl 3 (by decide) (hk _ zk456) (fun _ h9 => h9) rfl d_M_back_40 ?_
  refine lv_iload_n hx hb d_M_back_43 rfl (lv_at hl 0 rfl) ?_
  refine va_iald hx hb hK hP 3 2 rfl rfl (vp_in_nI (by omega) (by decide)) d_M_back_44 ?_
  refine zh_t (show nI (m_sz z (nI b).toNatClampNeg) = nI (m_sz z b) from by rw [nI_clamp (by omega)]) ?_
  refine lv_istore_n (lv' := [(3, .int (nI (m_sz z b))), (2, .int (nI b)), (0, .ref (n_h g)), (1, .int v)]) hx hb d_M_back_45 rfl hl (by decide) rfl (fun ls hl => ?_)
  refine lv_aload_n hx hb d_M_back_46 rfl (lv_at hl 2 rfl) ?_
  refine lv_iload_n hx hb d_M_back_47 rfl (lv_at hl 1 rfl) ?_
  refine zcv (zrV (n := 1) (As := [.int (nI b)]) (rest := []) ⟨hx, hb, hml, hown, hk⟩ (c_M_give_ok l D t0 g (mmk 0 (m_oct z) (m_pl z) (m_sz z) (m_sta z) (m_sin z) (m_rea z) (m_fnd z) (m_many z) (m_made z) (m_backs z) (m_lm z)) H.size b hb5 hz hbk) zk522 zk524 ks_M_give zk5 kc_M_give ⟨rfl, by decide, by decide, by decide⟩ rfl rfl ⟨Nat.le_of_ble_eq_true rfl, Nat.le_of_ble_eq_true rfl⟩ ⟨hP, hK, hD, hS, hA, hE⟩ (va_recv hK hP (ci := 2) (q0 := 0) rfl rfl) rfl hl.1 rfl (Nat.le_of_ble_eq_true rfl) d_M_back_48 ⟨Nat.le_of_ble_eq_true rfl, Nat.le_of_ble_eq_true rfl⟩) ⟨hP, hK, hD, hS, hA, hE⟩ (fun u H locs hu hP hK hD hS => ?_)
  refine lv_iload_n hx hb d_M_back_51 rfl (lv_at hl 0 rfl) ?_
  exact W.iret hx hb hr (fun t ht hW => ⟨⟨_, u, rfl, Or.inr ⟨b, hb5, hlv, rfl, hu⟩, by rw [ht]; exact hP, va_K.moved hW.alike hK, hD⟩, hS.F ht⟩) hS.2.2 d_M_back_52
end
section
set_option maxHeartbeats 1000000 in
set_option maxRecDepth 100000 in
theorem c_M_again_ok (l : Launch) (D : va_G) (t0 : Nat) (g : MG) (z : MT) (sz : Nat) (v v2 : Int32) (hz : mOK z) (hbk : m_backs z + 1 < 100000) : Met l y_M_again w_M_again ({ frames := 3, cells := 0, slots := 0, locals := 90 }) (zPre D t0 (mT g) (mW g z) sz [.ref (n_h g), .int v, .int v2]) (va_Qi (fun r u => (¬ (0 ≤ v2.toInt ∧ v2.toInt ≤ 2048) ∧ u = mu_err z 1) ∨ ((0 ≤ v2.toInt ∧ v2.toInt ≤ 2048) ∧ ((∃ y : Nat, mnot z v y ∧ u = mu_err z y) ∨ (∃ b : Nat, b < m_many z ∧ mlive z v 1 b ∧ ∃ k : Nat, mroom z v2.toInt.toNat k ∧ r = nI (16 * k) ∧ ((k = 0 ∧ u = mu_err z 0) ∨ (k ≠ 0 ∧ mgive (mq_mark (mq_cpy (mq_make (mu_err z 0) k v2.toInt.toNat) (m_pl z b) (16 * k) (min v2.toInt.toNat (m_sz z b))) b) u)))))) (fun (u : MT) t => zPost D (mT g) (va_A (mW g z) sz) (mW g u) t) (va_A (mW g z) sz)) 0 0 (va_A (mW g z) sz) := by
  refine Met.ofW (cc := c_M_again) (maxL := 6) (ret := (some .int)) (by decide) rfl ?_
  intro p e s m args below meth c s₁ B hml hv
  obtain ⟨rfl, hsz, hP, hK, hD0, hE⟩ := hv
  have hx := B.exec
  have hb := B.bytes
  have hr := B.returns
  have hts := atoms_spec (ws := w_M_again) B.pre
  have hk : ∀ w ∈ zB, w.before _ s = true := fun w h => hts w (List.mem_cons_of_mem _ h)
  have hown : s.vm.findClass "ZoneHeapModel" = some m.cls := findClass_of_methodNamed B.named
  have hlocks := B.notSynchronized
  subst hsz
  have hD := hD0.self (sz := s.heap.size)
  generalize hAe : va_A (mW g z) s.heap.size = A at hD hE ⊢
  have hA : ∀ q : Nat, s.heap.size ≤ q → A q := fun q h => by rw [← hAe]; exact Or.inr h
  have hS : va_S A s.heap s.heap [] := va_S.rf
  have hl := lv_entry ([.ref (n_h g), .int v, .int v2]) (n := 6) (Nat.le_of_ble_eq_true rfl)
  rw [lg_entry_eq]
  generalize (lg_sl ([.ref (n_h g), .int v, .int v2]) ++ List.replicate (6 - (lg_sl ([.ref (n_h g), .int v, .int v2])).length) Slot.unset).toArray = ls at hl ⊢
  have hl : lv_has ls 6 [(0, .ref (n_h g)), (1, .int v), (2, .int v2)] := hl
  have hm := hz.many
  refine lv_aload_n hx hb d_M_again_0 rfl (lv_at hl 0 rfl) ?_
  refine lv_iload_n hx hb d_M_again_1 rfl (lv_at hl 2 rfl) ?_
  refine lv_if_lt (tgt := 12) hx hb d_M_again_2 (by decide) (fun h => ?_) (fun h => ?_)
  · refine lv_iconst (v := nI 1) hx hb d_M_again_12 (by decide) ?_
    refine zh_t (show nI 1 = zb true from rfl) ?_
    refine lv_goto (tgt := 17) hx hb d_M_again_13 (by decide) ?_
    refine lv_iconst (v := nI 1) hx hb d_M_again_17 (by decide) ?_
    refine zci (zrV (n := 2) (As := [.int (zb true), .int (nI 1)]) (rest := []) ⟨hx, hb, hml, hown, hk⟩ (c_M_fails_ok l D t0 g z s.heap.size true 1) zk499 zk501 ks_M_fails zk5 kc_M_fails ⟨rfl, by decide, by decide, by decide⟩ rfl rfl ⟨Nat.le_of_ble_eq_true rfl, Nat.le_of_ble_eq_true rfl⟩ ⟨hP, hK, hD, hS, hA, hE⟩ (va_recv hK hP (ci := 2) (q0 := 0) rfl rfl) rfl hl.1 rfl (Nat.le_of_ble_eq_true rfl) d_M_again_18 ⟨Nat.le_of_ble_eq_true rfl, Nat.le_of_ble_eq_true rfl⟩) ⟨hP, hK, hD, hS, hA, hE⟩ (fun r u H locs hu hP hK hD hS => ?_)
    obtain ⟨rfl, rfl⟩ := hu
    have hP : va_P D zcl (mW g (mmk 1 (m_oct z) (m_pl z) (m_sz z) (m_sta z) (m_sin z) (m_rea z) (m_fnd z) (m_many z) (m_made z) (m_backs z) (m_lm z))) H := hP
    have hD : va_D A (mW g (mmk 1 (m_oct z) (m_pl z) (m_sz z) (m_sta z) (m_sin z) (m_rea z) (m_fnd z) (m_many z) (m_made z) (m_backs z) (m_lm z))) := hD
    have hK : va_K D zcl (mT g) s := hK
    refine lv_if_eq (tgt := 26) hx hb d_M_again_21 (by decide) (fun h9 => ?_) (fun h9 => ?_)
    · rw [zh_zb] at h9
      exact absurd h9 (by decide)
    refine lv_iconst (v := nI 0) hx hb d_M_again_24 (by decide) ?_
    exact W.iret hx hb hr (fun t ht hW => ⟨⟨_, (mu_err z 1), rfl, Or.inl ⟨by have := zi_lt0 h; omega, rfl⟩, by rw [ht]; exact hP, va_K.moved hW.alike hK, hD⟩, hS.F ht⟩) hS.2.2 d_M_again_25
  obtain ⟨n, hn31, rfl⟩ := nI_of h
  refine lv_iload_n hx hb d_M_again_5 rfl (lv_at hl 2 rfl) ?_
  refine lv_sipush (v := nI 2048) hx hb d_M_again_6 (by decide) ?_
  refine lv_icmp_le (tgt := 16) hx hb d_M_again_9 (by decide) (fun h => ?_) (fun h => ?_)
  rotate_left 1
  · rw [nI_leI (by omega) (by omega)] at h
    refine lv_iconst (v := nI 1) hx hb d_M_again_12 (by decide) ?_
    refine zh_t (show nI 1 = zb true from rfl) ?_
    refine lv_goto (tgt := 17) hx hb d_M_again_13 (by decide) ?_
    refine lv_iconst (v := nI 1) hx hb d_M_again_17 (by decide) ?_
    refine zci (zrV (n := 2) (As := [.int (zb true), .int (nI 1)]) (rest := []) ⟨hx, hb, hml, hown, hk⟩ (c_M_fails_ok l D t0 g z s.heap.size true 1) zk499 zk501 ks_M_fails zk5 kc_M_fails ⟨rfl, by decide, by decide, by decide⟩ rfl rfl ⟨Nat.le_of_ble_eq_true rfl, Nat.le_of_ble_eq_true rfl⟩ ⟨hP, hK, hD, hS, hA, hE⟩ (va_recv hK hP (ci := 2) (q0 := 0) rfl rfl) rfl hl.1 rfl (Nat.le_of_ble_eq_true rfl) d_M_again_18 ⟨Nat.le_of_ble_eq_true rfl, Nat.le_of_ble_eq_true rfl⟩) ⟨hP, hK, hD, hS, hA, hE⟩ (fun r u H locs hu hP hK hD hS => ?_)
    obtain ⟨rfl, rfl⟩ := hu
    have hP : va_P D zcl (mW g (mmk 1 (m_oct z) (m_pl z) (m_sz z) (m_sta z) (m_sin z) (m_rea z) (m_fnd z) (m_many z) (m_made z) (m_backs z) (m_lm z))) H := hP
    have hD : va_D A (mW g (mmk 1 (m_oct z) (m_pl z) (m_sz z) (m_sta z) (m_sin z) (m_rea z) (m_fnd z) (m_many z) (m_made z) (m_backs z) (m_lm z))) := hD
    have hK : va_K D zcl (mT g) s := hK
    refine lv_if_eq (tgt := 26) hx hb d_M_again_21 (by decide) (fun h9 => ?_) (fun h9 => ?_)
    · rw [zh_zb] at h9
      exact absurd h9 (by decide)
    refine lv_iconst (v := nI 0) hx hb d_M_again_24 (by decide) ?_
    exact W.iret hx hb hr (fun t ht hW => ⟨⟨_, (mu_err z 1), rfl, Or.inl ⟨by rw [nI_toInt hn31]; omega, rfl⟩, by rw [ht]; exact hP, va_K.moved hW.alike hK, hD⟩, hS.F ht⟩) hS.2.2 d_M_again_25
  rw [nI_leI (by omega) (by omega)] at h
  refine lv_iconst (v := nI 0) hx hb d_M_again_16 (by decide) ?_
  refine zh_t (show nI 0 = zb false from rfl) ?_
  refine lv_iconst (v := nI 1) hx hb d_M_again_17 (by decide) ?_
  refine zci (zrV (n := 2) (As := [.int (zb false), .int (nI 1)]) (rest := []) ⟨hx, hb, hml, hown, hk⟩ (c_M_fails_ok l D t0 g z s.heap.size false 1) zk499 zk501 ks_M_fails zk5 kc_M_fails ⟨rfl, by decide, by decide, by decide⟩ rfl rfl ⟨Nat.le_of_ble_eq_true rfl, Nat.le_of_ble_eq_true rfl⟩ ⟨hP, hK, hD, hS, hA, hE⟩ (va_recv hK hP (ci := 2) (q0 := 0) rfl rfl) rfl hl.1 rfl (Nat.le_of_ble_eq_true rfl) d_M_again_18 ⟨Nat.le_of_ble_eq_true rfl, Nat.le_of_ble_eq_true rfl⟩) ⟨hP, hK, hD, hS, hA, hE⟩ (fun r u H locs hu hP hK hD hS => ?_)
  obtain ⟨rfl, rfl⟩ := hu
  have hP : va_P D zcl (mW g (mmk 0 (m_oct z) (m_pl z) (m_sz z) (m_sta z) (m_sin z) (m_rea z) (m_fnd z) (m_many z) (m_made z) (m_backs z) (m_lm z))) H := hP
  have hD : va_D A (mW g (mmk 0 (m_oct z) (m_pl z) (m_sz z) (m_sta z) (m_sin z) (m_rea z) (m_fnd z) (m_many z) (m_made z) (m_backs z) (m_lm z))) := hD
  have hK : va_K D zcl (mT g) s := hK
  refine lv_if_eq (tgt := 26) hx hb d_M_again_21 (by decide) (fun h9 => ?_) (fun h9 => ?_)
  rotate_left 1
  · rw [zh_zb] at h9
    exact absurd rfl h9
  have hvn : (nI n).toInt.toNat = n := by rw [nI_toInt hn31]; rfl
  have hin : 0 ≤ (nI n).toInt ∧ (nI n).toInt ≤ 2048 := by rw [nI_toInt hn31]; omega
  have hn : n ≤ 2048 := h
  refine lv_aload_n hx hb d_M_again_26 rfl (lv_at hl 0 rfl) ?_
  refine lv_iload_n hx hb d_M_again_27 rfl (lv_at hl 1 rfl) ?_
  refine lv_iconst (v := nI 1) hx hb d_M_again_28 (by decide) ?_
  refine vp_callSi (zrV (n := 2) (As := [.int v, .int (nI 1)]) (rest := []) ⟨hx, hb, hml, hown, hk⟩ (c_M_at_ok l D t0 g (mmk 0 (m_oct z) (m_pl z) (m_sz z) (m_sta z) (m_sin z) (m_rea z) (m_fnd z) (m_many z) (m_made z) (m_backs z) (m_lm z)) H.size v 1 (by decide) hz) zk518 zk520 ks_M_at zk5 kc_M_at ⟨rfl, by decide, by decide, by decide⟩ rfl rfl ⟨Nat.le_of_ble_eq_true rfl, Nat.le_of_ble_eq_true rfl⟩ ⟨hP, hK, hD, hS, hA, hE⟩ (va_recv hK hP (ci := 2) (q0 := 0) rfl rfl) rfl hl.1 rfl (Nat.le_of_ble_eq_true rfl) d_M_again_29 ⟨Nat.le_of_ble_eq_true rfl, Nat.le_of_ble_eq_true rfl⟩).run (fun r hr1 => ?_)
  have hr1 : zfst (mlive z v 1) (m_many z) r := hr1
  rcases hr1 with ⟨rfl, hno1⟩ | ⟨b, hb5, rfl, hlv, hfirst⟩
  · refine lv_istore_n (lv' := [(3, .int ((-1))), (0, .ref (n_h g)), (1, .int v), (2, .int (nI n))]) hx hb d_M_again_32 rfl hl (by decide) rfl (fun ls hl => ?_)
    refine lv_aload_n hx hb d_M_again_33 rfl (lv_at hl 1 rfl) ?_
    refine lv_iload_n hx hb d_M_again_34 rfl (lv_at hl 0 rfl) ?_
    refine lv_if_ge (tgt := 42) hx hb d_M_again_35 (by decide) (fun h9 => ?_) (fun h9 => ?_)
    · exact absurd h9 (by decide)
    refine lv_iconst (v := nI 1) hx hb d_M_again_38 (by decide) ?_
    refine zh_t (show nI 1 = zb true from rfl) ?_
    refine lv_goto (tgt := 43) hx hb d_M_again_39 (by decide) ?_
    refine lv_aload_n hx hb d_M_again_43 rfl (lv_at hl 1 rfl) ?_
    refine lv_iload_n hx hb d_M_again_44 rfl (lv_at hl 2 rfl) ?_
    refine lv_iconst (v := nI 2) hx hb d_M_again_45 (by decide) ?_
    refine vp_callSi (zrV (n := 2) (As := [.int v, .int (nI 2)]) (rest := [.int (zb true), .ref (n_h g)]) ⟨hx, hb, hml, hown, hk⟩ (c_M_at_ok l D t0 g (mmk 0 (m_oct z) (m_pl z) (m_sz z) (m_sta z) (m_sin z) (m_rea z) (m_fnd z) (m_many z) (m_made z) (m_backs z) (m_lm z)) H.size v 2 (by decide) hz) zk518 zk520 ks_M_at zk5 kc_M_at ⟨rfl, by decide, by decide, by decide⟩ rfl rfl ⟨Nat.le_of_ble_eq_true rfl, Nat.le_of_ble_eq_true rfl⟩ ⟨hP, hK, hD, hS, hA, hE⟩ (va_recv hK hP (ci := 2) (q0 := 0) rfl rfl) rfl hl.1 rfl (Nat.le_of_ble_eq_true rfl) d_M_again_46 ⟨Nat.le_of_ble_eq_true rfl, Nat.le_of_ble_eq_true rfl⟩).run (fun r2 hr2 => ?_)
    have hr2 : zfst (mlive z v 2) (m_many z) r2 := hr2
    rcases hr2 with ⟨rfl, hno2⟩ | ⟨j2, hj2, rfl, hlv2, -⟩
    · refine lv_if_lt (tgt := 56) hx hb d_M_again_49 (by decide) (fun h9 => ?_) (fun h9 => ?_)
      rotate_left 1
      · exact absurd (by decide) h9
      refine lv_iconst (v := nI 1) hx hb d_M_again_56 (by decide) ?_
      refine zci (zrV (n := 2) (As := [.int (zb true), .int (nI 1)]) (rest := []) ⟨hx, hb, hml, hown, hk⟩ (c_M_fails_ok l D t0 g (mmk 0 (m_oct z) (m_pl z) (m_sz z) (m_sta z) (m_sin z) (m_rea z) (m_fnd z) (m_many z) (m_made z) (m_backs z) (m_lm z)) H.size true 1) zk499 zk501 ks_M_fails zk5 kc_M_fails ⟨rfl, by decide, by decide, by decide⟩ rfl rfl ⟨Nat.le_of_ble_eq_true rfl, Nat.le_of_ble_eq_true rfl⟩ ⟨hP, hK, hD, hS, hA, hE⟩ (va_recv hK hP (ci := 2) (q0 := 0) rfl rfl) rfl hl.1 rfl (Nat.le_of_ble_eq_true rfl) d_M_again_57 ⟨Nat.le_of_ble_eq_true rfl, Nat.le_of_ble_eq_true rfl⟩) ⟨hP, hK, hD, hS, hA, hE⟩ (fun r u H locs hu hP hK hD hS => ?_)
      obtain ⟨rfl, rfl⟩ := hu
      have hP : va_P D zcl (mW g (mmk 1 (m_oct z) (m_pl z) (m_sz z) (m_sta z) (m_sin z) (m_rea z) (m_fnd z) (m_many z) (m_made z) (m_backs z) (m_lm z))) H := hP
      have hD : va_D A (mW g (mmk 1 (m_oct z) (m_pl z) (m_sz z) (m_sta z) (m_sin z) (m_rea z) (m_fnd z) (m_many z) (m_made z) (m_backs z) (m_lm z))) := hD
      have hK : va_K D zcl (mT g) s := hK
      refine lv_if_eq (tgt := 65) hx hb d_M_again_60 (by decide) (fun h9 => ?_) (fun h9 => ?_)
      · rw [zh_zb] at h9
        exact absurd h9 (by decide)
      refine lv_iconst (v := nI 0) hx hb d_M_again_63 (by decide) ?_
      exact W.iret hx hb hr (fun t ht hW => ⟨⟨_, (mu_err z 1), rfl, Or.inr ⟨hin, Or.inl ⟨1, ⟨hno1, Or.inr ⟨rfl, hno2⟩⟩, rfl⟩⟩, by rw [ht]; exact hP, va_K.moved hW.alike hK, hD⟩, hS.F ht⟩) hS.2.2 d_M_again_64
    refine lv_if_lt (tgt := 56) hx hb d_M_again_49 (by decide) (fun h9 => ?_) (fun h9 => ?_)
    · rw [show (0 : Int32) = nI 0 from rfl, nI_ltI (by omega) (by omega)] at h9
      exact absurd h9 (by omega)
    rw [show (0 : Int32) = nI 0 from rfl, nI_ltI (by omega) (by omega)] at h9
    refine lv_iconst (v := nI 2) hx hb d_M_again_52 (by decide) ?_
    refine lv_goto (tgt := 57) hx hb d_M_again_53 (by decide) ?_
    refine zci (zrV (n := 2) (As := [.int (zb true), .int (nI 2)]) (rest := []) ⟨hx, hb, hml, hown, hk⟩ (c_M_fails_ok l D t0 g (mmk 0 (m_oct z) (m_pl z) (m_sz z) (m_sta z) (m_sin z) (m_rea z) (m_fnd z) (m_many z) (m_made z) (m_backs z) (m_lm z)) H.size true 2) zk499 zk501 ks_M_fails zk5 kc_M_fails ⟨rfl, by decide, by decide, by decide⟩ rfl rfl ⟨Nat.le_of_ble_eq_true rfl, Nat.le_of_ble_eq_true rfl⟩ ⟨hP, hK, hD, hS, hA, hE⟩ (va_recv hK hP (ci := 2) (q0 := 0) rfl rfl) rfl hl.1 rfl (Nat.le_of_ble_eq_true rfl) d_M_again_57 ⟨Nat.le_of_ble_eq_true rfl, Nat.le_of_ble_eq_true rfl⟩) ⟨hP, hK, hD, hS, hA, hE⟩ (fun r u H locs hu hP hK hD hS => ?_)
    obtain ⟨rfl, rfl⟩ := hu
    have hP : va_P D zcl (mW g (mmk 2 (m_oct z) (m_pl z) (m_sz z) (m_sta z) (m_sin z) (m_rea z) (m_fnd z) (m_many z) (m_made z) (m_backs z) (m_lm z))) H := hP
    have hD : va_D A (mW g (mmk 2 (m_oct z) (m_pl z) (m_sz z) (m_sta z) (m_sin z) (m_rea z) (m_fnd z) (m_many z) (m_made z) (m_backs z) (m_lm z))) := hD
    have hK : va_K D zcl (mT g) s := hK
    refine lv_if_eq (tgt := 65) hx hb d_M_again_60 (by decide) (fun h9 => ?_) (fun h9 => ?_)
    · rw [zh_zb] at h9
      exact absurd h9 (by decide)
    refine lv_iconst (v := nI 0) hx hb d_M_again_63 (by decide) ?_
    exact W.iret hx hb hr (fun t ht hW => ⟨⟨_, (mu_err z 2), rfl, Or.inr ⟨hin, Or.inl ⟨2, ⟨hno1, Or.inl ⟨rfl, j2, hj2, hlv2⟩⟩, rfl⟩⟩, by rw [ht]; exact hP, va_K.moved hW.alike hK, hD⟩, hS.F ht⟩) hS.2.2 d_M_again_64
  refine lv_istore_n (lv' := [(3, .int (nI b)), (0, .ref (n_h g)), (1, .int v), (2, .int (nI n))]) hx hb d_M_again_32 rfl hl (by decide) rfl (fun ls hl => ?_)
  refine lv_aload_n hx hb d_M_again_33 rfl (lv_at hl 1 rfl) ?_
  refine lv_iload_n hx hb d_M_again_34 rfl (lv_at hl 0 rfl) ?_
  refine lv_if_ge (tgt := 42) hx hb d_M_again_35 (by decide) (fun h9 => ?_) (fun h9 => ?_)
  rotate_left 1
  · rw [show (0 : Int32) = nI 0 from rfl, nI_leI (by omega) (by omega)] at h9
    exact absurd h9 (by omega)
  rw [show (0 : Int32) = nI 0 from rfl, nI_leI (by omega) (by omega)] at h9
  refine lv_iconst (v := nI 0) hx hb d_M_again_42 (by decide) ?_
  refine zh_t (show nI 0 = zb false from rfl) ?_
  refine lv_aload_n hx hb d_M_again_43 rfl (lv_at hl 1 rfl) ?_
  refine lv_iload_n hx hb d_M_again_44 rfl (lv_at hl 2 rfl) ?_
  refine lv_iconst (v := nI 2) hx hb d_M_again_45 (by decide) ?_
  refine vp_callSi (zrV (n := 2) (As := [.int v, .int (nI 2)]) (rest := [.int (zb false), .ref (n_h g)]) ⟨hx, hb, hml, hown, hk⟩ (c_M_at_ok l D t0 g (mmk 0 (m_oct z) (m_pl z) (m_sz z) (m_sta z) (m_sin z) (m_rea z) (m_fnd z) (m_many z) (m_made z) (m_backs z) (m_lm z)) H.size v 2 (by decide) hz) zk518 zk520 ks_M_at zk5 kc_M_at ⟨rfl, by decide, by decide, by decide⟩ rfl rfl ⟨Nat.le_of_ble_eq_true rfl, Nat.le_of_ble_eq_true rfl⟩ ⟨hP, hK, hD, hS, hA, hE⟩ (va_recv hK hP (ci := 2) (q0 := 0) rfl rfl) rfl hl.1 rfl (Nat.le_of_ble_eq_true rfl) d_M_again_46 ⟨Nat.le_of_ble_eq_true rfl, Nat.le_of_ble_eq_true rfl⟩).run (fun r2 hr2 => ?_)
  have hr2 : zfst (mlive z v 2) (m_many z) r2 := hr2
  rcases hr2 with ⟨rfl, hno2⟩ | ⟨j2, hj2, rfl, hlv2, -⟩
  · refine lv_if_lt (tgt := 56) hx hb d_M_again_49 (by decide) (fun h9 => ?_) (fun h9 => ?_)
    rotate_left 1
    · exact absurd (by decide) h9
    refine lv_iconst (v := nI 1) hx hb d_M_again_56 (by decide) ?_
    refine zci (zrV (n := 2) (As := [.int (zb false), .int (nI 1)]) (rest := []) ⟨hx, hb, hml, hown, hk⟩ (c_M_fails_ok l D t0 g (mmk 0 (m_oct z) (m_pl z) (m_sz z) (m_sta z) (m_sin z) (m_rea z) (m_fnd z) (m_many z) (m_made z) (m_backs z) (m_lm z)) H.size false 1) zk499 zk501 ks_M_fails zk5 kc_M_fails ⟨rfl, by decide, by decide, by decide⟩ rfl rfl ⟨Nat.le_of_ble_eq_true rfl, Nat.le_of_ble_eq_true rfl⟩ ⟨hP, hK, hD, hS, hA, hE⟩ (va_recv hK hP (ci := 2) (q0 := 0) rfl rfl) rfl hl.1 rfl (Nat.le_of_ble_eq_true rfl) d_M_again_57 ⟨Nat.le_of_ble_eq_true rfl, Nat.le_of_ble_eq_true rfl⟩) ⟨hP, hK, hD, hS, hA, hE⟩ (fun r u H locs hu hP hK hD hS => ?_)
    obtain ⟨rfl, rfl⟩ := hu
    have hP : va_P D zcl (mW g (mmk 0 (m_oct z) (m_pl z) (m_sz z) (m_sta z) (m_sin z) (m_rea z) (m_fnd z) (m_many z) (m_made z) (m_backs z) (m_lm z))) H := hP
    have hD : va_D A (mW g (mmk 0 (m_oct z) (m_pl z) (m_sz z) (m_sta z) (m_sin z) (m_rea z) (m_fnd z) (m_many z) (m_made z) (m_backs z) (m_lm z))) := hD
    have hK : va_K D zcl (mT g) s := hK
    refine lv_if_eq (tgt := 65) hx hb d_M_again_60 (by decide) (fun h9 => ?_) (fun h9 => ?_)
    rotate_left 1
    · rw [zh_zb] at h9
      exact absurd rfl h9
    have hat := hz.at hb5
    have hpl : v = nI (m_pl z b) := hlv.1.symm
    refine lv_aload_n hx hb d_M_again_65 rfl (lv_at hl 1 rfl) ?_
    refine lv_iload_n hx hb d_M_again_66 rfl (lv_at hl 3 rfl) ?_
    refine zci (zrV (n := 1) (As := [.int (nI n)]) (rest := []) ⟨hx, hb, hml, hown, hk⟩ (c_M_make_ok l D t0 g (mmk 0 (m_oct z) (m_pl z) (m_sz z) (m_sta z) (m_sin z) (m_rea z) (m_fnd z) (m_many z) (m_made z) (m_backs z) (m_lm z)) H.size n hn hz) zk503 zk505 ks_M_make zk5 kc_M_make ⟨rfl, by decide, by decide, by decide⟩ rfl rfl ⟨Nat.le_of_ble_eq_true rfl, Nat.le_of_ble_eq_true rfl⟩ ⟨hP, hK, hD, hS, hA, hE⟩ (va_recv hK hP (ci := 2) (q0 := 0) rfl rfl) rfl hl.1 rfl (Nat.le_of_ble_eq_true rfl) d_M_again_67 ⟨Nat.le_of_ble_eq_true rfl, Nat.le_of_ble_eq_true rfl⟩) ⟨hP, hK, hD, hS, hA, hE⟩ (fun r u H locs hu hP hK hD hS => ?_)
    obtain ⟨k, hroom, rfl, hcase⟩ := hu
    have hroom : mroom z n k := hroom
    have hk512 : k ≤ 512 := by
      rcases hroom with ⟨e0, -⟩ | ⟨e1, e2, -, -⟩ <;> omega
    refine lv_istore (lv' := [(4, .int (nI (16 * k))), (3, .int (nI b)), (0, .ref (n_h g)), (1, .int v), (2, .int (nI n))]) hx hb d_M_again_70 hl (by decide) rfl (fun ls hl => ?_)
    refine lv_iload hx hb d_M_again_72 (lv_at hl 0 rfl) ?_
    refine lv_if_ne (tgt := 79) hx hb d_M_again_74 (by decide) (fun hk0 => ?_) (fun hk0 => ?_)
    rotate_left 1
    · rw [show (0 : Int32) = nI 0 from rfl, nI_eq (by omega) (by omega)] at hk0
      rcases hcase with ⟨-, hue⟩ | ⟨q, -⟩
      · rw [hue] at hP hD
        refine lv_iconst (v := nI 0) hx hb d_M_again_77 (by decide) ?_
        exact W.iret hx hb hr (fun t ht hW => ⟨⟨_, (mu_err z 0), rfl, Or.inr ⟨hin, Or.inr ⟨b, hb5, hlv, k, by rw [hvn]; exact hroom, by rw [show k = 0 by omega], Or.inl ⟨by omega, rfl⟩⟩⟩, by rw [ht]; exact hP, va_K.moved hW.alike hK, hD⟩, hS.F ht⟩) hS.2.2 d_M_again_78
      exact absurd (show k = 0 by omega) q
    rw [show (0 : Int32) = nI 0 from rfl, nI_eq (by omega) (by omega)] at hk0
    rcases hcase with ⟨q, -⟩ | ⟨hkn, hue⟩
    · exact absurd (show 16 * k = 0 by omega) hk0
    rw [hue] at hP hD
    have hP : va_P D zcl (mW g (mq_make (mu_err z 0) k n)) H := hP
    have hD : va_D A (mW g (mq_make (mu_err z 0) k n)) := hD
    have hK : va_K D zcl (mT g) s := hK
    have hmk : mOK (mq_make (mu_err z 0) k n) := mOK.make (z := mu_err z 0) hz hn hroom hkn
    obtain ⟨y, hye⟩ : ∃ q : MT, q = mq_make (mu_err z 0) k n := ⟨_, rfl⟩
    rw [← hye] at hP hD hmk
    have hP : va_P D zcl (mW g y) H := hP
    have hD : va_D A (mW g y) := hD
    have hK : va_K D zcl (mT g) s := hK
    have hyb : m_sz y b = m_sz z b := by rw [hye]; exact va_up_ne (k := m_many z) _ _ (by omega)
    have hypb : m_pl y b = m_pl z b := by rw [hye]; exact va_up_ne (k := m_many z) _ _ (by omega)
    have hymany : m_many y = m_many z + 1 := by rw [hye]; rfl
    have hyp : m_pl y (m_many z) = 16 * k := by rw [hye]; exact va_up_self _ _ _
    have hys : m_sz y (m_many z) = n := by rw [hye]; exact va_up_self _ _ _
    have hya := hmk.at (k := m_many z) (by omega)
    have hyo := hmk.1.2 b (m_many z) (by omega) (by omega) (by omega)
    have hyo : m_pl y b / 16 + zc (m_sz y b) + 1 ≤ m_pl y (m_many z) / 16 ∨ m_pl y (m_many z) / 16 + zc (m_sz y (m_many z)) + 1 ≤ m_pl y b / 16 := hyo
    have hyd := (hmk.2.1 b).1 (by omega)
    have hz1 := zc_ge (m_sz z b)
    have hz2 := zc_ge n
    rw [hyb, hypb, hyp, hys] at hyo
    rw [hypb] at hyd
    rw [hyp, hys] at hya
    subst hpl
    refine lv_iconst (v := nI 0) hx hb d_M_again_79 (by decide) ?_
    refine lv_istore (lv' := [(5, .int (nI 0)), (4, .int (nI (16 * k))), (3, .int (nI b)), (0, .ref (n_h g)), (1, .int (nI (m_pl z b))), (2, .int (nI n))]) hx hb d_M_again_80 hl (by decide) rfl (fun ls hl => ?_)
    refine zh_loopH (A := Nat) (fun q H locs ls => lv_has ls 6 [(0, .ref (n_h g)), (1, .int (nI (m_pl z b))), (2, .int (nI n)), (3, .int (nI b)), (4, .int (nI (16 * k))), (5, .int (nI q))] ∧ va_P D zcl (mW g (mq_cpy y (m_pl z b) (16 * k) q)) H ∧ va_K D zcl (mT g) s ∧ va_D A (mW g (mq_cpy y (m_pl z b) (16 * k) q)) ∧ va_S A s.heap H locs ∧ (q ≤ min n (m_sz z b))) (fun q => n - q) ?_ 0 ⟨lv_sub hl [3, 4, 5, 2, 1, 0] rfl, by rw [show mq_cpy y (m_pl z b) (16 * k) 0 = y from by unfold mq_cpy; rw [zcpy_0]; rfl]; exact hP, hK, by rw [show mq_cpy y (m_pl z b) (16 * k) 0 = y from by unfold mq_cpy; rw [zcpy_0]; rfl]; exact hD, hS, Nat.zero_le _⟩
    rintro j H locs ls ⟨hl, hP, hK, hD, hS, hj⟩ ih
    have hl : lv_has ls 6 [(0, .ref (n_h g)), (1, .int (nI (m_pl z b))), (2, .int (nI n)), (3, .int (nI b)), (4, .int (nI (16 * k))), (5, .int (nI j))] := hl
    have hP : va_P D zcl (mW g (mq_cpy y (m_pl z b) (16 * k) j)) H := hP
    have hK : va_K D zcl (mT g) s := hK
    have hD : va_D A (mW g (mq_cpy y (m_pl z b) (16 * k) j)) := hD
    have hj : j ≤ min n (m_sz z b) := hj
    have hj1 : j ≤ n ∧ j ≤ m_sz z b := by omega
    have hP : va_P D zcl (mW g (mmk (m_err y) (va_cpy (m_oct y) (m_oct y) (m_pl z b) (16 * k) j) (m_pl y) (m_sz y) (m_sta y) (m_sin y) (m_rea y) (m_fnd y) (m_many y) (m_made y) (m_backs y) (m_lm y))) H := hP
    have hD : va_D A (mW g (mmk (m_err y) (va_cpy (m_oct y) (m_oct y) (m_pl z b) (16 * k) j) (m_pl y) (m_sz y) (m_sta y) (m_sin y) (m_rea y) (m_fnd y) (m_many y) (m_made y) (m_backs y) (m_lm y))) := hD
    have hK : va_K D zcl (mT g) s := hK
    refine lv_iload hx hb d_M_again_82 (lv_at hl 5 rfl) ?_
    refine lv_iload_n hx hb d_M_again_84 rfl (lv_at hl 2 rfl) ?_
    refine lv_icmp_ge (tgt := 124) hx hb d_M_again_85 (by decide) (fun h8 => ?_) (fun h8 => ?_)
    · rw [nI_leI (by omega) (by omega)] at h8
      have hje : j = min n (m_sz z b) := by omega
      have hP : va_P D zcl (mW g (mq_cpy y (m_pl z b) (16 * k) j)) H := hP
      have hD : va_D A (mW g (mq_cpy y (m_pl z b) (16 * k) j)) := hD
      have hK : va_K D zcl (mT g) s := hK
      have hz8 : mOK (mq_cpy y (m_pl z b) (16 * k) j) := ⟨hmk.1, hmk.2.1, fun i => by show va_cpy (m_oct y) (m_oct y) (m_pl z b) (16 * k) j i < 256; unfold va_cpy; split <;> exact hmk.2.2.1 _, hmk.2.2.2.1, hmk.2.2.2.2⟩
      have hbk8 : m_backs (mq_cpy y (m_pl z b) (16 * k) j) + 1 < 100000 := by rw [hye]; exact hbk
      have hb8 : b < m_many (mq_cpy y (m_pl z b) (16 * k) j) := by rw [hye]; show b < m_many z + 1; omega
      refine lv_aload_n hx hb d_M_again_124 rfl (lv_at hl 0 rfl) ?_
      refine lv_iload_n hx hb d_M_again_125 rfl (lv_at hl 3 rfl) ?_
      refine zcv (zrV (n := 1) (As := [.int (nI b)]) (rest := []) ⟨hx, hb, hml, hown, hk⟩ (c_M_give_ok l D t0 g (mq_cpy y (m_pl z b) (16 * k) j) H.size b hb8 hz8 hbk8) zk522 zk524 ks_M_give zk5 kc_M_give ⟨rfl, by decide, by decide, by decide⟩ rfl rfl ⟨Nat.le_of_ble_eq_true rfl, Nat.le_of_ble_eq_true rfl⟩ ⟨hP, hK, hD, hS, hA, hE⟩ (va_recv hK hP (ci := 2) (q0 := 0) rfl rfl) rfl hl.1 rfl (Nat.le_of_ble_eq_true rfl) d_M_again_126 ⟨Nat.le_of_ble_eq_true rfl, Nat.le_of_ble_eq_true rfl⟩) ⟨hP, hK, hD, hS, hA, hE⟩ (fun u H locs hu hP hK hD hS => ?_)
      refine lv_iload hx hb d_M_again_129 (lv_at hl 4 rfl) ?_
      exact W.iret hx hb hr (fun t ht hW => ⟨⟨_, u, rfl, Or.inr ⟨hin, Or.inr ⟨b, hb5, hlv, k, by rw [hvn]; exact hroom, rfl, Or.inr ⟨hkn, by rw [hvn, ← hje, ← hye]; exact hu⟩⟩⟩, by rw [ht]; exact hP, va_K.moved hW.alike hK, hD⟩, hS.F ht⟩) hS.2.2 d_M_again_131
    rw [nI_leI (by omega) (by omega)] at h8
    refine lv_iload hx hb d_M_again_88 (lv_at hl 5 rfl) ?_
    refine lv_aload_n hx hb d_M_again_90 rfl (lv_at hl 0 rfl) ?_
    refine va_get (D := D) (ci := 2) (v := .ref (n_aS g)) (C := RM) (T := TM) (N := 12) hx hb hk inM hown hK hP 0 rfl rfl 3 (by decide) (hk _ zk456) (fun _ h9 => h9) rfl d_M_again_91 ?_
    refine lv_iload_n hx hb d_M_again_94 rfl (lv_at hl 3 rfl) ?_
    refine va_iald hx hb hK hP 3 2 rfl rfl (vp_in_nI (by omega) (by decide)) d_M_again_95 ?_
    refine zh_t (show nI (m_sz y (nI b).toNatClampNeg) = nI (m_sz y b) from by rw [nI_clamp (by omega)]) ?_
    refine zh_t (show nI (m_sz y b) = nI (m_sz z b) from by rw [hyb]) ?_
    refine lv_icmp_ge (tgt := 124) hx hb d_M_again_96 (by decide) (fun h7 => ?_) (fun h7 => ?_)
    · rw [nI_leI (by omega) (by omega)] at h7
      have hje : j = min n (m_sz z b) := by omega
      have hP : va_P D zcl (mW g (mq_cpy y (m_pl z b) (16 * k) j)) H := hP
      have hD : va_D A (mW g (mq_cpy y (m_pl z b) (16 * k) j)) := hD
      have hK : va_K D zcl (mT g) s := hK
      have hz8 : mOK (mq_cpy y (m_pl z b) (16 * k) j) := ⟨hmk.1, hmk.2.1, fun i => by show va_cpy (m_oct y) (m_oct y) (m_pl z b) (16 * k) j i < 256; unfold va_cpy; split <;> exact hmk.2.2.1 _, hmk.2.2.2.1, hmk.2.2.2.2⟩
      have hbk8 : m_backs (mq_cpy y (m_pl z b) (16 * k) j) + 1 < 100000 := by rw [hye]; exact hbk
      have hb8 : b < m_many (mq_cpy y (m_pl z b) (16 * k) j) := by rw [hye]; show b < m_many z + 1; omega
      refine lv_aload_n hx hb d_M_again_124 rfl (lv_at hl 0 rfl) ?_
      refine lv_iload_n hx hb d_M_again_125 rfl (lv_at hl 3 rfl) ?_
      refine zcv (zrV (n := 1) (As := [.int (nI b)]) (rest := []) ⟨hx, hb, hml, hown, hk⟩ (c_M_give_ok l D t0 g (mq_cpy y (m_pl z b) (16 * k) j) H.size b hb8 hz8 hbk8) zk522 zk524 ks_M_give zk5 kc_M_give ⟨rfl, by decide, by decide, by decide⟩ rfl rfl ⟨Nat.le_of_ble_eq_true rfl, Nat.le_of_ble_eq_true rfl⟩ ⟨hP, hK, hD, hS, hA, hE⟩ (va_recv hK hP (ci := 2) (q0 := 0) rfl rfl) rfl hl.1 rfl (Nat.le_of_ble_eq_true rfl) d_M_again_126 ⟨Nat.le_of_ble_eq_true rfl, Nat.le_of_ble_eq_true rfl⟩) ⟨hP, hK, hD, hS, hA, hE⟩ (fun u H locs hu hP hK hD hS => ?_)
      refine lv_iload hx hb d_M_again_129 (lv_at hl 4 rfl) ?_
      exact W.iret hx hb hr (fun t ht hW => ⟨⟨_, u, rfl, Or.inr ⟨hin, Or.inr ⟨b, hb5, hlv, k, by rw [hvn]; exact hroom, rfl, Or.inr ⟨hkn, by rw [hvn, ← hje, ← hye]; exact hu⟩⟩⟩, by rw [ht]; exact hP, va_K.moved hW.alike hK, hD⟩, hS.F ht⟩) hS.2.2 d_M_again_131
    rw [nI_leI (by omega) (by omega)] at h7
    refine lv_aload_n hx hb d_M_again_99 rfl (lv_at hl 0 rfl) ?_
    refine va_get (D := D) (ci := 2) (v := .ref (n_aO g)) (C := RM) (T := TM) (N := 12) hx hb hk inM hown hK hP 0 rfl rfl 1 (by decide) (hk _ zk454) (fun _ h9 => h9) rfl d_M_again_100 ?_
    refine lv_iload hx hb d_M_again_103 (lv_at hl 4 rfl) ?_
    refine lv_iload hx hb d_M_again_105 (lv_at hl 5 rfl) ?_
    refine lv_iadd hx hb d_M_again_107 ?_
    refine zh_t (show (nI (16 * k) + nI j) = nI ((16 * k) + j) from nI_add _ _) ?_
    refine lv_aload_n hx hb d_M_again_108 rfl (lv_at hl 0 rfl) ?_
    refine va_get (D := D) (ci := 2) (v := .ref (n_aO g)) (C := RM) (T := TM) (N := 12) hx hb hk inM hown hK hP 0 rfl rfl 1 (by decide) (hk _ zk454) (fun _ h9 => h9) rfl d_M_again_109 ?_
    refine lv_iload_n hx hb d_M_again_112 rfl (lv_at hl 1 rfl) ?_
    refine lv_iload hx hb d_M_again_113 (lv_at hl 5 rfl) ?_
    refine lv_iadd hx hb d_M_again_115 ?_
    refine zh_t (show (nI (m_pl z b) + nI j) = nI (m_pl z b + j) from nI_add _ _) ?_
    refine va_iald hx hb hK hP 1 0 rfl rfl (vp_in_nI (by omega) (by decide)) d_M_again_116 ?_
    refine zh_t (show nI ((va_cpy (m_oct y) (m_oct y) (m_pl z b) (16 * k) j) (nI (m_pl z b + j)).toNatClampNeg) = nI ((va_cpy (m_oct y) (m_oct y) (m_pl z b) (16 * k) j) (m_pl z b + j)) from by rw [nI_clamp (by omega)]) ?_
    refine va_iast hx hb hK hP hD hS 1 0 rfl rfl (vp_in_nI (by omega) (by decide)) d_M_again_117 (fun H locs hP hD hS => ?_)
    rw [zh_upd (by omega)] at hP hD
    have hP : va_P D zcl (mW g (mmk (m_err y) (va_up (va_cpy (m_oct y) (m_oct y) (m_pl z b) (16 * k) j) ((16 * k) + j) ((va_cpy (m_oct y) (m_oct y) (m_pl z b) (16 * k) j) (m_pl z b + j))) (m_pl y) (m_sz y) (m_sta y) (m_sin y) (m_rea y) (m_fnd y) (m_many y) (m_made y) (m_backs y) (m_lm y))) H := hP
    have hD : va_D A (mW g (mmk (m_err y) (va_up (va_cpy (m_oct y) (m_oct y) (m_pl z b) (16 * k) j) ((16 * k) + j) ((va_cpy (m_oct y) (m_oct y) (m_pl z b) (16 * k) j) (m_pl z b + j))) (m_pl y) (m_sz y) (m_sta y) (m_sin y) (m_rea y) (m_fnd y) (m_many y) (m_made y) (m_backs y) (m_lm y))) := hD
    rw [show va_up (va_cpy (m_oct y) (m_oct y) (m_pl z b) (16 * k) j) (16 * k + j) (va_cpy (m_oct y) (m_oct y) (m_pl z b) (16 * k) j (m_pl z b + j)) = va_cpy (m_oct y) (m_oct y) (m_pl z b) (16 * k) (j + 1) from zcpy_s (by omega)] at hP hD
    have hP : va_P D zcl (mW g (mq_cpy y (m_pl z b) (16 * k) (j + 1))) H := hP
    have hD : va_D A (mW g (mq_cpy y (m_pl z b) (16 * k) (j + 1))) := hD
    have hK : va_K D zcl (mT g) s := hK
    refine lv_iinc (lv' := [(5, .int (nI (j + 1))), (0, .ref (n_h g)), (1, .int (nI (m_pl z b))), (2, .int (nI n)), (3, .int (nI b)), (4, .int (nI (16 * k)))]) (v := nI (j + 1)) hx hb d_M_again_118 hl (k := 5) rfl (nI_add _ _) (by decide) rfl (fun ls hl => ?_)
    refine lv_goto (tgt := 82) hx hb d_M_again_121 (by decide) ?_
    exact ih (j + 1) H locs ls ⟨lv_sub hl [1, 2, 3, 4, 5, 0] rfl, hP, hK, hD, hS, by omega⟩ (by show _ < _; (try dsimp only); omega)
  refine lv_if_lt (tgt := 56) hx hb d_M_again_49 (by decide) (fun h9 => ?_) (fun h9 => ?_)
  · rw [show (0 : Int32) = nI 0 from rfl, nI_ltI (by omega) (by omega)] at h9
    exact absurd h9 (by omega)
  rw [show (0 : Int32) = nI 0 from rfl, nI_ltI (by omega) (by omega)] at h9
  refine lv_iconst (v := nI 2) hx hb d_M_again_52 (by decide) ?_
  refine lv_goto (tgt := 57) hx hb d_M_again_53 (by decide) ?_
  refine zci (zrV (n := 2) (As := [.int (zb false), .int (nI 2)]) (rest := []) ⟨hx, hb, hml, hown, hk⟩ (c_M_fails_ok l D t0 g (mmk 0 (m_oct z) (m_pl z) (m_sz z) (m_sta z) (m_sin z) (m_rea z) (m_fnd z) (m_many z) (m_made z) (m_backs z) (m_lm z)) H.size false 2) zk499 zk501 ks_M_fails zk5 kc_M_fails ⟨rfl, by decide, by decide, by decide⟩ rfl rfl ⟨Nat.le_of_ble_eq_true rfl, Nat.le_of_ble_eq_true rfl⟩ ⟨hP, hK, hD, hS, hA, hE⟩ (va_recv hK hP (ci := 2) (q0 := 0) rfl rfl) rfl hl.1 rfl (Nat.le_of_ble_eq_true rfl) d_M_again_57 ⟨Nat.le_of_ble_eq_true rfl, Nat.le_of_ble_eq_true rfl⟩) ⟨hP, hK, hD, hS, hA, hE⟩ (fun r u H locs hu hP hK hD hS => ?_)
  obtain ⟨rfl, rfl⟩ := hu
  have hP : va_P D zcl (mW g (mmk 0 (m_oct z) (m_pl z) (m_sz z) (m_sta z) (m_sin z) (m_rea z) (m_fnd z) (m_many z) (m_made z) (m_backs z) (m_lm z))) H := hP
  have hD : va_D A (mW g (mmk 0 (m_oct z) (m_pl z) (m_sz z) (m_sta z) (m_sin z) (m_rea z) (m_fnd z) (m_many z) (m_made z) (m_backs z) (m_lm z))) := hD
  have hK : va_K D zcl (mT g) s := hK
  refine lv_if_eq (tgt := 65) hx hb d_M_again_60 (by decide) (fun h9 => ?_) (fun h9 => ?_)
  rotate_left 1
  · rw [zh_zb] at h9
    exact absurd rfl h9
  have hat := hz.at hb5
  have hpl : v = nI (m_pl z b) := hlv.1.symm
  refine lv_aload_n hx hb d_M_again_65 rfl (lv_at hl 1 rfl) ?_
  refine lv_iload_n hx hb d_M_again_66 rfl (lv_at hl 3 rfl) ?_
  refine zci (zrV (n := 1) (As := [.int (nI n)]) (rest := []) ⟨hx, hb, hml, hown, hk⟩ (c_M_make_ok l D t0 g (mmk 0 (m_oct z) (m_pl z) (m_sz z) (m_sta z) (m_sin z) (m_rea z) (m_fnd z) (m_many z) (m_made z) (m_backs z) (m_lm z)) H.size n hn hz) zk503 zk505 ks_M_make zk5 kc_M_make ⟨rfl, by decide, by decide, by decide⟩ rfl rfl ⟨Nat.le_of_ble_eq_true rfl, Nat.le_of_ble_eq_true rfl⟩ ⟨hP, hK, hD, hS, hA, hE⟩ (va_recv hK hP (ci := 2) (q0 := 0) rfl rfl) rfl hl.1 rfl (Nat.le_of_ble_eq_true rfl) d_M_again_67 ⟨Nat.le_of_ble_eq_true rfl, Nat.le_of_ble_eq_true rfl⟩) ⟨hP, hK, hD, hS, hA, hE⟩ (fun r u H locs hu hP hK hD hS => ?_)
  obtain ⟨k, hroom, rfl, hcase⟩ := hu
  have hroom : mroom z n k := hroom
  have hk512 : k ≤ 512 := by
    rcases hroom with ⟨e0, -⟩ | ⟨e1, e2, -, -⟩ <;> omega
  refine lv_istore (lv' := [(4, .int (nI (16 * k))), (3, .int (nI b)), (0, .ref (n_h g)), (1, .int v), (2, .int (nI n))]) hx hb d_M_again_70 hl (by decide) rfl (fun ls hl => ?_)
  refine lv_iload hx hb d_M_again_72 (lv_at hl 0 rfl) ?_
  refine lv_if_ne (tgt := 79) hx hb d_M_again_74 (by decide) (fun hk0 => ?_) (fun hk0 => ?_)
  rotate_left 1
  · rw [show (0 : Int32) = nI 0 from rfl, nI_eq (by omega) (by omega)] at hk0
    rcases hcase with ⟨-, hue⟩ | ⟨q, -⟩
    · rw [hue] at hP hD
      refine lv_iconst (v := nI 0) hx hb d_M_again_77 (by decide) ?_
      exact W.iret hx hb hr (fun t ht hW => ⟨⟨_, (mu_err z 0), rfl, Or.inr ⟨hin, Or.inr ⟨b, hb5, hlv, k, by rw [hvn]; exact hroom, by rw [show k = 0 by omega], Or.inl ⟨by omega, rfl⟩⟩⟩, by rw [ht]; exact hP, va_K.moved hW.alike hK, hD⟩, hS.F ht⟩) hS.2.2 d_M_again_78
    exact absurd (show k = 0 by omega) q
  rw [show (0 : Int32) = nI 0 from rfl, nI_eq (by omega) (by omega)] at hk0
  rcases hcase with ⟨q, -⟩ | ⟨hkn, hue⟩
  · exact absurd (show 16 * k = 0 by omega) hk0
  rw [hue] at hP hD
  have hP : va_P D zcl (mW g (mq_make (mu_err z 0) k n)) H := hP
  have hD : va_D A (mW g (mq_make (mu_err z 0) k n)) := hD
  have hK : va_K D zcl (mT g) s := hK
  have hmk : mOK (mq_make (mu_err z 0) k n) := mOK.make (z := mu_err z 0) hz hn hroom hkn
  obtain ⟨y, hye⟩ : ∃ q : MT, q = mq_make (mu_err z 0) k n := ⟨_, rfl⟩
  rw [← hye] at hP hD hmk
  have hP : va_P D zcl (mW g y) H := hP
  have hD : va_D A (mW g y) := hD
  have hK : va_K D zcl (mT g) s := hK
  have hyb : m_sz y b = m_sz z b := by rw [hye]; exact va_up_ne (k := m_many z) _ _ (by omega)
  have hypb : m_pl y b = m_pl z b := by rw [hye]; exact va_up_ne (k := m_many z) _ _ (by omega)
  have hymany : m_many y = m_many z + 1 := by rw [hye]; rfl
  have hyp : m_pl y (m_many z) = 16 * k := by rw [hye]; exact va_up_self _ _ _
  have hys : m_sz y (m_many z) = n := by rw [hye]; exact va_up_self _ _ _
  have hya := hmk.at (k := m_many z) (by omega)
  have hyo := hmk.1.2 b (m_many z) (by omega) (by omega) (by omega)
  have hyo : m_pl y b / 16 + zc (m_sz y b) + 1 ≤ m_pl y (m_many z) / 16 ∨ m_pl y (m_many z) / 16 + zc (m_sz y (m_many z)) + 1 ≤ m_pl y b / 16 := hyo
  have hyd := (hmk.2.1 b).1 (by omega)
  have hz1 := zc_ge (m_sz z b)
  have hz2 := zc_ge n
  rw [hyb, hypb, hyp, hys] at hyo
  rw [hypb] at hyd
  rw [hyp, hys] at hya
  subst hpl
  refine lv_iconst (v := nI 0) hx hb d_M_again_79 (by decide) ?_
  refine lv_istore (lv' := [(5, .int (nI 0)), (4, .int (nI (16 * k))), (3, .int (nI b)), (0, .ref (n_h g)), (1, .int (nI (m_pl z b))), (2, .int (nI n))]) hx hb d_M_again_80 hl (by decide) rfl (fun ls hl => ?_)
  refine zh_loopH (A := Nat) (fun q H locs ls => lv_has ls 6 [(0, .ref (n_h g)), (1, .int (nI (m_pl z b))), (2, .int (nI n)), (3, .int (nI b)), (4, .int (nI (16 * k))), (5, .int (nI q))] ∧ va_P D zcl (mW g (mq_cpy y (m_pl z b) (16 * k) q)) H ∧ va_K D zcl (mT g) s ∧ va_D A (mW g (mq_cpy y (m_pl z b) (16 * k) q)) ∧ va_S A s.heap H locs ∧ (q ≤ min n (m_sz z b))) (fun q => n - q) ?_ 0 ⟨lv_sub hl [3, 4, 5, 2, 1, 0] rfl, by rw [show mq_cpy y (m_pl z b) (16 * k) 0 = y from by unfold mq_cpy; rw [zcpy_0]; rfl]; exact hP, hK, by rw [show mq_cpy y (m_pl z b) (16 * k) 0 = y from by unfold mq_cpy; rw [zcpy_0]; rfl]; exact hD, hS, Nat.zero_le _⟩
  rintro j H locs ls ⟨hl, hP, hK, hD, hS, hj⟩ ih
  have hl : lv_has ls 6 [(0, .ref (n_h g)), (1, .int (nI (m_pl z b))), (2, .int (nI n)), (3, .int (nI b)), (4, .int (nI (16 * k))), (5, .int (nI j))] := hl
  have hP : va_P D zcl (mW g (mq_cpy y (m_pl z b) (16 * k) j)) H := hP
  have hK : va_K D zcl (mT g) s := hK
  have hD : va_D A (mW g (mq_cpy y (m_pl z b) (16 * k) j)) := hD
  have hj : j ≤ min n (m_sz z b) := hj
  have hj1 : j ≤ n ∧ j ≤ m_sz z b := by omega
  have hP : va_P D zcl (mW g (mmk (m_err y) (va_cpy (m_oct y) (m_oct y) (m_pl z b) (16 * k) j) (m_pl y) (m_sz y) (m_sta y) (m_sin y) (m_rea y) (m_fnd y) (m_many y) (m_made y) (m_backs y) (m_lm y))) H := hP
  have hD : va_D A (mW g (mmk (m_err y) (va_cpy (m_oct y) (m_oct y) (m_pl z b) (16 * k) j) (m_pl y) (m_sz y) (m_sta y) (m_sin y) (m_rea y) (m_fnd y) (m_many y) (m_made y) (m_backs y) (m_lm y))) := hD
  have hK : va_K D zcl (mT g) s := hK
  refine lv_iload hx hb d_M_again_82 (lv_at hl 5 rfl) ?_
  refine lv_iload_n hx hb d_M_again_84 rfl (lv_at hl 2 rfl) ?_
  refine lv_icmp_ge (tgt := 124) hx hb d_M_again_85 (by decide) (fun h8 => ?_) (fun h8 => ?_)
  · rw [nI_leI (by omega) (by omega)] at h8
    have hje : j = min n (m_sz z b) := by omega
    have hP : va_P D zcl (mW g (mq_cpy y (m_pl z b) (16 * k) j)) H := hP
    have hD : va_D A (mW g (mq_cpy y (m_pl z b) (16 * k) j)) := hD
    have hK : va_K D zcl (mT g) s := hK
    have hz8 : mOK (mq_cpy y (m_pl z b) (16 * k) j) := ⟨hmk.1, hmk.2.1, fun i => by show va_cpy (m_oct y) (m_oct y) (m_pl z b) (16 * k) j i < 256; unfold va_cpy; split <;> exact hmk.2.2.1 _, hmk.2.2.2.1, hmk.2.2.2.2⟩
    have hbk8 : m_backs (mq_cpy y (m_pl z b) (16 * k) j) + 1 < 100000 := by rw [hye]; exact hbk
    have hb8 : b < m_many (mq_cpy y (m_pl z b) (16 * k) j) := by rw [hye]; show b < m_many z + 1; omega
    refine lv_aload_n hx hb d_M_again_124 rfl (lv_at hl 0 rfl) ?_
    refine lv_iload_n hx hb d_M_again_125 rfl (lv_at hl 3 rfl) ?_
    refine zcv (zrV (n := 1) (As := [.int (nI b)]) (rest := []) ⟨hx, hb, hml, hown, hk⟩ (c_M_give_ok l D t0 g (mq_cpy y (m_pl z b) (16 * k) j) H.size b hb8 hz8 hbk8) zk522 zk524 ks_M_give zk5 kc_M_give ⟨rfl, by decide, by decide, by decide⟩ rfl rfl ⟨Nat.le_of_ble_eq_true rfl, Nat.le_of_ble_eq_true rfl⟩ ⟨hP, hK, hD, hS, hA, hE⟩ (va_recv hK hP (ci := 2) (q0 := 0) rfl rfl) rfl hl.1 rfl (Nat.le_of_ble_eq_true rfl) d_M_again_126 ⟨Nat.le_of_ble_eq_true rfl, Nat.le_of_ble_eq_true rfl⟩) ⟨hP, hK, hD, hS, hA, hE⟩ (fun u H locs hu hP hK hD hS => ?_)
    refine lv_iload hx hb d_M_again_129 (lv_at hl 4 rfl) ?_
    exact W.iret hx hb hr (fun t ht hW => ⟨⟨_, u, rfl, Or.inr ⟨hin, Or.inr ⟨b, hb5, hlv, k, by rw [hvn]; exact hroom, rfl, Or.inr ⟨hkn, by rw [hvn, ← hje, ← hye]; exact hu⟩⟩⟩, by rw [ht]; exact hP, va_K.moved hW.alike hK, hD⟩, hS.F ht⟩) hS.2.2 d_M_again_131
  rw [nI_leI (by omega) (by omega)] at h8
  refine lv_iload hx hb d_M_again_88 (lv_at hl 5 rfl) ?_
  refine lv_aload_n hx hb d_M_again_90 rfl (lv_at hl 0 rfl) ?_
  refine va_get (D := D) (ci := 2) (v := .ref (n_aS g)) (C := RM) (T := TM) (N := 12) hx hb hk inM hown hK hP 0 rfl rfl 3 (by decide) (hk _ zk456) (fun _ h9 => h9) rfl d_M_again_91 ?_
  refine lv_iload_n hx hb d_M_again_94 rfl (lv_at hl 3 rfl) ?_
  refine va_iald hx hb hK hP 3 2 rfl rfl (vp_in_nI (by omega) (by decide)) d_M_again_95 ?_
  refine zh_t (show nI (m_sz y (nI b).toNatClampNeg) = nI (m_sz y b) from by rw [nI_clamp (by omega)]) ?_
  refine zh_t (show nI (m_sz y b) = nI (m_sz z b) from by rw [hyb]) ?_
  refine lv_icmp_ge (tgt := 124) hx hb d_M_again_96 (by decide) (fun h7 => ?_) (fun h7 => ?_)
  · rw [nI_leI (by omega) (by omega)] at h7
    have hje : j = min n (m_sz z b) := by omega
    have hP : va_P D zcl (mW g (mq_cpy y (m_pl z b) (16 * k) j)) H := hP
    have hD : va_D A (mW g (mq_cpy y (m_pl z b) (16 * k) j)) := hD
    have hK : va_K D zcl (mT g) s := hK
    have hz8 : mOK (mq_cpy y (m_pl z b) (16 * k) j) := ⟨hmk.1, hmk.2.1, fun i => by show va_cpy (m_oct y) (m_oct y) (m_pl z b) (16 * k) j i < 256; unfold va_cpy; split <;> exact hmk.2.2.1 _, hmk.2.2.2.1, hmk.2.2.2.2⟩
    have hbk8 : m_backs (mq_cpy y (m_pl z b) (16 * k) j) + 1 < 100000 := by rw [hye]; exact hbk
    have hb8 : b < m_many (mq_cpy y (m_pl z b) (16 * k) j) := by rw [hye]; show b < m_many z + 1; omega
    refine lv_aload_n hx hb d_M_again_124 rfl (lv_at hl 0 rfl) ?_
    refine lv_iload_n hx hb d_M_again_125 rfl (lv_at hl 3 rfl) ?_
    refine zcv (zrV (n := 1) (As := [.int (nI b)]) (rest := []) ⟨hx, hb, hml, hown, hk⟩ (c_M_give_ok l D t0 g (mq_cpy y (m_pl z b) (16 * k) j) H.size b hb8 hz8 hbk8) zk522 zk524 ks_M_give zk5 kc_M_give ⟨rfl, by decide, by decide, by decide⟩ rfl rfl ⟨Nat.le_of_ble_eq_true rfl, Nat.le_of_ble_eq_true rfl⟩ ⟨hP, hK, hD, hS, hA, hE⟩ (va_recv hK hP (ci := 2) (q0 := 0) rfl rfl) rfl hl.1 rfl (Nat.le_of_ble_eq_true rfl) d_M_again_126 ⟨Nat.le_of_ble_eq_true rfl, Nat.le_of_ble_eq_true rfl⟩) ⟨hP, hK, hD, hS, hA, hE⟩ (fun u H locs hu hP hK hD hS => ?_)
    refine lv_iload hx hb d_M_again_129 (lv_at hl 4 rfl) ?_
    exact W.iret hx hb hr (fun t ht hW => ⟨⟨_, u, rfl, Or.inr ⟨hin, Or.inr ⟨b, hb5, hlv, k, by rw [hvn]; exact hroom, rfl, Or.inr ⟨hkn, by rw [hvn, ← hje, ← hye]; exact hu⟩⟩⟩, by rw [ht]; exact hP, va_K.moved hW.alike hK, hD⟩, hS.F ht⟩) hS.2.2 d_M_again_131
  rw [nI_leI (by omega) (by omega)] at h7
  refine lv_aload_n hx hb d_M_again_99 rfl (lv_at hl 0 rfl) ?_
  refine va_get (D := D) (ci := 2) (v := .ref (n_aO g)) (C := RM) (T := TM) (N := 12) hx hb hk inM hown hK hP 0 rfl rfl 1 (by decide) (hk _ zk454) (fun _ h9 => h9) rfl d_M_again_100 ?_
  refine lv_iload hx hb d_M_again_103 (lv_at hl 4 rfl) ?_
  refine lv_iload hx hb d_M_again_105 (lv_at hl 5 rfl) ?_
  refine lv_iadd hx hb d_M_again_107 ?_
  refine zh_t (show (nI (16 * k) + nI j) = nI ((16 * k) + j) from nI_add _ _) ?_
  refine lv_aload_n hx hb d_M_again_108 rfl (lv_at hl 0 rfl) ?_
  refine va_get (D := D) (ci := 2) (v := .ref (n_aO g)) (C := RM) (T := TM) (N := 12) hx hb hk inM hown hK hP 0 rfl rfl 1 (by decide) (hk _ zk454) (fun _ h9 => h9) rfl d_M_again_109 ?_
  refine lv_iload_n hx hb d_M_again_112 rfl (lv_at hl 1 rfl) ?_
  refine lv_iload hx hb d_M_again_113 (lv_at hl 5 rfl) ?_
  refine lv_iadd hx hb d_M_again_115 ?_
  refine zh_t (show (nI (m_pl z b) + nI j) = nI (m_pl z b + j) from nI_add _ _) ?_
  refine va_iald hx hb hK hP 1 0 rfl rfl (vp_in_nI (by omega) (by decide)) d_M_again_116 ?_
  refine zh_t (show nI ((va_cpy (m_oct y) (m_oct y) (m_pl z b) (16 * k) j) (nI (m_pl z b + j)).toNatClampNeg) = nI ((va_cpy (m_oct y) (m_oct y) (m_pl z b) (16 * k) j) (m_pl z b + j)) from by rw [nI_clamp (by omega)]) ?_
  refine va_iast hx hb hK hP hD hS 1 0 rfl rfl (vp_in_nI (by omega) (by decide)) d_M_again_117 (fun H locs hP hD hS => ?_)
  rw [zh_upd (by omega)] at hP hD
  have hP : va_P D zcl (mW g (mmk (m_err y) (va_up (va_cpy (m_oct y) (m_oct y) (m_pl z b) (16 * k) j) ((16 * k) + j) ((va_cpy (m_oct y) (m_oct y) (m_pl z b) (16 * k) j) (m_pl z b + j))) (m_pl y) (m_sz y) (m_sta y) (m_sin y) (m_rea y) (m_fnd y) (m_many y) (m_made y) (m_backs y) (m_lm y))) H := hP
  have hD : va_D A (mW g (mmk (m_err y) (va_up (va_cpy (m_oct y) (m_oct y) (m_pl z b) (16 * k) j) ((16 * k) + j) ((va_cpy (m_oct y) (m_oct y) (m_pl z b) (16 * k) j) (m_pl z b + j))) (m_pl y) (m_sz y) (m_sta y) (m_sin y) (m_rea y) (m_fnd y) (m_many y) (m_made y) (m_backs y) (m_lm y))) := hD
  rw [show va_up (va_cpy (m_oct y) (m_oct y) (m_pl z b) (16 * k) j) (16 * k + j) (va_cpy (m_oct y) (m_oct y) (m_pl z b) (16 * k) j (m_pl z b + j)) = va_cpy (m_oct y) (m_oct y) (m_pl z b) (16 * k) (j + 1) from zcpy_s (by omega)] at hP hD
  have hP : va_P D zcl (mW g (mq_cpy y (m_pl z b) (16 * k) (j + 1))) H := hP
  have hD : va_D A (mW g (mq_cpy y (m_pl z b) (16 * k) (j + 1))) := hD
  have hK : va_K D zcl (mT g) s := hK
  refine lv_iinc (lv' := [(5, .int (nI (j + 1))), (0, .ref (n_h g)), (1, .int (nI (m_pl z b))), (2, .int (nI n)), (3, .int (nI b)), (4, .int (nI (16 * k)))]) (v := nI (j + 1)) hx hb d_M_again_118 hl (k := 5) rfl (nI_add _ _) (by decide) rfl (fun ls hl => ?_)
  refine lv_goto (tgt := 82) hx hb d_M_again_121 (by decide) ?_
  exact ih (j + 1) H locs ls ⟨lv_sub hl [1, 2, 3, 4, 5, 0] rfl, hP, hK, hD, hS, by omega⟩ (by show _ < _; (try dsimp only); omega)
end
section
def mlv (z : MT) (i : Nat) : Nat := zsum (fun k => if m_sta z k = 1 then 1 else 0) i
def mlo (z : MT) (i : Nat) : Nat := zsum (fun k => if m_sta z k = 1 then m_sz z k else 0) i
theorem mlv_le {z : MT} {i : Nat} : mlv z i ≤ i := by
  have := zsum_mono (f := fun k => if m_sta z k = 1 then 1 else 0) (g := fun _ => 1) (n := i) (fun k _ => by
    show (if m_sta z k = 1 then 1 else 0) ≤ 1
    split <;> omega)
  rw [zsum_const] at this
  have h : mlv z i ≤ i * 1 := this
  omega
def mcount (z : MT) (x : Nat) : Nat := if x = 0 then mlv z (m_many z) else if x = 1 then mlo z (m_many z) else if x = 2 then m_many z - mlv z (m_many z) else if x = 3 then mkept z else m_made z
set_option maxHeartbeats 1000000 in
set_option maxRecDepth 100000 in
theorem c_M_count_ok (l : Launch) (D : va_G) (t0 : Nat) (g : MG) (z : MT) (sz : Nat) (v : Int32) (hz : mOK z) : Met l y_M_count w_M_count ({ frames := 1, cells := 0, slots := 0, locals := 40 }) (zPre D t0 (mT g) (mW g z) sz [.ref (n_h g), .int v]) (va_Qi (fun r u => (¬ (0 ≤ v.toInt ∧ v.toInt ≤ 4) ∧ u = mu_err z 1) ∨ ((0 ≤ v.toInt ∧ v.toInt ≤ 4) ∧ u = mu_err z 0 ∧ r = nI (mcount z v.toInt.toNat))) (fun (u : MT) t => zPost D (mT g) (va_A (mW g z) sz) (mW g u) t) (va_A (mW g z) sz)) 0 0 (va_A (mW g z) sz) := by
  refine Met.ofW (cc := c_M_count) (maxL := 5) (ret := (some .int)) (by decide) rfl ?_
  intro p e s m args below meth c s₁ B hml hv
  obtain ⟨rfl, hsz, hP, hK, hD0, hE⟩ := hv
  have hx := B.exec
  have hb := B.bytes
  have hr := B.returns
  have hts := atoms_spec (ws := w_M_count) B.pre
  have hk : ∀ w ∈ zB, w.before _ s = true := fun w h => hts w (List.mem_cons_of_mem _ h)
  have hown : s.vm.findClass "ZoneHeapModel" = some m.cls := findClass_of_methodNamed B.named
  have hlocks := B.notSynchronized
  subst hsz
  have hD := hD0.self (sz := s.heap.size)
  generalize hAe : va_A (mW g z) s.heap.size = A at hD hE ⊢
  have hA : ∀ q : Nat, s.heap.size ≤ q → A q := fun q h => by rw [← hAe]; exact Or.inr h
  have hS : va_S A s.heap s.heap [] := va_S.rf
  have hl := lv_entry ([.ref (n_h g), .int v]) (n := 5) (Nat.le_of_ble_eq_true rfl)
  rw [lg_entry_eq]
  generalize (lg_sl ([.ref (n_h g), .int v]) ++ List.replicate (5 - (lg_sl ([.ref (n_h g), .int v])).length) Slot.unset).toArray = ls at hl ⊢
  have hl : lv_has ls 5 [(0, .ref (n_h g)), (1, .int v)] := hl
  have hm := hz.many
  refine lv_aload_n hx hb d_M_count_0 rfl (lv_at hl 0 rfl) ?_
  refine lv_iload_n hx hb d_M_count_1 rfl (lv_at hl 1 rfl) ?_
  refine lv_if_lt (tgt := 10) hx hb d_M_count_2 (by decide) (fun h => ?_) (fun h => ?_)
  · refine lv_iconst (v := nI 1) hx hb d_M_count_10 (by decide) ?_
    refine zh_t (show nI 1 = zb true from rfl) ?_
    refine lv_goto (tgt := 15) hx hb d_M_count_11 (by decide) ?_
    refine lv_iconst (v := nI 1) hx hb d_M_count_15 (by decide) ?_
    refine zci (zrV (n := 2) (As := [.int (zb true), .int (nI 1)]) (rest := []) ⟨hx, hb, hml, hown, hk⟩ (c_M_fails_ok l D t0 g z s.heap.size true 1) zk499 zk501 ks_M_fails zk5 kc_M_fails ⟨rfl, by decide, by decide, by decide⟩ rfl rfl ⟨Nat.le_of_ble_eq_true rfl, Nat.le_of_ble_eq_true rfl⟩ ⟨hP, hK, hD, hS, hA, hE⟩ (va_recv hK hP (ci := 2) (q0 := 0) rfl rfl) rfl hl.1 rfl (Nat.le_of_ble_eq_true rfl) d_M_count_16 ⟨Nat.le_of_ble_eq_true rfl, Nat.le_of_ble_eq_true rfl⟩) ⟨hP, hK, hD, hS, hA, hE⟩ (fun r u H locs hu hP hK hD hS => ?_)
    obtain ⟨rfl, rfl⟩ := hu
    have hP : va_P D zcl (mW g (mmk 1 (m_oct z) (m_pl z) (m_sz z) (m_sta z) (m_sin z) (m_rea z) (m_fnd z) (m_many z) (m_made z) (m_backs z) (m_lm z))) H := hP
    have hD : va_D A (mW g (mmk 1 (m_oct z) (m_pl z) (m_sz z) (m_sta z) (m_sin z) (m_rea z) (m_fnd z) (m_many z) (m_made z) (m_backs z) (m_lm z))) := hD
    have hK : va_K D zcl (mT g) s := hK
    refine lv_if_eq (tgt := 24) hx hb d_M_count_19 (by decide) (fun h9 => ?_) (fun h9 => ?_)
    · rw [zh_zb] at h9
      exact absurd h9 (by decide)
    refine lv_iconst (v := nI 0) hx hb d_M_count_22 (by decide) ?_
    exact W.iret hx hb hr (fun t ht hW => ⟨⟨_, (mu_err z 1), rfl, Or.inl ⟨by have := zi_lt0 h; omega, rfl⟩, by rw [ht]; exact hP, va_K.moved hW.alike hK, hD⟩, hS.F ht⟩) hS.2.2 d_M_count_23
  obtain ⟨x, hx31, rfl⟩ := nI_of h
  refine lv_iload_n hx hb d_M_count_5 rfl (lv_at hl 1 rfl) ?_
  refine lv_iconst (v := nI 4) hx hb d_M_count_6 (by decide) ?_
  refine lv_icmp_le (tgt := 14) hx hb d_M_count_7 (by decide) (fun h => ?_) (fun h => ?_)
  rotate_left 1
  · rw [nI_leI (by omega) (by omega)] at h
    refine lv_iconst (v := nI 1) hx hb d_M_count_10 (by decide) ?_
    refine zh_t (show nI 1 = zb true from rfl) ?_
    refine lv_goto (tgt := 15) hx hb d_M_count_11 (by decide) ?_
    refine lv_iconst (v := nI 1) hx hb d_M_count_15 (by decide) ?_
    refine zci (zrV (n := 2) (As := [.int (zb true), .int (nI 1)]) (rest := []) ⟨hx, hb, hml, hown, hk⟩ (c_M_fails_ok l D t0 g z s.heap.size true 1) zk499 zk501 ks_M_fails zk5 kc_M_fails ⟨rfl, by decide, by decide, by decide⟩ rfl rfl ⟨Nat.le_of_ble_eq_true rfl, Nat.le_of_ble_eq_true rfl⟩ ⟨hP, hK, hD, hS, hA, hE⟩ (va_recv hK hP (ci := 2) (q0 := 0) rfl rfl) rfl hl.1 rfl (Nat.le_of_ble_eq_true rfl) d_M_count_16 ⟨Nat.le_of_ble_eq_true rfl, Nat.le_of_ble_eq_true rfl⟩) ⟨hP, hK, hD, hS, hA, hE⟩ (fun r u H locs hu hP hK hD hS => ?_)
    obtain ⟨rfl, rfl⟩ := hu
    have hP : va_P D zcl (mW g (mmk 1 (m_oct z) (m_pl z) (m_sz z) (m_sta z) (m_sin z) (m_rea z) (m_fnd z) (m_many z) (m_made z) (m_backs z) (m_lm z))) H := hP
    have hD : va_D A (mW g (mmk 1 (m_oct z) (m_pl z) (m_sz z) (m_sta z) (m_sin z) (m_rea z) (m_fnd z) (m_many z) (m_made z) (m_backs z) (m_lm z))) := hD
    have hK : va_K D zcl (mT g) s := hK
    refine lv_if_eq (tgt := 24) hx hb d_M_count_19 (by decide) (fun h9 => ?_) (fun h9 => ?_)
    · rw [zh_zb] at h9
      exact absurd h9 (by decide)
    refine lv_iconst (v := nI 0) hx hb d_M_count_22 (by decide) ?_
    exact W.iret hx hb hr (fun t ht hW => ⟨⟨_, (mu_err z 1), rfl, Or.inl ⟨by rw [nI_toInt hx31]; omega, rfl⟩, by rw [ht]; exact hP, va_K.moved hW.alike hK, hD⟩, hS.F ht⟩) hS.2.2 d_M_count_23
  rw [nI_leI (by omega) (by omega)] at h
  refine lv_iconst (v := nI 0) hx hb d_M_count_14 (by decide) ?_
  refine zh_t (show nI 0 = zb false from rfl) ?_
  refine lv_iconst (v := nI 1) hx hb d_M_count_15 (by decide) ?_
  refine zci (zrV (n := 2) (As := [.int (zb false), .int (nI 1)]) (rest := []) ⟨hx, hb, hml, hown, hk⟩ (c_M_fails_ok l D t0 g z s.heap.size false 1) zk499 zk501 ks_M_fails zk5 kc_M_fails ⟨rfl, by decide, by decide, by decide⟩ rfl rfl ⟨Nat.le_of_ble_eq_true rfl, Nat.le_of_ble_eq_true rfl⟩ ⟨hP, hK, hD, hS, hA, hE⟩ (va_recv hK hP (ci := 2) (q0 := 0) rfl rfl) rfl hl.1 rfl (Nat.le_of_ble_eq_true rfl) d_M_count_16 ⟨Nat.le_of_ble_eq_true rfl, Nat.le_of_ble_eq_true rfl⟩) ⟨hP, hK, hD, hS, hA, hE⟩ (fun r u H locs hu hP hK hD hS => ?_)
  obtain ⟨rfl, rfl⟩ := hu
  have hP : va_P D zcl (mW g (mmk 0 (m_oct z) (m_pl z) (m_sz z) (m_sta z) (m_sin z) (m_rea z) (m_fnd z) (m_many z) (m_made z) (m_backs z) (m_lm z))) H := hP
  have hD : va_D A (mW g (mmk 0 (m_oct z) (m_pl z) (m_sz z) (m_sta z) (m_sin z) (m_rea z) (m_fnd z) (m_many z) (m_made z) (m_backs z) (m_lm z))) := hD
  have hK : va_K D zcl (mT g) s := hK
  refine lv_if_eq (tgt := 24) hx hb d_M_count_19 (by decide) (fun h9 => ?_) (fun h9 => ?_)
  rotate_left 1
  · rw [zh_zb] at h9
    exact absurd rfl h9
  have hvn : (nI x).toInt.toNat = x := by rw [nI_toInt hx31]; rfl
  have hin : 0 ≤ (nI x).toInt ∧ (nI x).toInt ≤ 4 := by rw [nI_toInt hx31]; omega
  have hx5 : x ≤ 4 := h
  refine lv_iconst (v := nI 0) hx hb d_M_count_24 (by decide) ?_
  refine lv_istore_n (lv' := [(2, .int (nI 0)), (0, .ref (n_h g)), (1, .int (nI x))]) hx hb d_M_count_25 rfl hl (by decide) rfl (fun ls hl => ?_)
  refine lv_iconst (v := nI 0) hx hb d_M_count_26 (by decide) ?_
  refine lv_istore_n (lv' := [(3, .int (nI 0)), (2, .int (nI 0)), (0, .ref (n_h g)), (1, .int (nI x))]) hx hb d_M_count_27 rfl hl (by decide) rfl (fun ls hl => ?_)
  refine lv_iconst (v := nI 0) hx hb d_M_count_28 (by decide) ?_
  refine lv_istore (lv' := [(4, .int (nI 0)), (3, .int (nI 0)), (2, .int (nI 0)), (0, .ref (n_h g)), (1, .int (nI x))]) hx hb d_M_count_29 hl (by decide) rfl (fun ls hl => ?_)
  refine zh_loop0 (A := Nat) (fun q ls => lv_has ls 5 [(0, .ref (n_h g)), (1, .int (nI x)), (2, .int (nI (mlv z q))), (3, .int (nI (mlo z q))), (4, .int (nI q))] ∧ (q ≤ m_many z)) (fun q => m_many z - q) ?_ 0 ⟨lv_sub hl [3, 4, 2, 1, 0] rfl, Nat.zero_le _⟩
  rintro i ls ⟨hl, hi⟩ ih
  have hl : lv_has ls 5 [(0, .ref (n_h g)), (1, .int (nI x)), (2, .int (nI (mlv z i))), (3, .int (nI (mlo z i))), (4, .int (nI i))] := hl
  have hi : i ≤ m_many z := hi
  refine lv_iload hx hb d_M_count_31 (lv_at hl 4 rfl) ?_
  refine lv_aload_n hx hb d_M_count_33 rfl (lv_at hl 0 rfl) ?_
  refine va_get (D := D) (ci := 2) (v := .int (nI (m_many z))) (C := RM) (T := TM) (N := 12) hx hb hk inM hown hK hP 0 rfl rfl 8 (by decide) (hk _ zk461) (fun _ h9 => h9) rfl d_M_count_34 ?_
  refine lv_icmp_ge (tgt := 70) hx hb d_M_count_37 (by decide) (fun h2 => ?_) (fun h2 => ?_)
  · rw [nI_leI (by omega) (by omega)] at h2
    have hie : i = m_many z := by omega
    rw [hie] at hl
    have hl : lv_has ls 5 [(0, .ref (n_h g)), (1, .int (nI x)), (2, .int (nI (mlv z (m_many z)))), (3, .int (nI (mlo z (m_many z))))] := lv_sub hl [0, 1, 2, 3] rfl
    have hlv9 := mlv_le (z := z) (i := m_many z)
    refine lv_iload_n hx hb d_M_count_70 rfl (lv_at hl 1 rfl) ?_
    rcases (show x = 0 ∨ x = 1 ∨ x = 2 ∨ x = 3 ∨ x = 4 by omega) with rfl | rfl | rfl | rfl | rfl
    · refine lv_tableIn (off := 29) (tgt := 100) hx hb d_M_count_71 (by decide) (by decide) (by decide) (by decide) ?_
      refine lv_iload_n hx hb d_M_count_100 rfl (lv_at hl 2 rfl) ?_
      exact W.iret hx hb hr (fun t ht hW => ⟨⟨_, (mu_err z 0), rfl, Or.inr ⟨hin, rfl, by rw [hvn]; rfl⟩, by rw [ht]; exact hP, va_K.moved hW.alike hK, hD⟩, hS.F ht⟩) hS.2.2 d_M_count_101
    · refine lv_tableIn (off := 31) (tgt := 102) hx hb d_M_count_71 (by decide) (by decide) (by decide) (by decide) ?_
      refine lv_iload_n hx hb d_M_count_102 rfl (lv_at hl 3 rfl) ?_
      exact W.iret hx hb hr (fun t ht hW => ⟨⟨_, (mu_err z 0), rfl, Or.inr ⟨hin, rfl, by rw [hvn]; rfl⟩, by rw [ht]; exact hP, va_K.moved hW.alike hK, hD⟩, hS.F ht⟩) hS.2.2 d_M_count_103
    · refine lv_tableIn (off := 33) (tgt := 104) hx hb d_M_count_71 (by decide) (by decide) (by decide) (by decide) ?_
      refine lv_aload_n hx hb d_M_count_104 rfl (lv_at hl 0 rfl) ?_
      refine va_get (D := D) (ci := 2) (v := .int (nI (m_many z))) (C := RM) (T := TM) (N := 12) hx hb hk inM hown hK hP 0 rfl rfl 8 (by decide) (hk _ zk461) (fun _ h9 => h9) rfl d_M_count_105 ?_
      refine lv_iload_n hx hb d_M_count_108 rfl (lv_at hl 2 rfl) ?_
      refine lv_isub hx hb d_M_count_109 ?_
      refine zh_t (show (nI (m_many z) - nI (mlv z (m_many z))) = nI (m_many z - (mlv z (m_many z))) from pk_sub (by omega)) ?_
      exact W.iret hx hb hr (fun t ht hW => ⟨⟨_, (mu_err z 0), rfl, Or.inr ⟨hin, rfl, by rw [hvn]; rfl⟩, by rw [ht]; exact hP, va_K.moved hW.alike hK, hD⟩, hS.F ht⟩) hS.2.2 d_M_count_110
    · refine lv_tableIn (off := 40) (tgt := 111) hx hb d_M_count_71 (by decide) (by decide) (by decide) (by decide) ?_
      refine lv_aload_n hx hb d_M_count_111 rfl (lv_at hl 0 rfl) ?_
      refine vp_callSi (zrV (n := 0) (As := []) (rest := []) ⟨hx, hb, hml, hown, hk⟩ (c_M_kept_ok l D t0 g (mmk 0 (m_oct z) (m_pl z) (m_sz z) (m_sta z) (m_sin z) (m_rea z) (m_fnd z) (m_many z) (m_made z) (m_backs z) (m_lm z)) H.size hz) zk526 zk528 ks_M_kept zk5 kc_M_kept ⟨rfl, by decide, by decide, by decide⟩ rfl rfl ⟨Nat.le_of_ble_eq_true rfl, Nat.le_of_ble_eq_true rfl⟩ ⟨hP, hK, hD, hS, hA, hE⟩ (va_recv hK hP (ci := 2) (q0 := 0) rfl rfl) rfl hl.1 rfl (Nat.le_of_ble_eq_true rfl) d_M_count_112 ⟨Nat.le_of_ble_eq_true rfl, Nat.le_of_ble_eq_true rfl⟩).run (fun r hr1 => ?_)
      subst hr1
      exact W.iret hx hb hr (fun t ht hW => ⟨⟨_, (mu_err z 0), rfl, Or.inr ⟨hin, rfl, by rw [hvn]; rfl⟩, by rw [ht]; exact hP, va_K.moved hW.alike hK, hD⟩, hS.F ht⟩) hS.2.2 d_M_count_115
    · refine lv_tableOut (tgt := 116) hx hb d_M_count_71 (by decide) (by decide) ?_
      refine lv_aload_n hx hb d_M_count_116 rfl (lv_at hl 0 rfl) ?_
      refine va_get (D := D) (ci := 2) (v := .int (nI (m_made z))) (C := RM) (T := TM) (N := 12) hx hb hk inM hown hK hP 0 rfl rfl 9 (by decide) (hk _ zk462) (fun _ h9 => h9) rfl d_M_count_117 ?_
      exact W.iret hx hb hr (fun t ht hW => ⟨⟨_, (mu_err z 0), rfl, Or.inr ⟨hin, rfl, by rw [hvn]; rfl⟩, by rw [ht]; exact hP, va_K.moved hW.alike hK, hD⟩, hS.F ht⟩) hS.2.2 d_M_count_120
  rw [nI_leI (by omega) (by omega)] at h2
  have hat := hz.at (k := i) (by omega)
  refine lv_aload_n hx hb d_M_count_40 rfl (lv_at hl 0 rfl) ?_
  refine va_get (D := D) (ci := 2) (v := .ref (n_aT g)) (C := RM) (T := TM) (N := 12) hx hb hk inM hown hK hP 0 rfl rfl 4 (by decide) (hk _ zk457) (fun _ h9 => h9) rfl d_M_count_41 ?_
  refine lv_iload hx hb d_M_count_44 (lv_at hl 4 rfl) ?_
  refine va_iald hx hb hK hP 4 3 rfl rfl (vp_in_nI (by omega) (by decide)) d_M_count_46 ?_
  refine zh_t (show nI (m_sta z (nI i).toNatClampNeg) = nI (m_sta z i) from by rw [nI_clamp (by omega)]) ?_
  refine lv_iconst (v := nI 1) hx hb d_M_count_47 (by decide) ?_
  refine lv_icmp_ne (tgt := 64) hx hb d_M_count_48 (by decide) (fun h3 => ?_) (fun h3 => ?_)
  · rw [nI_eq (by omega) (by omega)] at h3
    have hl : lv_has ls 5 [(0, .ref (n_h g)), (1, .int (nI x)), (2, .int (nI (mlv z (i + 1)))), (3, .int (nI (mlo z (i + 1)))), (4, .int (nI i))] := by rw [show mlv z (i + 1) = mlv z i + 0 from by unfold mlv; rw [zsum_s, if_neg h3], show mlo z (i + 1) = mlo z i + 0 from by unfold mlo; rw [zsum_s, if_neg h3]]; exact hl
    refine lv_iinc (lv' := [(4, .int (nI (i + 1))), (0, .ref (n_h g)), (1, .int (nI x)), (2, .int (nI (mlv z (i + 1)))), (3, .int (nI (mlo z (i + 1))))]) (v := nI (i + 1)) hx hb d_M_count_64 hl (k := 4) rfl (nI_add _ _) (by decide) rfl (fun ls hl => ?_)
    refine lv_goto (tgt := 31) hx hb d_M_count_67 (by decide) ?_
    exact ih (i + 1) ls ⟨lv_sub hl [1, 2, 3, 4, 0] rfl, by omega⟩ (by show _ < _; (try dsimp only); omega)
  rw [nI_eq (by omega) (by omega)] at h3
  refine lv_iinc (lv' := [(2, .int (nI (mlv z i + 1))), (0, .ref (n_h g)), (1, .int (nI x)), (3, .int (nI (mlo z i))), (4, .int (nI i))]) (v := nI (mlv z i + 1)) hx hb d_M_count_51 hl (k := 2) rfl (nI_add _ _) (by decide) rfl (fun ls hl => ?_)
  refine lv_iload_n hx hb d_M_count_54 rfl (lv_at hl 3 rfl) ?_
  refine lv_aload_n hx hb d_M_count_55 rfl (lv_at hl 1 rfl) ?_
  refine va_get (D := D) (ci := 2) (v := .ref (n_aS g)) (C := RM) (T := TM) (N := 12) hx hb hk inM hown hK hP 0 rfl rfl 3 (by decide) (hk _ zk456) (fun _ h9 => h9) rfl d_M_count_56 ?_
  refine lv_iload hx hb d_M_count_59 (lv_at hl 4 rfl) ?_
  refine va_iald hx hb hK hP 3 2 rfl rfl (vp_in_nI (by omega) (by decide)) d_M_count_61 ?_
  refine zh_t (show nI (m_sz z (nI i).toNatClampNeg) = nI (m_sz z i) from by rw [nI_clamp (by omega)]) ?_
  refine lv_iadd hx hb d_M_count_62 ?_
  refine zh_t (show (nI (mlo z i) + nI (m_sz z i)) = nI (mlo z i + m_sz z i) from nI_add _ _) ?_
  refine lv_istore_n (lv' := [(3, .int (nI (mlo z i + m_sz z i))), (2, .int (nI (mlv z i + 1))), (0, .ref (n_h g)), (1, .int (nI x)), (4, .int (nI i))]) hx hb d_M_count_63 rfl hl (by decide) rfl (fun ls hl => ?_)
  have hl : lv_has ls 5 [(3, .int (nI (mlo z (i + 1)))), (2, .int (nI (mlv z (i + 1)))), (0, .ref (n_h g)), (1, .int (nI x)), (4, .int (nI i))] := by rw [show mlv z (i + 1) = mlv z i + 1 from by unfold mlv; rw [zsum_s, if_pos h3], show mlo z (i + 1) = mlo z i + m_sz z i from by unfold mlo; rw [zsum_s, if_pos h3]]; exact hl
  refine lv_iinc (lv' := [(4, .int (nI (i + 1))), (3, .int (nI (mlo z (i + 1)))), (2, .int (nI (mlv z (i + 1)))), (0, .ref (n_h g)), (1, .int (nI x))]) (v := nI (i + 1)) hx hb d_M_count_64 hl (k := 4) rfl (nI_add _ _) (by decide) rfl (fun ls hl => ?_)
  refine lv_goto (tgt := 31) hx hb d_M_count_67 (by decide) ?_
  exact ih (i + 1) ls ⟨lv_sub hl [3, 4, 2, 1, 0] rfl, by omega⟩ (by show _ < _; (try dsimp only); omega)
end
