section
-- ===== PART A: goes FIRST, ahead of the names: the tables' words, and 'selects' of the private methods out of them =====
/-- a private method of a class that the tables say can be made, by its rows of tables_1 -/
def lw_okq (q : MethodName × Nat) : Prop := (q.1.cls ≠ "java/lang/invoke/MethodHandle" ∧ q.1.cls ≠ "java/lang/invoke/VarHandle") ∧ Cond.instantiable q.1.cls q.2 ∈ tables_1 ∧ Cond.privateMethod q.1 ∈ tables_1 ∧ Cond.instanceMethod q.1 ∈ tables_1
theorem lw_p0 : lw_okq (⟨"ZoneHeap", "forgetReached", "()V"⟩, 11) := ⟨⟨by decide +kernel, by decide +kernel⟩, List.mem_of_getElem? (i := 20) (by decide +kernel), List.mem_of_getElem? (i := 96) (by decide +kernel), List.mem_of_getElem? (i := 97) (by decide +kernel)⟩
theorem lw_p1 : lw_okq (⟨"ZoneHeap", "reach", "(I)V"⟩, 11) := ⟨⟨by decide +kernel, by decide +kernel⟩, List.mem_of_getElem? (i := 20) (by decide +kernel), List.mem_of_getElem? (i := 100) (by decide +kernel), List.mem_of_getElem? (i := 101) (by decide +kernel)⟩
theorem lw_p2 : lw_okq (⟨"ZoneHeap", "ledToBy", "(I)LZoneHeap$Block;"⟩, 11) := ⟨⟨by decide +kernel, by decide +kernel⟩, List.mem_of_getElem? (i := 20) (by decide +kernel), List.mem_of_getElem? (i := 104) (by decide +kernel), List.mem_of_getElem? (i := 105) (by decide +kernel)⟩
theorem lw_p3 : lw_okq (⟨"ZoneHeap", "standingAt", "(I)LZoneHeap$Block;"⟩, 11) := ⟨⟨by decide +kernel, by decide +kernel⟩, List.mem_of_getElem? (i := 20) (by decide +kernel), List.mem_of_getElem? (i := 108) (by decide +kernel), List.mem_of_getElem? (i := 109) (by decide +kernel)⟩
theorem lw_p4 : lw_okq (⟨"ZoneHeap", "liveHaving", "(I)LZoneHeap$Block;"⟩, 11) := ⟨⟨by decide +kernel, by decide +kernel⟩, List.mem_of_getElem? (i := 20) (by decide +kernel), List.mem_of_getElem? (i := 115) (by decide +kernel), List.mem_of_getElem? (i := 116) (by decide +kernel)⟩
theorem lw_p5 : lw_okq (⟨"ZoneHeap$Block", "has", "(I)Z"⟩, 4) := ⟨⟨by decide +kernel, by decide +kernel⟩, List.mem_of_getElem? (i := 121) (by decide +kernel), List.mem_of_getElem? (i := 119) (by decide +kernel), List.mem_of_getElem? (i := 120) (by decide +kernel)⟩
theorem lw_p6 : lw_okq (⟨"ZoneHeap", "reachFromWordsOf", "(LZoneHeap$Block;)V"⟩, 11) := ⟨⟨by decide +kernel, by decide +kernel⟩, List.mem_of_getElem? (i := 20) (by decide +kernel), List.mem_of_getElem? (i := 124) (by decide +kernel), List.mem_of_getElem? (i := 125) (by decide +kernel)⟩
theorem lw_p7 : lw_okq (⟨"ZoneHeap", "wordAt", "(I)I"⟩, 11) := ⟨⟨by decide +kernel, by decide +kernel⟩, List.mem_of_getElem? (i := 20) (by decide +kernel), List.mem_of_getElem? (i := 128) (by decide +kernel), List.mem_of_getElem? (i := 129) (by decide +kernel)⟩
theorem lw_p8 : lw_okq (⟨"ZoneHeap", "noteLost", "()V"⟩, 11) := ⟨⟨by decide +kernel, by decide +kernel⟩, List.mem_of_getElem? (i := 20) (by decide +kernel), List.mem_of_getElem? (i := 132) (by decide +kernel), List.mem_of_getElem? (i := 133) (by decide +kernel)⟩
theorem lw_p9 : lw_okq (⟨"java/lang/Throwable", "fillInStackTrace", "(I)Ljava/lang/Throwable;"⟩, 6) := ⟨⟨by decide +kernel, by decide +kernel⟩, List.mem_of_getElem? (i := 185) (by decide +kernel), List.mem_of_getElem? (i := 183) (by decide +kernel), List.mem_of_getElem? (i := 184) (by decide +kernel)⟩
theorem lw_p10 : lw_okq (⟨"ZoneHeap", "make", "(I)LZoneHeap$Block;"⟩, 11) := ⟨⟨by decide +kernel, by decide +kernel⟩, List.mem_of_getElem? (i := 20) (by decide +kernel), List.mem_of_getElem? (i := 214) (by decide +kernel), List.mem_of_getElem? (i := 215) (by decide +kernel)⟩
theorem lw_p11 : lw_okq (⟨"ZoneHeap", "firstRoomFor", "(I)I"⟩, 11) := ⟨⟨by decide +kernel, by decide +kernel⟩, List.mem_of_getElem? (i := 20) (by decide +kernel), List.mem_of_getElem? (i := 224) (by decide +kernel), List.mem_of_getElem? (i := 225) (by decide +kernel)⟩
theorem lw_p12 : lw_okq (⟨"ZoneHeap", "setTaker", "(LZoneHeap$Block;LZoneHeap$Block;)V"⟩, 11) := ⟨⟨by decide +kernel, by decide +kernel⟩, List.mem_of_getElem? (i := 20) (by decide +kernel), List.mem_of_getElem? (i := 249) (by decide +kernel), List.mem_of_getElem? (i := 250) (by decide +kernel)⟩
theorem lw_p13 : lw_okq (⟨"ZoneHeap", "liveStandingAt", "(I)LZoneHeap$Block;"⟩, 11) := ⟨⟨by decide +kernel, by decide +kernel⟩, List.mem_of_getElem? (i := 20) (by decide +kernel), List.mem_of_getElem? (i := 261) (by decide +kernel), List.mem_of_getElem? (i := 262) (by decide +kernel)⟩
theorem lw_p14 : lw_okq (⟨"ZoneHeap", "giveBack", "(LZoneHeap$Block;)V"⟩, 11) := ⟨⟨by decide +kernel, by decide +kernel⟩, List.mem_of_getElem? (i := 20) (by decide +kernel), List.mem_of_getElem? (i := 282) (by decide +kernel), List.mem_of_getElem? (i := 283) (by decide +kernel)⟩
theorem lw_p15 : lw_okq (⟨"java/util/ArrayList", "add", "(Ljava/lang/Object;[Ljava/lang/Object;I)V"⟩, 3) := ⟨⟨by decide +kernel, by decide +kernel⟩, List.mem_of_getElem? (i := 30) (by decide +kernel), List.mem_of_getElem? (i := 290) (by decide +kernel), List.mem_of_getElem? (i := 291) (by decide +kernel)⟩
def lw_privs_1 : List (MethodName × Nat) := [(⟨"ZoneHeap", "forgetReached", "()V"⟩, 11), (⟨"ZoneHeap", "reach", "(I)V"⟩, 11), (⟨"ZoneHeap", "ledToBy", "(I)LZoneHeap$Block;"⟩, 11), (⟨"ZoneHeap", "standingAt", "(I)LZoneHeap$Block;"⟩, 11), (⟨"ZoneHeap", "liveHaving", "(I)LZoneHeap$Block;"⟩, 11), (⟨"ZoneHeap$Block", "has", "(I)Z"⟩, 4), (⟨"ZoneHeap", "reachFromWordsOf", "(LZoneHeap$Block;)V"⟩, 11), (⟨"ZoneHeap", "wordAt", "(I)I"⟩, 11), (⟨"ZoneHeap", "noteLost", "()V"⟩, 11), (⟨"java/lang/Throwable", "fillInStackTrace", "(I)Ljava/lang/Throwable;"⟩, 6), (⟨"ZoneHeap", "make", "(I)LZoneHeap$Block;"⟩, 11), (⟨"ZoneHeap", "firstRoomFor", "(I)I"⟩, 11), (⟨"ZoneHeap", "setTaker", "(LZoneHeap$Block;LZoneHeap$Block;)V"⟩, 11), (⟨"ZoneHeap", "liveStandingAt", "(I)LZoneHeap$Block;"⟩, 11), (⟨"ZoneHeap", "giveBack", "(LZoneHeap$Block;)V"⟩, 11), (⟨"java/util/ArrayList", "add", "(Ljava/lang/Object;[Ljava/lang/Object;I)V"⟩, 3)]
theorem lw_r1 : ∀ q ∈ lw_privs_1, lw_okq q := List.forall_mem_cons.mpr ⟨lw_p0, List.forall_mem_cons.mpr ⟨lw_p1, List.forall_mem_cons.mpr ⟨lw_p2, List.forall_mem_cons.mpr ⟨lw_p3, List.forall_mem_cons.mpr ⟨lw_p4, List.forall_mem_cons.mpr ⟨lw_p5, List.forall_mem_cons.mpr ⟨lw_p6, List.forall_mem_cons.mpr ⟨lw_p7, List.forall_mem_cons.mpr ⟨lw_p8, List.forall_mem_cons.mpr ⟨lw_p9, List.forall_mem_cons.mpr ⟨lw_p10, List.forall_mem_cons.mpr ⟨lw_p11, List.forall_mem_cons.mpr ⟨lw_p12, List.forall_mem_cons.mpr ⟨lw_p13, List.forall_mem_cons.mpr ⟨lw_p14, List.forall_mem_cons.mpr ⟨lw_p15, fun _ h => absurd h List.not_mem_nil⟩⟩⟩⟩⟩⟩⟩⟩⟩⟩⟩⟩⟩⟩⟩⟩
theorem lw_p16 : lw_okq (⟨"java/util/ArrayList", "grow", "()[Ljava/lang/Object;"⟩, 3) := ⟨⟨by decide +kernel, by decide +kernel⟩, List.mem_of_getElem? (i := 30) (by decide +kernel), List.mem_of_getElem? (i := 294) (by decide +kernel), List.mem_of_getElem? (i := 295) (by decide +kernel)⟩
theorem lw_p17 : lw_okq (⟨"java/util/ArrayList", "grow", "(I)[Ljava/lang/Object;"⟩, 3) := ⟨⟨by decide +kernel, by decide +kernel⟩, List.mem_of_getElem? (i := 30) (by decide +kernel), List.mem_of_getElem? (i := 298) (by decide +kernel), List.mem_of_getElem? (i := 299) (by decide +kernel)⟩
theorem lw_p18 : lw_okq (⟨"ZoneHeap", "dropOldestKept", "()V"⟩, 11) := ⟨⟨by decide +kernel, by decide +kernel⟩, List.mem_of_getElem? (i := 20) (by decide +kernel), List.mem_of_getElem? (i := 342) (by decide +kernel), List.mem_of_getElem? (i := 343) (by decide +kernel)⟩
theorem lw_p19 : lw_okq (⟨"java/util/ArrayList", "fastRemove", "([Ljava/lang/Object;I)V"⟩, 3) := ⟨⟨by decide +kernel, by decide +kernel⟩, List.mem_of_getElem? (i := 30) (by decide +kernel), List.mem_of_getElem? (i := 360) (by decide +kernel), List.mem_of_getElem? (i := 361) (by decide +kernel)⟩
theorem lw_p20 : lw_okq (⟨"ZoneHeap", "isTaken", "(I)Z"⟩, 11) := ⟨⟨by decide +kernel, by decide +kernel⟩, List.mem_of_getElem? (i := 20) (by decide +kernel), List.mem_of_getElem? (i := 401) (by decide +kernel), List.mem_of_getElem? (i := 402) (by decide +kernel)⟩
theorem lw_p21 : lw_okq (⟨"ZoneHeap", "refuseWrongWord", "(I)V"⟩, 11) := ⟨⟨by decide +kernel, by decide +kernel⟩, List.mem_of_getElem? (i := 20) (by decide +kernel), List.mem_of_getElem? (i := 419) (by decide +kernel), List.mem_of_getElem? (i := 420) (by decide +kernel)⟩
theorem lw_p22 : lw_okq (⟨"ZoneHeapModel", "fails", "(ZI)Z"⟩, 12) := ⟨⟨by decide +kernel, by decide +kernel⟩, List.mem_of_getElem? (i := 448) (by decide +kernel), List.mem_of_getElem? (i := 500) (by decide +kernel), List.mem_of_getElem? (i := 501) (by decide +kernel)⟩
theorem lw_p23 : lw_okq (⟨"ZoneHeapModel", "make", "(I)I"⟩, 12) := ⟨⟨by decide +kernel, by decide +kernel⟩, List.mem_of_getElem? (i := 448) (by decide +kernel), List.mem_of_getElem? (i := 504) (by decide +kernel), List.mem_of_getElem? (i := 505) (by decide +kernel)⟩
theorem lw_p24 : lw_okq (⟨"ZoneHeapModel", "room", "(I)I"⟩, 12) := ⟨⟨by decide +kernel, by decide +kernel⟩, List.mem_of_getElem? (i := 448) (by decide +kernel), List.mem_of_getElem? (i := 508) (by decide +kernel), List.mem_of_getElem? (i := 509) (by decide +kernel)⟩
theorem lw_p25 : lw_okq (⟨"ZoneHeapModel", "at", "(II)I"⟩, 12) := ⟨⟨by decide +kernel, by decide +kernel⟩, List.mem_of_getElem? (i := 448) (by decide +kernel), List.mem_of_getElem? (i := 519) (by decide +kernel), List.mem_of_getElem? (i := 520) (by decide +kernel)⟩
theorem lw_p26 : lw_okq (⟨"ZoneHeapModel", "give", "(I)V"⟩, 12) := ⟨⟨by decide +kernel, by decide +kernel⟩, List.mem_of_getElem? (i := 448) (by decide +kernel), List.mem_of_getElem? (i := 523) (by decide +kernel), List.mem_of_getElem? (i := 524) (by decide +kernel)⟩
theorem lw_p27 : lw_okq (⟨"ZoneHeapModel", "kept", "()I"⟩, 12) := ⟨⟨by decide +kernel, by decide +kernel⟩, List.mem_of_getElem? (i := 448) (by decide +kernel), List.mem_of_getElem? (i := 527) (by decide +kernel), List.mem_of_getElem? (i := 528) (by decide +kernel)⟩
theorem lw_p28 : lw_okq (⟨"ZoneHeapModel", "of", "(II)I"⟩, 12) := ⟨⟨by decide +kernel, by decide +kernel⟩, List.mem_of_getElem? (i := 448) (by decide +kernel), List.mem_of_getElem? (i := 539) (by decide +kernel), List.mem_of_getElem? (i := 540) (by decide +kernel)⟩
theorem lw_p29 : lw_okq (⟨"ZoneHeapModel", "bad", "(I)Z"⟩, 12) := ⟨⟨by decide +kernel, by decide +kernel⟩, List.mem_of_getElem? (i := 448) (by decide +kernel), List.mem_of_getElem? (i := 551) (by decide +kernel), List.mem_of_getElem? (i := 552) (by decide +kernel)⟩
theorem lw_p30 : lw_okq (⟨"ZoneHeapModel", "word", "(I)I"⟩, 12) := ⟨⟨by decide +kernel, by decide +kernel⟩, List.mem_of_getElem? (i := 448) (by decide +kernel), List.mem_of_getElem? (i := 559) (by decide +kernel), List.mem_of_getElem? (i := 560) (by decide +kernel)⟩
theorem lw_p31 : lw_okq (⟨"ZoneHeapModel", "touch", "(I)Z"⟩, 12) := ⟨⟨by decide +kernel, by decide +kernel⟩, List.mem_of_getElem? (i := 448) (by decide +kernel), List.mem_of_getElem? (i := 567) (by decide +kernel), List.mem_of_getElem? (i := 568) (by decide +kernel)⟩
def lw_privs_2 : List (MethodName × Nat) := [(⟨"java/util/ArrayList", "grow", "()[Ljava/lang/Object;"⟩, 3), (⟨"java/util/ArrayList", "grow", "(I)[Ljava/lang/Object;"⟩, 3), (⟨"ZoneHeap", "dropOldestKept", "()V"⟩, 11), (⟨"java/util/ArrayList", "fastRemove", "([Ljava/lang/Object;I)V"⟩, 3), (⟨"ZoneHeap", "isTaken", "(I)Z"⟩, 11), (⟨"ZoneHeap", "refuseWrongWord", "(I)V"⟩, 11), (⟨"ZoneHeapModel", "fails", "(ZI)Z"⟩, 12), (⟨"ZoneHeapModel", "make", "(I)I"⟩, 12), (⟨"ZoneHeapModel", "room", "(I)I"⟩, 12), (⟨"ZoneHeapModel", "at", "(II)I"⟩, 12), (⟨"ZoneHeapModel", "give", "(I)V"⟩, 12), (⟨"ZoneHeapModel", "kept", "()I"⟩, 12), (⟨"ZoneHeapModel", "of", "(II)I"⟩, 12), (⟨"ZoneHeapModel", "bad", "(I)Z"⟩, 12), (⟨"ZoneHeapModel", "word", "(I)I"⟩, 12), (⟨"ZoneHeapModel", "touch", "(I)Z"⟩, 12)]
theorem lw_r2 : ∀ q ∈ lw_privs_2, lw_okq q := List.forall_mem_cons.mpr ⟨lw_p16, List.forall_mem_cons.mpr ⟨lw_p17, List.forall_mem_cons.mpr ⟨lw_p18, List.forall_mem_cons.mpr ⟨lw_p19, List.forall_mem_cons.mpr ⟨lw_p20, List.forall_mem_cons.mpr ⟨lw_p21, List.forall_mem_cons.mpr ⟨lw_p22, List.forall_mem_cons.mpr ⟨lw_p23, List.forall_mem_cons.mpr ⟨lw_p24, List.forall_mem_cons.mpr ⟨lw_p25, List.forall_mem_cons.mpr ⟨lw_p26, List.forall_mem_cons.mpr ⟨lw_p27, List.forall_mem_cons.mpr ⟨lw_p28, List.forall_mem_cons.mpr ⟨lw_p29, List.forall_mem_cons.mpr ⟨lw_p30, List.forall_mem_cons.mpr ⟨lw_p31, fun _ h => absurd h List.not_mem_nil⟩⟩⟩⟩⟩⟩⟩⟩⟩⟩⟩⟩⟩⟩⟩⟩
theorem lw_p32 : lw_okq (⟨"ZoneHeapModel", "leads", "(I)I"⟩, 12) := ⟨⟨by decide +kernel, by decide +kernel⟩, List.mem_of_getElem? (i := 448) (by decide +kernel), List.mem_of_getElem? (i := 571) (by decide +kernel), List.mem_of_getElem? (i := 572) (by decide +kernel)⟩
def lw_privs_3 : List (MethodName × Nat) := [(⟨"ZoneHeapModel", "leads", "(I)I"⟩, 12)]
theorem lw_r3 : ∀ q ∈ lw_privs_3, lw_okq q := List.forall_mem_cons.mpr ⟨lw_p32, fun _ h => absurd h List.not_mem_nil⟩
def lw_privs : List (MethodName × Nat) := lw_privs_1 ++ (lw_privs_2 ++ (lw_privs_3))
def lw_tbl : List Cond := k2_sels lw_privs ++ tables_1
theorem lw_privs_ok : ∀ q ∈ lw_privs, lw_okq q := by
  show ∀ q ∈ lw_privs_1 ++ (lw_privs_2 ++ (lw_privs_3)), lw_okq q
  exact List.forall_mem_append.mpr ⟨lw_r1, List.forall_mem_append.mpr ⟨lw_r2, lw_r3⟩⟩
/-! ===== BEGIN words of one list among another's, by their places ===== -/
theorem goodIn_r {big : List Cond} (ws : List Cond) (ps : List Nat) (hp : ws = ps.filterMap (fun i => big[i]?)) (h : ws.all goodWord = true) : GoodIn big ws := by
  intro w hw
  have h1 := List.all_eq_true.mp h w hw
  rw [hp] at hw
  obtain ⟨i, -, hi⟩ := List.mem_filterMap.mp hw
  have hm : w ∈ big := by first | exact List.mem_of_getElem? hi | exact List.getElem?_mem hi
  exact ⟨hm, good_of_word h1⟩
theorem goodIn_app {big a b : List Cond} (ha : GoodIn big a) (hb : GoodIn big b) : GoodIn big (a ++ b) := fun w h => (List.mem_append.mp h).elim (ha w) (hb w)
theorem goodIn_ca {big a b : List Cond} {c : Cond} (ha : GoodIn big (c :: a)) (hb : GoodIn big b) : GoodIn big (c :: (a ++ b)) := fun w h => (List.mem_cons.mp h).elim (fun e => ha w (List.mem_cons.mpr (Or.inl e))) (fun h => (List.mem_append.mp h).elim (fun h => ha w (List.mem_cons.mpr (Or.inr h))) (hb w))
theorem goodIn_sub {big ws : List Cond} (hm : ∀ w ∈ ws, w ∈ big) (h : ws.all goodWord = true) : GoodIn big ws := fun w hw => ⟨hm w hw, good_of_word (List.all_eq_true.mp h w hw)⟩
/-! ===== END ===== -/

/-! ===== BEGIN exceptions that leave a method, and their catching by the caller (launches without stack traces) ===== -/
section VXA
/-! The laws vx_back, vx_callV, vx_callS, vx_callSW, vx_throw0, vx_throwS follow proofs of the library, with one case more: JvmDerived/Free/Laws.lean (Back.of_free), Shelf42/LK1.lean (callV, callS), Shelf/KitTraced.lean (throwNew0V, throwNewS). -/
/-- where a method has thrown q: the class by its name, the cell, what was written, the world -/
def vx_T (XC : String → State → State → Prop) (st : State) (q : Addr) (t : State) (mc ms : Nat) (free : Addr → Prop) : Prop :=
  ∃ (E : String) (ce : Cell) (L : List Loc), XC E st t ∧ t.heap[q]? = some ce ∧ ce.vm = .none ∧ st.vm.findClass E = some ce.cls ∧ st.WarmedH t.vm ∧ st.sameButNew ({ t with vm := st.vm } : State) L mc ms ∧ ∀ z ∈ L, free z.base
def vx_Q (Qc : Array Value → State → Outcome → State → Prop) (XC : String → State → State → Prop) (mc ms : Nat) (free : Addr → Prop) : Array Value → State → Outcome → State → Prop := fun a st o t =>
  (Qc a st o t ∧ ∃ L, FrameEnd st o t L mc ms ∧ ∀ q ∈ L, free q.base) ∨ ∃ q, o = .threw q ∧ vx_T XC st q t mc ms free
/-- a callee that returns or throws -/
def vx_Met (l : Launch) (y : MethodName) (ws : List Cond) (rm : Room) (Pc : Array Value → State → Prop) (Qc : Array Value → State → Outcome → State → Prop) (XC : String → State → State → Prop) (mc ms : Nat) (free : Addr → Prop) : Prop :=
  MetFree l y (headSpec ws rm) Pc (fun _ _ _ _ _ => True) (vx_Q Qc XC mc ms free)
def vx_Post (XC : String → State → State → Prop) (mc ms : Nat) (free : Addr → Prop) : Pt → Array Value → Addr → Pt → Prop := fun A a q B =>
  ∃ (g : JFrame) (mk : MethodId) (t : State) (L : List Loc) (E : String) (ce : Cell), B.U.heap = t.heap ∧ B.U.vm = t.vm ∧ XC E (A.U.calling g mk a) t ∧ t.heap[q]? = some ce ∧ ce.vm = .none ∧ A.U.vm.findClass E = some ce.cls ∧ B.locs = A.locs ++ L ∧ (∀ z ∈ L, free z.base) ∧ B.cells = A.cells + mc ∧ B.slots = A.slots + ms
def vx_Back (l : Launch) (R : Room) (p : Program) (e : Env) (below : List Frame) (s : State) (sargs : Array Value) (y : MethodName) (len W9 : Nat)
    (Pre : Pt → Array Value → Prop) (Post : Pt → Array Value → Option Value → Pt → Prop) (PostX : Pt → Array Value → Addr → Pt → Prop) : Prop :=
  ∀ (m : MethodId) (meth : Method) (c : Code) (A : Pt) (g : JFrame) (ig : Instr) (mk : MethodId) (a : Array Value),
    Stand p l e R s m sargs below meth c A.U A.locs A.cells A.slots → g.method = m → g.locals.size = c.maxLocals → decode c.code g.pc = .ok (ig, len) →
    2 * g.monitorRoom + (g.stack.map fun v => v.category).sum ≤ W9 → A.U.methodNamed? y = some mk → Pre A a →
    (∃ (v : Option Value) (B : Pt), Stand p l e R s m sargs below meth c B.U B.locs B.cells B.slots ∧ Post A a v B ∧
      Steps p.tables e below (doInvoke e (A.U.setTop g) [] mk a).1 (B.U.setTop { g with pc := g.pc + len, stack := v.toList ++ g.stack })) ∨
    (∃ (q : Addr) (B : Pt), Stand p l e R s m sargs below meth c B.U B.locs B.cells B.slots ∧ PostX A a q B ∧
      Steps p.tables e below (doInvoke e (A.U.setTop g) [] mk a).1 ((B.U.setTop g).pushFrame (.throwing q)))
section Payer
variable {l : Launch} {R : Room} {p : Program} {e : Env} {below : List Frame} {s : State} {sargs : Array Value} {y : MethodName} {len W9 : Nat}
theorem vx_back {ws : List Cond} {rm : Room} {Pc : Array Value → State → Prop} {Qc : Array Value → State → Outcome → State → Prop} {XC : String → State → State → Prop} {mc ms : Nat} {free : Addr → Prop} {bytes : ByteArray} {maxL : Nat} {ret : Option FieldType}
    (hM : vx_Met l y ws rm Pc Qc XC mc ms free) (hblind : FrameBlind Pc) (hrc : rm.cells = mc) (hrs : rm.slots = ms)
    (hframes : rm.frames + 1 ≤ R.frames) (hlocals : W9 + (maxL + 11) + rm.locals ≤ R.locals)
    (hws : ∀ w ∈ ws, ∀ a' U, s.WarmedH U.vm → w.before a' U = true) (hcode : Cond.code y bytes maxL ret ∈ ws) (hinit : ∀ a' U, s.WarmedH U.vm → (Cond.initialized y.cls).before a' U = true) :
    vx_Back l R p e below s sargs y len W9 (PreOf R mc ms Pc) (PostOf Qc mc ms free) (vx_Post XC mc ms free) := by
  intro m meth c A g ig mk a X hg hsize hdg hW hn hp
  have h1 : (headSpec ws rm).pre.before a A.U = true := atoms_intro fun w hw => hws w hw _ _ X.warmed
  have h2 : (Cond.code y bytes maxL ret).before a A.U = true := hws _ hcode _ _ X.warmed
  have h3 : (Cond.initialized y.cls).before a A.U = true := hinit _ _ X.warmed
  have h4 : A.cells + (headSpec ws rm).room.cells ≤ R.cells := by rw [show (headSpec ws rm).room.cells = mc from hrc]; exact hp.1
  have h5 : A.slots + (headSpec ws rm).room.slots ≤ R.slots := by rw [show (headSpec ws rm).room.slots = ms from hrs]; exact hp.2.1
  have hPc : Pc a (A.U.calling g mk a) := hblind _ _ _ _ hp.2.2
  obtain ⟨U, Ls, c0, s0⟩ := A
  dsimp only [Pt.U, Pt.locs, Pt.cells, Pt.slots] at h1 h2 h3 h4 h5 X hn hPc ⊢
  obtain ⟨methY, cY, hmY, hcY, -, hlY, -, -, -, -⟩ := Cond.code_spec hn h2
  obtain ⟨kY, hkY, -⟩ := className_of_methodNamed hn
  have hinitY : kY.init = .initialized := Cond.initialized_spec (findClass_of_methodNamed hn) hkY h3
  have h : At U g.method c below := by rw [hg]; exact X.here
  have hlocals9 : W9 + (maxL + 11) + (headSpec ws rm).room.locals ≤ R.locals := hlocals
  have happ : (headSpec ws rm).appliesLoose y e.platform (U.calling g mk a) = true :=
    Spec.appliesLoose_calling (g := g) h hdg hn hkY hinitY
      (X.room_calling (g := g) (R' := (headSpec ws rm).room) hsize hmY hcY hframes (by rw [hlY]; omega) h4 h5) h1
  obtain ⟨mid, hmid⟩ := h.above
  have hfr : (U.setTop g).frames = (.java g :: mid) ++ below := by rw [State.frames_setTop' g h.top, hmid]; rfl
  obtain ⟨o, s₂, hsteps, -, hend, hq⟩ := Steps.callFree hM p X.admits X.cas X.clock (acts := []) hfr happ hPc trivial
  have hq' : vx_Q Qc XC mc ms free a (U.calling g mk a) o s₂ := hq
  rw [State.frames_setTop' g h.top] at hend
  obtain ⟨g₀, hg0⟩ := Option.isSome_iff_exists.mp h.top
  obtain ⟨r, hr⟩ := State.topJava?_eq_some.mp hg0
  have hr' : (({ U with heap := s₂.heap, slotsUsed := s₂.slotsUsed } : State).setVm s₂.vm).frames = .java g₀ :: r := hr
  rcases hq' with ⟨hqc, L, hfe, hL⟩ | ⟨q, rfl, E, ce, L, hx, hce, hcv, hcl, hW₂, hsm, hL⟩
  · obtain ⟨⟨v, rfl⟩, hW₂, e2, q2, q3, q4, q5, q6⟩ := id hfe
    have e3 : s₂ = ({ (U.calling g mk a).setFrames s₂.frames with heap := s₂.heap, slotsUsed := s₂.slotsUsed } : State).setVm s₂.vm := by
      have : s₂ = ({ s₂ with vm := (U.calling g mk a).vm } : State).setVm s₂.vm := rfl
      rw [e2] at this
      exact this
    obtain ⟨c₂, i₂, len₂, hc₂, hd₂, hf₂⟩ := hend
    have hW' : U.WarmedH s₂.vm := hW₂
    have hcc : c₂ = c := by
      have h1 : s₂.code? g.method = U.code? g.method := by
        rw [State.code?_eq, State.code?_eq, hW'.alike.method?]
      exact Option.some.inj (hc₂.symm.trans (h1.trans h.code))
    subst hcc
    have hlen : len₂ = len := by rw [hdg] at hd₂; cases hd₂; rfl
    subst hlen
    have hs₂ : s₂ = (({ U with heap := s₂.heap, slotsUsed := s₂.slotsUsed } : State).setVm s₂.vm).setTop { g with pc := g.pc + len₂, stack := v.toList ++ g.stack } := by
      refine e3.trans ?_
      rw [hf₂, State.calling_eq h.top, State.setFrames_setFrames, State.setTop_of_frames _ hr', hr]
      rfl
    have hsame : U.sameButNew ({ U with heap := s₂.heap, slotsUsed := s₂.slotsUsed } : State) L mc ms := by
      refine ⟨?_, q2, q3, q4, q5, q6⟩
      obtain ⟨t, ht, -⟩ := State.frames_cons hr
      show ({ U with heap := s₂.heap, slotsUsed := s₂.slotsUsed } : State) = { U.setFrames U.frames with heap := s₂.heap, slotsUsed := s₂.slotsUsed }
      rw [State.setFrames_self ht]
    subst hg
    refine Or.inl ⟨v, ⟨(({ U with heap := s₂.heap, slotsUsed := s₂.slotsUsed } : State).setVm s₂.vm), Ls ++ L, c0 + mc, s0 + ms⟩,
      ⟨X.admits, X.cas, X.clock, X.frames, X.room, X.hears, X.method, X.code, (X.here.setHeapUsed s₂.heap s₂.slotsUsed).setVm hW'.alike, X.tail, State.WarmedH.trans X.warmed hW', X.limits, X.bytes, X.same.trans (hsame.setVm s.vm)⟩,
      ⟨g, mk, s₂, L, rfl, rfl, hqc, rfl, hL, rfl, rfl⟩, ?_⟩
    show Steps p.tables e below _ ((({ U with heap := s₂.heap, slotsUsed := s₂.slotsUsed } : State).setVm s₂.vm).setTop { g with pc := g.pc + len₂, stack := v.toList ++ g.stack })
    rw [← hs₂]
    exact hsteps
  · obtain ⟨e2, q2, q3, q4, q5, q6⟩ := id hsm
    have e3 : s₂ = ({ (U.calling g mk a).setFrames s₂.frames with heap := s₂.heap, slotsUsed := s₂.slotsUsed } : State).setVm s₂.vm := by
      have : s₂ = ({ s₂ with vm := (U.calling g mk a).vm } : State).setVm s₂.vm := rfl
      rw [e2] at this
      exact this
    have hf₂ : s₂.frames = .throwing q :: .java g :: U.frames.tail := hend
    have hW' : U.WarmedH s₂.vm := hW₂
    have hs₂ : s₂ = ((({ U with heap := s₂.heap, slotsUsed := s₂.slotsUsed } : State).setVm s₂.vm).setTop g).pushFrame (.throwing q) := by
      refine e3.trans ?_
      rw [hf₂, State.calling_eq h.top, State.setFrames_setFrames, State.pushFrame, State.frames_setTop _ hr', State.setTop_of_frames _ hr', State.setFrames_setFrames, hr]
      rfl
    have hsame : U.sameButNew ({ U with heap := s₂.heap, slotsUsed := s₂.slotsUsed } : State) L mc ms := by
      refine ⟨?_, q2, q3, q4, q5, q6⟩
      obtain ⟨t, ht, -⟩ := State.frames_cons hr
      show ({ U with heap := s₂.heap, slotsUsed := s₂.slotsUsed } : State) = { U.setFrames U.frames with heap := s₂.heap, slotsUsed := s₂.slotsUsed }
      rw [State.setFrames_self ht]
    subst hg
    refine Or.inr ⟨q, ⟨(({ U with heap := s₂.heap, slotsUsed := s₂.slotsUsed } : State).setVm s₂.vm), Ls ++ L, c0 + mc, s0 + ms⟩,
      ⟨X.admits, X.cas, X.clock, X.frames, X.room, X.hears, X.method, X.code, (X.here.setHeapUsed s₂.heap s₂.slotsUsed).setVm hW'.alike, X.tail, State.WarmedH.trans X.warmed hW', X.limits, X.bytes, X.same.trans (hsame.setVm s.vm)⟩,
      ⟨g, mk, s₂, L, E, ce, rfl, rfl, hx, hce, hcv, hcl, rfl, hL, rfl, rfl⟩, ?_⟩
    show Steps p.tables e below _ (((({ U with heap := s₂.heap, slotsUsed := s₂.slotsUsed } : State).setVm s₂.vm).setTop g).pushFrame (.throwing q))
    rw [← hs₂]
    exact hsteps
end Payer
section Calls
variable {p : Program} {l : Launch} {e : Env} {R : Room} {s : State} {m : MethodId} {args : Array Value} {below : List Frame} {meth : Method} {c : Code} {T : State} {locs : List Loc} {cells slots : Nat}
theorem vx_callV (X : Stand p l e R s m args below meth c T locs cells slots) (hexec : p.tables.exec = Jvm.exec) {own C : String} {index : Nat} {y : MethodName} {bytes : ByteArray} {maxL : Nat} {ret : Option FieldType}
    (hown : s.vm.findClass own = some m.cls) (hlink : (Cond.methodLink own index y).before args s = true) (hinst : (Cond.instanceMethod y).before args s = true) (hsel : (Cond.selects C y y).before args s = true)
    (hcode : (Cond.code y bytes maxL ret).before args s = true) (hy : y.cls ≠ "java/lang/invoke/MethodHandle" ∧ y.cls ≠ "java/lang/invoke/VarHandle")
    {W9 : Nat} {Pre : Pt → Array Value → Prop} {Post : Pt → Array Value → Option Value → Pt → Prop} {PostX : Pt → Array Value → Addr → Pt → Prop} (hK : vx_Back l R p e below s args y 3 W9 Pre Post PostX)
    {b : Addr} {cellB : Cell} (hcell : T.heap[b]? = some cellB) (hobj : cellB.vm.isStatics = false) (hcls : s.vm.findClass C = some cellB.cls)
    {g : JFrame} (hg : g.method = m) (hsize : g.locals.size = c.maxLocals) {argsL rest : List Value} (hlen : ∀ sig, parseMethodDescriptor y.desc = some sig → argsL.length = sig.parameters.length)
    (hstack : g.stack = argsL.reverse ++ .ref b :: rest) (hW : 2 * g.monitorRoom + (rest.map fun v => v.category).sum ≤ W9) (hdg : decode c.code g.pc = .ok (.invokevirtual index, 3))
    (hpre : ∀ vm₁, s.WarmedH vm₁ → Pre ⟨T.setVm vm₁, locs, cells, slots⟩ (Value.ref b :: argsL).toArray) :
    (∃ (v : Option Value) (vm₁ : Vm) (B : Pt), s.WarmedH vm₁ ∧ Stand p l e R s m args below meth c B.U B.locs B.cells B.slots ∧ Post ⟨T.setVm vm₁, locs, cells, slots⟩ (Value.ref b :: argsL).toArray v B ∧
      ∀ target, Steps p.tables e below (B.U.setTop { g with pc := g.pc + 3, stack := v.toList ++ rest }) target → Steps p.tables e below (T.setTop g) target) ∨
    (∃ (q : Addr) (vm₁ : Vm) (B : Pt), s.WarmedH vm₁ ∧ Stand p l e R s m args below meth c B.U B.locs B.cells B.slots ∧ PostX ⟨T.setVm vm₁, locs, cells, slots⟩ (Value.ref b :: argsL).toArray q B ∧
      Steps p.tables e below (T.setTop g) ((B.U.setTop { g with stack := rest }).pushFrame (.throwing q))) := by
  obtain ⟨mk, methM, hnamed, hmethM, hstM, habM⟩ := Cond.instanceMethod_spec hinst
  obtain ⟨methM', cM, hmethM', -, -, -, -, -, -, hsigM⟩ := Cond.code_spec hnamed hcode
  cases hmethM.symm.trans hmethM'
  obtain ⟨c2, r2, m2, q1, q2, q3, q4, kP, hkP, hkPi⟩ := Cond.selects_spec hsel
  cases hcls.symm.trans q1
  cases (State.methodFound?_of_named hnamed hy).symm.trans q2
  cases hnamed.symm.trans q3
  have hselP : selectMethod e.platform s.vm cellB.cls mk = .method mk := by rw [Launch.admits_selectMethod X.admits]; exact q4
  obtain ⟨vm₁, X₁, hstep₁⟩ := X.invokevirtual hexec hown hlink hnamed hmethM hstM hkP hkPi hy (a := b) (cell := cellB) hcell
    (fun z h => by rw [h] at hobj; cases hobj) hselP hmethM habM hkP hkPi (g := g) hg (argsL := argsL) (rest := rest) (hlen _ hsigM) hstack hdg
  rcases hK m meth c ⟨T.setVm vm₁, locs, cells, slots⟩ { g with stack := rest } (.invokevirtual index) mk (Value.ref b :: argsL).toArray X₁ hg hsize hdg hW (X₁.named hnamed) (hpre vm₁ X₁.warmed) with ⟨v, B, X', hpost, hsteps⟩ | ⟨q, B, X', hpost, hsteps⟩
  · exact Or.inl ⟨v, vm₁, B, X₁.warmed, X', hpost, fun target h => hstep₁ _ fun acts => by rw [doInvoke_state]; exact hsteps.trans h⟩
  · exact Or.inr ⟨q, vm₁, B, X₁.warmed, X', hpost, hstep₁ _ fun acts => by rw [doInvoke_state]; exact hsteps⟩
theorem vx_callS (X : Stand p l e R s m args below meth c T locs cells slots) (hexec : p.tables.exec = Jvm.exec) {own : String} {index : Nat} {y : MethodName} {bytes : ByteArray} {maxL : Nat} {ret : Option FieldType}
    (hown : s.vm.findClass own = some m.cls) (hlink : (Cond.methodLink own index y).before args s = true) (hstat : (Cond.static y).before args s = true) (hinit : (Cond.initialized y.cls).before args s = true)
    (hcode : (Cond.code y bytes maxL ret).before args s = true) (hy : y.cls ≠ "java/lang/invoke/MethodHandle" ∧ y.cls ≠ "java/lang/invoke/VarHandle")
    {W9 : Nat} {Pre : Pt → Array Value → Prop} {Post : Pt → Array Value → Option Value → Pt → Prop} {PostX : Pt → Array Value → Addr → Pt → Prop} (hK : vx_Back l R p e below s args y 3 W9 Pre Post PostX)
    {g : JFrame} (hg : g.method = m) (hsize : g.locals.size = c.maxLocals) {argsL rest : List Value} (hlen : ∀ sig, parseMethodDescriptor y.desc = some sig → argsL.length = sig.parameters.length)
    (hstack : g.stack = argsL.reverse ++ rest) (hW : 2 * g.monitorRoom + (rest.map fun v => v.category).sum ≤ W9) (hdg : decode c.code g.pc = .ok (.invokestatic index, 3))
    (hpre : ∀ vm₁, s.WarmedH vm₁ → Pre ⟨T.setVm vm₁, locs, cells, slots⟩ argsL.toArray) :
    (∃ (v : Option Value) (vm₁ : Vm) (B : Pt), s.WarmedH vm₁ ∧ Stand p l e R s m args below meth c B.U B.locs B.cells B.slots ∧ Post ⟨T.setVm vm₁, locs, cells, slots⟩ argsL.toArray v B ∧
      ∀ target, Steps p.tables e below (B.U.setTop { g with pc := g.pc + 3, stack := v.toList ++ rest }) target → Steps p.tables e below (T.setTop g) target) ∨
    (∃ (q : Addr) (vm₁ : Vm) (B : Pt), s.WarmedH vm₁ ∧ Stand p l e R s m args below meth c B.U B.locs B.cells B.slots ∧ PostX ⟨T.setVm vm₁, locs, cells, slots⟩ argsL.toArray q B ∧
      Steps p.tables e below (T.setTop g) ((B.U.setTop { g with stack := rest }).pushFrame (.throwing q))) := by
  obtain ⟨mk, hnamed⟩ := Cond.code_named hcode
  obtain ⟨methM, cM, hmethM, -, -, -, -, -, -, hsigM⟩ := Cond.code_spec hnamed hcode
  have hstatic : methM.isStatic = true := Cond.static_spec hnamed hmethM hstat
  obtain ⟨kP, hkP, -⟩ := className_of_methodNamed hnamed
  have hinitP : kP.init = .initialized := Cond.initialized_spec (findClass_of_methodNamed hnamed) hkP hinit
  obtain ⟨vm₁, X₁, hstep₁⟩ := X.invokestatic hexec hown hlink hnamed hmethM hstatic hkP hinitP hy (g := g) hg (argsL := argsL) (rest := rest) (hlen _ hsigM) hstack hdg
  rcases hK m meth c ⟨T.setVm vm₁, locs, cells, slots⟩ { g with stack := rest } (.invokestatic index) mk argsL.toArray X₁ hg hsize hdg hW (X₁.named hnamed) (hpre vm₁ X₁.warmed) with ⟨v, B, X', hpost, hsteps⟩ | ⟨q, B, X', hpost, hsteps⟩
  · exact Or.inl ⟨v, vm₁, B, X₁.warmed, X', hpost, fun target h => hstep₁ _ fun acts => by rw [doInvoke_state]; exact hsteps.trans h⟩
  · exact Or.inr ⟨q, vm₁, B, X₁.warmed, X', hpost, hstep₁ _ fun acts => by rw [doInvoke_state]; exact hsteps⟩
end Calls
theorem vx_cls {s : State} {T : State} {vm₁ : Vm} {E : String} {k : ClassId} (hW : s.WarmedH vm₁) (h : (T.setVm vm₁).vm.findClass E = some k) : s.vm.findClass E = some k := by
  have h1 : vm₁.findClass E = some k := h
  rw [hW.alike.findClass] at h1
  exact h1
/-- the method's frame g, with q thrown over it -/
def vx_W (p : Program) (l : Launch) (e : Env) (R : Room) (s : State) (m : MethodId) (args : Array Value) (below : List Frame) (meth : Method) (c : Code) (H : Heap) (locs : List Loc) (cells slots : Nat) (Q : State → Prop) (g : JFrame) (q : Addr) : Prop :=
  ∀ T : State, T.heap = H → Stand p l e R s m args below meth c T locs cells slots → ∃ t, Steps p.tables e below ((T.setTop g).pushFrame (.throwing q)) t ∧ Q t
def vx_Run (p : Program) (l : Launch) (e : Env) (R : Room) (s : State) (m : MethodId) (args : Array Value) (below : List Frame) (meth : Method) (c : Code) (H : Heap) (locs : List Loc) (cells slots mc ms : Nat) (g : JFrame) (rest : List Value) (Qa : State → Outcome → State → Prop) (XC : String → State → State → Prop) (free : Addr → Prop) : Prop :=
  ∀ T : State, T.heap = H → Stand p l e R s m args below meth c T locs cells slots →
    (∃ (v : Option Value) (st₀ t T' : State) (L : List Loc), st₀.heap = H ∧ Stand p l e R s m args below meth c T' (locs ++ L) (cells + mc) (slots + ms) ∧ (∀ q ∈ L, free q.base) ∧ T'.heap = t.heap ∧ T'.vm = t.vm ∧ Qa st₀ (.returned v) t ∧
      Goes p e below T g T' { g with pc := g.pc + 3, stack := v.toList ++ rest }) ∨
    (∃ (q : Addr) (st₀ t T' : State) (L : List Loc) (E : String) (ce : Cell), st₀.heap = H ∧ Stand p l e R s m args below meth c T' (locs ++ L) (cells + mc) (slots + ms) ∧ (∀ z ∈ L, free z.base) ∧ T'.heap = t.heap ∧ T'.vm = t.vm ∧ XC E st₀ t ∧ t.heap[q]? = some ce ∧ ce.vm = .none ∧ s.vm.findClass E = some ce.cls ∧
      Steps p.tables e below (T.setTop g) ((T'.setTop { g with stack := rest }).pushFrame (.throwing q)))
def vx_X {S : Type} (px : S → Prop) (B : String → S → State → Prop) (A : Nat → Prop) : String → State → State → Prop := fun E st t => ∃ u : S, px u ∧ B E u t ∧ va_F A st t
section Runs
variable {p : Program} {l : Launch} {e : Env} {R : Room} {s : State} {m : MethodId} {args : Array Value} {below : List Frame} {meth : Method} {c : Code} {H : Heap} {locs : List Loc} {cells slots : Nat}
variable {y : MethodName} {bytes cc : ByteArray} {maxL nL mc ms n index : Nat} {ret : Option FieldType} {ws : List Cond} {rm : Room} {Pc : Array Value → State → Prop} {Qc : Array Value → State → Outcome → State → Prop} {XC : String → State → State → Prop} {free : Addr → Prop} {Ts : List Cond} {own C : String} {b : Addr} {As rest : List Value} {g : JFrame}
theorem vx_callBack (cb : CallB R s args own index y bytes maxL ret ws rm mc ms n) (hM : vx_Met l y ws rm Pc Qc XC mc ms free) (hbl : FrameBlind Pc) : vx_Back l R p e below s args y 3 8 (PreOf R mc ms Pc) (PostOf Qc mc ms free) (vx_Post XC mc ms free) := by
  obtain ⟨hrc, hrs, hfr, hlo, hws, hcw, -, hini, -⟩ := cb
  exact vx_back (bytes := bytes) (maxL := maxL) (ret := ret) hM hbl hrc hrs hfr hlo hws hcw (fun a' U hW => word_at hW (Or.inl (by first | rfl | simp [Cond.onTables, Cond.keeps, Cond.steady])) hini)
theorem vx_runV (S : CallFix p m c cc nL s args Ts own) (hM : vx_Met l y ws rm Pc Qc XC mc ms free) (cw : CallW R s args own C index y bytes maxL ret ws rm mc ms n) (hp : PreV s H C b Pc As)
    (hg : g.method = m) (hn : As.length = n) (hsize : g.locals.size = nL) (hstack : g.stack = As.reverse ++ .ref b :: rest) (hW : 2 * g.monitorRoom + (rest.map fun v => v.category).sum ≤ 8) (hdg : decode cc g.pc = .ok (.invokevirtual index, 3)) (hf : cells + mc ≤ R.cells ∧ slots + ms ≤ R.slots) :
    vx_Run p l e R s m args below meth c H locs cells slots mc ms g rest (Qc (Value.ref b :: As).toArray) XC free := by
  have hK : vx_Back l R p e below s args y 3 8 (PreOf R mc ms Pc) (PostOf Qc mc ms free) (vx_Post XC mc ms free) := vx_callBack cw.1 hM hp.1
  obtain ⟨⟨-, -, -, -, -, -, hcode, -, hy, hlen, hl⟩, hin, hse⟩ := cw
  obtain ⟨hx, hb, hml, ho, -⟩ := S
  obtain ⟨-, ⟨cellB, hcB, hoB, hclB⟩, hPc⟩ := hp
  intro T hT X
  rcases vx_callV X hx (C := C) (bytes := bytes) (maxL := maxL) (ret := ret) ho hl hin hse hcode hy hK (by rw [hT]; exact hcB) hoB hclB hg (hsize.trans hml.symm) (argsL := As) (rest := rest) (fun sig h => hn.trans (hlen sig h)) hstack hW (by rw [hb]; exact hdg)
    (fun vm₁ hW₁ => ⟨hf.1, hf.2, hPc (T.setVm vm₁) hT hW₁⟩) with ⟨v, vm₁, ⟨U', l2, c2, s2⟩, hW₁, X', ⟨g', mk, t, L, e1, e2, hq, h1, hL, h2, h3⟩, st⟩ | ⟨q, vm₁, ⟨U', l2, c2, s2⟩, hW₁, X', ⟨g', mk, t, L, E, ce, e1, e2, hq, hce, hcv, hcl, h1, hL, h2, h3⟩, st⟩
  · dsimp only [Pt.U, Pt.locs, Pt.cells, Pt.slots] at X' e1 e2 h1 h2 h3 st
    subst h1; subst h2; subst h3
    exact Or.inl ⟨v, (T.setVm vm₁).calling g' mk (Value.ref b :: As).toArray, t, U', L, hT, X', hL, e1, e2, hq, st⟩
  · dsimp only [Pt.U, Pt.locs, Pt.cells, Pt.slots] at X' e1 e2 h1 h2 h3 st hcl
    subst h1; subst h2; subst h3
    exact Or.inr ⟨q, (T.setVm vm₁).calling g' mk (Value.ref b :: As).toArray, t, U', L, E, ce, hT, X', hL, e1, e2, hq, hce, hcv, vx_cls hW₁ hcl, st⟩
theorem vx_runS (S : CallFix p m c cc nL s args Ts own) (hM : vx_Met l y ws rm Pc Qc XC mc ms free) (cw : CallB R s args own index y bytes maxL ret ws rm mc ms n ∧ (Cond.static y).before args s = true) (hp : PreS s H Pc As)
    (hg : g.method = m) (hn : As.length = n) (hsize : g.locals.size = nL) (hstack : g.stack = As.reverse ++ rest) (hW : 2 * g.monitorRoom + (rest.map fun v => v.category).sum ≤ 8) (hdg : decode cc g.pc = .ok (.invokestatic index, 3)) (hf : cells + mc ≤ R.cells ∧ slots + ms ≤ R.slots) :
    vx_Run p l e R s m args below meth c H locs cells slots mc ms g rest (Qc As.toArray) XC free := by
  have hK : vx_Back l R p e below s args y 3 8 (PreOf R mc ms Pc) (PostOf Qc mc ms free) (vx_Post XC mc ms free) := vx_callBack cw.1 hM hp.1
  obtain ⟨⟨-, -, -, -, -, -, hcode, hini, hy, hlen, hl⟩, hstt⟩ := cw
  obtain ⟨hx, hb, hml, ho, -⟩ := S
  intro T hT X
  rcases vx_callS X hx (bytes := bytes) (maxL := maxL) (ret := ret) ho hl hstt hini hcode hy hK hg (hsize.trans hml.symm) (argsL := As) (rest := rest) (fun sig h => hn.trans (hlen sig h)) hstack hW (by rw [hb]; exact hdg)
    (fun vm₁ hW₁ => ⟨hf.1, hf.2, hp.2 (T.setVm vm₁) hT hW₁⟩) with ⟨v, vm₁, ⟨U', l2, c2, s2⟩, hW₁, X', ⟨g', mk, t, L, e1, e2, hq, h1, hL, h2, h3⟩, st⟩ | ⟨q, vm₁, ⟨U', l2, c2, s2⟩, hW₁, X', ⟨g', mk, t, L, E, ce, e1, e2, hq, hce, hcv, hcl, h1, hL, h2, h3⟩, st⟩
  · dsimp only [Pt.U, Pt.locs, Pt.cells, Pt.slots] at X' e1 e2 h1 h2 h3 st
    subst h1; subst h2; subst h3
    exact Or.inl ⟨v, (T.setVm vm₁).calling g' mk As.toArray, t, U', L, hT, X', hL, e1, e2, hq, st⟩
  · dsimp only [Pt.U, Pt.locs, Pt.cells, Pt.slots] at X' e1 e2 h1 h2 h3 st hcl
    subst h1; subst h2; subst h3
    exact Or.inr ⟨q, (T.setVm vm₁).calling g' mk As.toArray, t, U', L, E, ce, hT, X', hL, e1, e2, hq, hce, hcv, vx_cls hW₁ hcl, st⟩
end Runs
section Rows
variable {p : Program} {l : Launch} {e : Env} {R : Room} {s : State} {m : MethodId} {args : Array Value} {below : List Frame} {meth : Method} {c : Code} {H : Heap} {locs : List Loc} {cells slots : Nat} {Q : State → Prop}
variable {mc ms : Nat} {free : Addr → Prop} {A0 A1 : Nat → Prop} {H0 : Heap} {a : Array Value} {pc : Nat} {ls : Array Slot} {st0 rest : List Value}
theorem vx_keep {st₀ t T' : State} {L : List Loc} (h0 : st₀.heap = H) (e1 : T'.heap = t.heap) (hS : va_S A0 H0 H locs) (hA : ∀ q, q < H.size → A1 q → A0 q) (hf : ∀ q, free q → A0 q) (hL : ∀ q ∈ L, free q.base) (hF : va_F A1 st₀ t) :
    H.size ≤ T'.heap.size ∧ (∀ q : Nat, q < H.size → ¬ A1 q → T'.heap[q]? = H[q]?) ∧ va_S A0 H0 T'.heap (locs ++ L) := by
  obtain ⟨hz, hk⟩ := hF
  rw [h0] at hz hk
  exact ⟨by rw [e1]; exact hz, fun q h1 h2 => by rw [e1]; exact hk q h1 h2,
    ⟨Nat.le_trans hS.1 (by rw [e1]; exact hz), fun q h1 h2 => by rw [e1, hk q (Nat.lt_of_lt_of_le h1 hS.1) (fun z => h2 (hA q (Nat.lt_of_lt_of_le h1 hS.1) z))]; exact hS.2.1 q h1 h2, fun q hq => by
      rcases List.mem_append.mp hq with h | h
      · exact hS.2.2 q h
      · exact hf _ (hL q h)⟩⟩
theorem vx_calli {S SX : Type} {post : Int32 → S → Prop} {px : SX → Prop} {B : S → State → Prop} {BX : String → SX → State → Prop} {AX : Nat → Prop} (hr : vx_Run p l e R s m args below meth c H locs cells slots mc ms (F0 m pc ls st0) rest (va_Qi post B A1 a) (vx_X px BX AX) free) (hS : va_S A0 H0 H locs) (hA : ∀ q, q < H.size → A1 q → A0 q) (hf : ∀ q, free q → A0 q) (hAX : ∀ q, q < H.size → AX q → A0 q)
    (kx : ∀ (E : String) (ce : Cell) (q9 : Addr) (u : SX) (t : State) (H1 : Heap) (locs1 : List Loc), t.heap = H1 → s.vm.Alike t.vm → px u → BX E u t → H.size ≤ H1.size → (∀ q : Nat, q < H.size → ¬ AX q → H1[q]? = H[q]?) → va_S A0 H0 H1 locs1 → H1[q9]? = some ce → ce.vm = .none → s.vm.findClass E = some ce.cls → vx_W p l e R s m args below meth c H1 locs1 (cells + mc) (slots + ms) Q (F0 m pc ls rest) q9)
    (kk : ∀ (r : Int32) (u : S) (t : State) (H1 : Heap) (locs1 : List Loc), t.heap = H1 → s.vm.Alike t.vm → post r u → B u t → H.size ≤ H1.size → (∀ q : Nat, q < H.size → ¬ A1 q → H1[q]? = H[q]?) → va_S A0 H0 H1 locs1 → W p l e R s m args below meth c H1 locs1 (cells + mc) (slots + ms) Q (F0 m (pc + 3) ls (.int r :: rest))) : W p l e R s m args below meth c H locs cells slots Q (F0 m pc ls st0) := by
  intro T hT X
  rcases hr T hT X with ⟨v, st₀, t, T', L, h0, X', hL, e1, e2, ⟨⟨r, u, hv, hp, hb⟩, hF⟩, st⟩ | ⟨q, st₀, t, T', L, E, ce, h0, X', hL, e1, e2, ⟨u, hp, hb, hF⟩, hce, hcv, hcl, st⟩
  · cases hv
    obtain ⟨k1, k2, k3⟩ := vx_keep h0 e1 hS hA hf hL hF
    obtain ⟨t2, a1, b1⟩ := kk r u t T'.heap (locs ++ L) e1.symm (by rw [← e2]; exact X'.warmed.alike) hp hb k1 k2 k3 T' rfl X'
    exact ⟨t2, st t2 a1, b1⟩
  · obtain ⟨k1, k2, k3⟩ := vx_keep h0 e1 hS hAX hf hL hF
    obtain ⟨t2, a1, b1⟩ := kx E ce q u t T'.heap (locs ++ L) e1.symm (by rw [← e2]; exact X'.warmed.alike) hp hb k1 k2 k3 (by rw [e1]; exact hce) hcv hcl T' rfl X'
    exact ⟨t2, st.trans a1, b1⟩
theorem vx_calll {S SX : Type} {post : Int64 → S → Prop} {px : SX → Prop} {B : S → State → Prop} {BX : String → SX → State → Prop} {AX : Nat → Prop} (hr : vx_Run p l e R s m args below meth c H locs cells slots mc ms (F0 m pc ls st0) rest (va_Ql post B A1 a) (vx_X px BX AX) free) (hS : va_S A0 H0 H locs) (hA : ∀ q, q < H.size → A1 q → A0 q) (hf : ∀ q, free q → A0 q) (hAX : ∀ q, q < H.size → AX q → A0 q)
    (kx : ∀ (E : String) (ce : Cell) (q9 : Addr) (u : SX) (t : State) (H1 : Heap) (locs1 : List Loc), t.heap = H1 → s.vm.Alike t.vm → px u → BX E u t → H.size ≤ H1.size → (∀ q : Nat, q < H.size → ¬ AX q → H1[q]? = H[q]?) → va_S A0 H0 H1 locs1 → H1[q9]? = some ce → ce.vm = .none → s.vm.findClass E = some ce.cls → vx_W p l e R s m args below meth c H1 locs1 (cells + mc) (slots + ms) Q (F0 m pc ls rest) q9)
    (kk : ∀ (r : Int64) (u : S) (t : State) (H1 : Heap) (locs1 : List Loc), t.heap = H1 → s.vm.Alike t.vm → post r u → B u t → H.size ≤ H1.size → (∀ q : Nat, q < H.size → ¬ A1 q → H1[q]? = H[q]?) → va_S A0 H0 H1 locs1 → W p l e R s m args below meth c H1 locs1 (cells + mc) (slots + ms) Q (F0 m (pc + 3) ls (.long r :: rest))) : W p l e R s m args below meth c H locs cells slots Q (F0 m pc ls st0) := by
  intro T hT X
  rcases hr T hT X with ⟨v, st₀, t, T', L, h0, X', hL, e1, e2, ⟨⟨r, u, hv, hp, hb⟩, hF⟩, st⟩ | ⟨q, st₀, t, T', L, E, ce, h0, X', hL, e1, e2, ⟨u, hp, hb, hF⟩, hce, hcv, hcl, st⟩
  · cases hv
    obtain ⟨k1, k2, k3⟩ := vx_keep h0 e1 hS hA hf hL hF
    obtain ⟨t2, a1, b1⟩ := kk r u t T'.heap (locs ++ L) e1.symm (by rw [← e2]; exact X'.warmed.alike) hp hb k1 k2 k3 T' rfl X'
    exact ⟨t2, st t2 a1, b1⟩
  · obtain ⟨k1, k2, k3⟩ := vx_keep h0 e1 hS hAX hf hL hF
    obtain ⟨t2, a1, b1⟩ := kx E ce q u t T'.heap (locs ++ L) e1.symm (by rw [← e2]; exact X'.warmed.alike) hp hb k1 k2 k3 (by rw [e1]; exact hce) hcv hcl T' rfl X'
    exact ⟨t2, st.trans a1, b1⟩
theorem vx_callf {S SX : Type} {post : UInt32 → S → Prop} {px : SX → Prop} {B : S → State → Prop} {BX : String → SX → State → Prop} {AX : Nat → Prop} (hr : vx_Run p l e R s m args below meth c H locs cells slots mc ms (F0 m pc ls st0) rest (va_Qf post B A1 a) (vx_X px BX AX) free) (hS : va_S A0 H0 H locs) (hA : ∀ q, q < H.size → A1 q → A0 q) (hf : ∀ q, free q → A0 q) (hAX : ∀ q, q < H.size → AX q → A0 q)
    (kx : ∀ (E : String) (ce : Cell) (q9 : Addr) (u : SX) (t : State) (H1 : Heap) (locs1 : List Loc), t.heap = H1 → s.vm.Alike t.vm → px u → BX E u t → H.size ≤ H1.size → (∀ q : Nat, q < H.size → ¬ AX q → H1[q]? = H[q]?) → va_S A0 H0 H1 locs1 → H1[q9]? = some ce → ce.vm = .none → s.vm.findClass E = some ce.cls → vx_W p l e R s m args below meth c H1 locs1 (cells + mc) (slots + ms) Q (F0 m pc ls rest) q9)
    (kk : ∀ (r : UInt32) (u : S) (t : State) (H1 : Heap) (locs1 : List Loc), t.heap = H1 → s.vm.Alike t.vm → post r u → B u t → H.size ≤ H1.size → (∀ q : Nat, q < H.size → ¬ A1 q → H1[q]? = H[q]?) → va_S A0 H0 H1 locs1 → W p l e R s m args below meth c H1 locs1 (cells + mc) (slots + ms) Q (F0 m (pc + 3) ls (.float r :: rest))) : W p l e R s m args below meth c H locs cells slots Q (F0 m pc ls st0) := by
  intro T hT X
  rcases hr T hT X with ⟨v, st₀, t, T', L, h0, X', hL, e1, e2, ⟨⟨r, u, hv, hp, hb⟩, hF⟩, st⟩ | ⟨q, st₀, t, T', L, E, ce, h0, X', hL, e1, e2, ⟨u, hp, hb, hF⟩, hce, hcv, hcl, st⟩
  · cases hv
    obtain ⟨k1, k2, k3⟩ := vx_keep h0 e1 hS hA hf hL hF
    obtain ⟨t2, a1, b1⟩ := kk r u t T'.heap (locs ++ L) e1.symm (by rw [← e2]; exact X'.warmed.alike) hp hb k1 k2 k3 T' rfl X'
    exact ⟨t2, st t2 a1, b1⟩
  · obtain ⟨k1, k2, k3⟩ := vx_keep h0 e1 hS hAX hf hL hF
    obtain ⟨t2, a1, b1⟩ := kx E ce q u t T'.heap (locs ++ L) e1.symm (by rw [← e2]; exact X'.warmed.alike) hp hb k1 k2 k3 (by rw [e1]; exact hce) hcv hcl T' rfl X'
    exact ⟨t2, st.trans a1, b1⟩
theorem vx_calld {S SX : Type} {post : UInt64 → S → Prop} {px : SX → Prop} {B : S → State → Prop} {BX : String → SX → State → Prop} {AX : Nat → Prop} (hr : vx_Run p l e R s m args below meth c H locs cells slots mc ms (F0 m pc ls st0) rest (va_Qd post B A1 a) (vx_X px BX AX) free) (hS : va_S A0 H0 H locs) (hA : ∀ q, q < H.size → A1 q → A0 q) (hf : ∀ q, free q → A0 q) (hAX : ∀ q, q < H.size → AX q → A0 q)
    (kx : ∀ (E : String) (ce : Cell) (q9 : Addr) (u : SX) (t : State) (H1 : Heap) (locs1 : List Loc), t.heap = H1 → s.vm.Alike t.vm → px u → BX E u t → H.size ≤ H1.size → (∀ q : Nat, q < H.size → ¬ AX q → H1[q]? = H[q]?) → va_S A0 H0 H1 locs1 → H1[q9]? = some ce → ce.vm = .none → s.vm.findClass E = some ce.cls → vx_W p l e R s m args below meth c H1 locs1 (cells + mc) (slots + ms) Q (F0 m pc ls rest) q9)
    (kk : ∀ (r : UInt64) (u : S) (t : State) (H1 : Heap) (locs1 : List Loc), t.heap = H1 → s.vm.Alike t.vm → post r u → B u t → H.size ≤ H1.size → (∀ q : Nat, q < H.size → ¬ A1 q → H1[q]? = H[q]?) → va_S A0 H0 H1 locs1 → W p l e R s m args below meth c H1 locs1 (cells + mc) (slots + ms) Q (F0 m (pc + 3) ls (.double r :: rest))) : W p l e R s m args below meth c H locs cells slots Q (F0 m pc ls st0) := by
  intro T hT X
  rcases hr T hT X with ⟨v, st₀, t, T', L, h0, X', hL, e1, e2, ⟨⟨r, u, hv, hp, hb⟩, hF⟩, st⟩ | ⟨q, st₀, t, T', L, E, ce, h0, X', hL, e1, e2, ⟨u, hp, hb, hF⟩, hce, hcv, hcl, st⟩
  · cases hv
    obtain ⟨k1, k2, k3⟩ := vx_keep h0 e1 hS hA hf hL hF
    obtain ⟨t2, a1, b1⟩ := kk r u t T'.heap (locs ++ L) e1.symm (by rw [← e2]; exact X'.warmed.alike) hp hb k1 k2 k3 T' rfl X'
    exact ⟨t2, st t2 a1, b1⟩
  · obtain ⟨k1, k2, k3⟩ := vx_keep h0 e1 hS hAX hf hL hF
    obtain ⟨t2, a1, b1⟩ := kx E ce q u t T'.heap (locs ++ L) e1.symm (by rw [← e2]; exact X'.warmed.alike) hp hb k1 k2 k3 (by rw [e1]; exact hce) hcv hcl T' rfl X'
    exact ⟨t2, st.trans a1, b1⟩
theorem vx_callv {S SX : Type} {post : S → Prop} {px : SX → Prop} {B : S → State → Prop} {BX : String → SX → State → Prop} {AX : Nat → Prop} (hr : vx_Run p l e R s m args below meth c H locs cells slots mc ms (F0 m pc ls st0) rest (va_Qv post B A1 a) (vx_X px BX AX) free) (hS : va_S A0 H0 H locs) (hA : ∀ q, q < H.size → A1 q → A0 q) (hf : ∀ q, free q → A0 q) (hAX : ∀ q, q < H.size → AX q → A0 q)
    (kx : ∀ (E : String) (ce : Cell) (q9 : Addr) (u : SX) (t : State) (H1 : Heap) (locs1 : List Loc), t.heap = H1 → s.vm.Alike t.vm → px u → BX E u t → H.size ≤ H1.size → (∀ q : Nat, q < H.size → ¬ AX q → H1[q]? = H[q]?) → va_S A0 H0 H1 locs1 → H1[q9]? = some ce → ce.vm = .none → s.vm.findClass E = some ce.cls → vx_W p l e R s m args below meth c H1 locs1 (cells + mc) (slots + ms) Q (F0 m pc ls rest) q9)
    (kk : ∀ (u : S) (t : State) (H1 : Heap) (locs1 : List Loc), t.heap = H1 → s.vm.Alike t.vm → post u → B u t → H.size ≤ H1.size → (∀ q : Nat, q < H.size → ¬ A1 q → H1[q]? = H[q]?) → va_S A0 H0 H1 locs1 → W p l e R s m args below meth c H1 locs1 (cells + mc) (slots + ms) Q (F0 m (pc + 3) ls (rest))) : W p l e R s m args below meth c H locs cells slots Q (F0 m pc ls st0) := by
  intro T hT X
  rcases hr T hT X with ⟨v, st₀, t, T', L, h0, X', hL, e1, e2, ⟨⟨u, hv, hp, hb⟩, hF⟩, st⟩ | ⟨q, st₀, t, T', L, E, ce, h0, X', hL, e1, e2, ⟨u, hp, hb, hF⟩, hce, hcv, hcl, st⟩
  · cases hv
    obtain ⟨k1, k2, k3⟩ := vx_keep h0 e1 hS hA hf hL hF
    obtain ⟨t2, a1, b1⟩ := kk u t T'.heap (locs ++ L) e1.symm (by rw [← e2]; exact X'.warmed.alike) hp hb k1 k2 k3 T' rfl X'
    exact ⟨t2, st t2 a1, b1⟩
  · obtain ⟨k1, k2, k3⟩ := vx_keep h0 e1 hS hAX hf hL hF
    obtain ⟨t2, a1, b1⟩ := kx E ce q u t T'.heap (locs ++ L) e1.symm (by rw [← e2]; exact X'.warmed.alike) hp hb k1 k2 k3 (by rw [e1]; exact hce) hcv hcl T' rfl X'
    exact ⟨t2, st.trans a1, b1⟩
/-- caught by the row x of this method's table; the rows ahead don't take it -/
theorem vx_catch {own name : String} {E : String} {ce : Cell} {q : Addr} (hown : s.vm.findClass own = some m.cls) (pre : List ExceptionTableEntry) (x : ExceptionTableEntry) (suf : List ExceptionTableEntry) (hsplit : c.exceptionTable.toList = pre ++ x :: suf)
    (hpass : ∀ z ∈ pre, covers z pc = false ∨ (z.catchType ≠ 0 ∧ ∃ nm : String, (Cond.classLink own z.catchType nm).before args s = true ∧ va_Nc E nm s)) (hx : covers x pc = true) (h0 : x.catchType ≠ 0)
    (hlink : (Cond.classLink own x.catchType name).before args s = true) (hcast : (Cond.castable E name).before args s = true) (hcell : H[q]? = some ce) (hv : ce.vm = .none) (hcl : s.vm.findClass E = some ce.cls)
    (kk : W p l e R s m args below meth c H locs cells slots Q (F0 m x.handlerPc ls [.ref q])) : vx_W p l e R s m args below meth c H locs cells slots Q (F0 m pc ls rest) q := by
  intro T hT X
  have hpl : e.platform.magicAccessors = ({} : Platform).magicAccessors := by rw [X.admits.platform]
  obtain ⟨c3, c4, hc3, hc4, hasg⟩ := Cond.castable_spec hcast
  cases Option.some.inj (hc3.symm.trans hcl)
  obtain ⟨c5, hc5, hcl5⟩ := Cond.classLink_spec hown hlink e.platform hpl
  cases Option.some.inj (hc4.symm.trans hc5)
  obtain ⟨vm', X', st⟩ := X.thenCaughtThrough q (g := F0 m pc ls rest) rfl (Steps.refl _) (by rw [hT]; exact hcell) (by rw [hv]; rfl) (by obtain ⟨k9, h9, -⟩ := Vm.findClass_spec hcl; exact ⟨k9, h9⟩) pre x suf hsplit
    (fun z hz => by
      rcases hpass z hz with h | ⟨hz0, nm, hl1, hn1⟩
      · exact Or.inl h
      · obtain ⟨c6, hc6, hcl6⟩ := Cond.classLink_spec hown hl1 e.platform hpl
        obtain ⟨a8, b8, h1, h2, h3⟩ := hn1
        cases Option.some.inj (h1.symm.trans hcl)
        cases Option.some.inj (h2.symm.trans hc6)
        exact Or.inr ⟨hz0, _, hcl6, h3⟩) hx (Or.inr ⟨h0, c4, hcl5, hasg⟩)
  obtain ⟨t, a1, b1⟩ := kk (T.setVm vm') hT X'
  exact ⟨t, st.trans a1, b1⟩
end Rows
section Ends
variable {p : Program} {l : Launch} {e : Env} {R : Room} {s : State} {m : MethodId} {args : Array Value} {below : List Frame} {meth : Method} {c : Code} {H : Heap} {locs : List Loc} {cells slots : Nat} {Q : State → Prop}
variable {mc ms : Nat} {free : Addr → Prop} {A0 A1 : Nat → Prop} {H0 : Heap} {a : Array Value} {ls : Array Slot} {st0 rest : List Value}
variable {Qc : Array Value → State → Outcome → State → Prop} {XC : String → State → State → Prop}
/-- what a body that may throw owes at its end -/
def vx_MQ (below : List Frame) (Qc : Array Value → State → Outcome → State → Prop) (XC : String → State → State → Prop) (a : Array Value) (s : State) (mc ms : Nat) (free : Addr → Prop) : State → Prop := fun t =>
  ∃ o, t.status = .running ∧ Ended t below o ∧ vx_Q Qc XC mc ms free a s o t
theorem vx_ret {g : JFrame} {mc ms : Nat} (k : W p l e R s m args below meth c H locs cells slots (MQ below Qc args s mc ms free) g) : W p l e R s m args below meth c H locs cells slots (vx_MQ below Qc XC args s mc ms free) g := by
  intro T hT X
  obtain ⟨t, a1, o, b1, b2, b3, b4⟩ := k T hT X
  exact ⟨t, a1, o, b1, b2, Or.inl ⟨b3, b4⟩⟩
/-- not caught here: it goes on to the caller -/
theorem vx_widen {g : JFrame} {q : Addr} {k n : Nat} (h1 : cells ≤ k) (h2 : slots ≤ n) (kk : vx_W p l e R s m args below meth c H locs k n Q g q) : vx_W p l e R s m args below meth c H locs cells slots Q g q := fun T hT X => kk T hT (stand_widen X h1 h2)
theorem vx_out {pc : Nat} {E : String} {ce : Cell} {q : Addr} {mc ms : Nat} (hout : ∀ x ∈ c.exceptionTable.toList, covers x pc = false) (hlocks : meth.locks = false) (hcell : H[q]? = some ce) (hv : ce.vm = .none) (hcl : s.vm.findClass E = some ce.cls)
    (hx : ∀ t : State, t.heap = H → s.vm.Alike t.vm → XC E s t) (hf : ∀ z ∈ locs, free z.base) (hc : cells ≤ mc) (hs : slots ≤ ms) :
    vx_W p l e R s m args below meth c H locs cells slots (vx_MQ below Qc XC args s mc ms free) (F0 m pc ls rest) q := by
  intro T hT X
  obtain ⟨st1, hrun, hend, hW, hsm⟩ := X.leaveThrown q (g := F0 m pc ls rest) rfl rfl rfl hout hlocks
  have hcell9 : (T.setFrames (.throwing q :: below)).heap[q]? = some ce := by
    show T.heap[q]? = some ce
    rw [hT]; exact hcell
  exact ⟨_, st1, .threw q, hrun, hend, Or.inr ⟨q, rfl, E, ce, locs, hx _ hT hW.alike, hcell9, hv, hcl, hW, hsm.mono hc hs, hf⟩⟩
theorem vx_frame {U : State} {k n : Nat} (h : s.sameButNew ({ U with vm := s.vm } : State) locs k n) : s.heap.size ≤ U.heap.size ∧ ∀ q : Nat, q < s.heap.size → (∀ z ∈ locs, z.base ≠ q) → U.heap[q]? = s.heap[q]? := by
  obtain ⟨-, h2, -, -, -, h6⟩ := h
  refine ⟨h2, fun q hq hz => ?_⟩
  obtain ⟨c9, e1, e2, e3, e4⟩ := h6 q _ (Array.getElem?_eq_getElem hq)
  have hs : c9.slots = (s.heap[q]).slots := Array.ext_getElem? fun i => e4 i fun hm => hz _ hm rfl
  have h9 : c9 = s.heap[q] := by
    rw [hs] at e2
    exact e2
  have e5 : U.heap[q]? = some c9 := e1
  rw [e5, h9, Array.getElem?_eq_getElem hq]
/-- the words of a throw but the four that speak of the heap -/
def vx_no (w : Cond) : Bool := decide (w ≠ .isRef (.static Bundle.tN "UNASSIGNED_STACK" Bundle.steD)) && decide (w ≠ .isRef (.static Bundle.tN "SUPPRESSED_SENTINEL" Bundle.listD)) && decide (w ≠ .laysStatic Bundle.tN "UNASSIGNED_STACK" Bundle.steD) && decide (w ≠ .laysStatic Bundle.tN "SUPPRESSED_SENTINEL" Bundle.listD)
def vx_at0 (own : String) (ic : Nat) (X : String) (names : List String) : List Cond := (Bundle.ownAtoms0 own ic X names).filter vx_no
def vx_atS (own : String) (ic : Nat) (X : String) (names : List String) : List Cond := (Bundle.ownAtoms own ic X names).filter vx_no
/-- a word that the tables alone decide, or a good one -/
def vx_ot (w : Cond) : Bool := w.onTables || goodWord w
theorem vx_ot_at {args a' : Array Value} {s U : State} {w : Cond} (hW : s.WarmedH U.vm) (hvm : s.vm = U.vm) (hg : vx_ot w = true) (h : w.before args s = true) : w.before a' U = true := by
  simp only [vx_ot, Bool.or_eq_true] at hg
  rcases hg with hg | hg
  · exact va_tabs hg hvm h
  · exact word_at hW (good_of_word hg) h
/-- a list's words: the good ones out of the method's own list, the others by premises of their own -/
theorem vx_hat {args : Array Value} {s : State} {L B : List Cond} (h1 : ∀ w ∈ L.filter goodWord, w.before args s = true) (h2 : ∀ w ∈ L.filter (fun w => !goodWord w), w ∈ B) (h3 : ∀ w ∈ B, w.before args s = true) : ∀ w ∈ L, w.before args s = true := by
  intro w hw
  by_cases g : goodWord w = true
  · exact h1 w (List.mem_filter.mpr ⟨hw, g⟩)
  · refine h3 w (h2 w (List.mem_filter.mpr ⟨hw, ?_⟩))
    show (!goodWord w) = true
    cases hgw : goodWord w
    · rfl
    · exact absurd hgw g
theorem vx_c {args : Array Value} {s : State} {w : Cond} {B : List Cond} (h : w.before args s = true) (t : ∀ w ∈ B, w.before args s = true) : ∀ w' ∈ w :: B, w'.before args s = true := fun w' h' => (List.mem_cons.mp h').elim (fun e => by rw [e]; exact h) (t w')
theorem vx_n {args : Array Value} {s : State} : ∀ w ∈ ([] : List Cond), w.before args s = true := fun _ h => nomatch h
theorem vx_own {args : Array Value} {s : State} {L : List Cond} (h1 : ∀ w ∈ L.filter vx_no, w.before args s = true)
    (hU : (Cond.isRef (.static Bundle.tN "UNASSIGNED_STACK" Bundle.steD)).before args s = true) (hN : (Cond.isRef (.static Bundle.tN "SUPPRESSED_SENTINEL" Bundle.listD)).before args s = true)
    (lU : (Cond.laysStatic Bundle.tN "UNASSIGNED_STACK" Bundle.steD).before args s = true) (lN : (Cond.laysStatic Bundle.tN "SUPPRESSED_SENTINEL" Bundle.listD).before args s = true) : ∀ w ∈ L, w.before args s = true := by
  intro w hw
  by_cases e1 : w = .isRef (.static Bundle.tN "UNASSIGNED_STACK" Bundle.steD)
  · rw [e1]; exact hU
  · by_cases e2 : w = .isRef (.static Bundle.tN "SUPPRESSED_SENTINEL" Bundle.listD)
    · rw [e2]; exact hN
    · by_cases e3 : w = .laysStatic Bundle.tN "UNASSIGNED_STACK" Bundle.steD
      · rw [e3]; exact lU
      · by_cases e4 : w = .laysStatic Bundle.tN "SUPPRESSED_SENTINEL" Bundle.listD
        · rw [e4]; exact lN
        · exact h1 w (List.mem_filter.mpr ⟨hw, by unfold vx_no; rw [decide_eq_true e1, decide_eq_true e2, decide_eq_true e3, decide_eq_true e4]; rfl⟩)
/-- where a static field lies, its class's statics cell in H -/
def vx_L (C n d : String) (A : Nat → Prop) (U : State) (H : Heap) : Prop := ∃ (c : ClassId) (k : Class) (i : Nat) (f : Field) (a : Nat) (cell : Cell), U.vm.findClass C = some c ∧ U.fieldFound? C n d = some (c, k, i, f) ∧ f.isStatic = true ∧ k.statics = some a ∧ H[a]? = some cell ∧ cell.vm.isStatics = true ∧ cell.cls = c ∧ f.slot < cell.slots.size ∧ k.staticTypes[f.slot]? = some f.type ∧ ¬ A a
theorem vx_L.moved {C n d : String} {A : Nat → Prop} {u U : State} {H : Heap} (hvm : u.vm.Alike U.vm) (h : vx_L C n d A u H) : vx_L C n d A U H := by
  obtain ⟨c, k, i, f, a, cell, h1, h2, h3, h4, h5, h6, h7, h8, h9, h10⟩ := h
  obtain ⟨k', hi', he⟩ := State.fieldFound?_setVm hvm h2
  exact ⟨c, k', i, f, a, cell, by rw [hvm.findClass]; exact h1, hi', h3, by rw [he]; exact h4, h5, h6, h7, h8, by rw [he]; exact h9, h10⟩
theorem vx_L.kept {C n d : String} {A : Nat → Prop} {U : State} {H H1 : Heap} (h : vx_L C n d A U H) (hq : ∀ a : Nat, a < H.size → ¬ A a → H1[a]? = H[a]?) : vx_L C n d A U H1 := by
  obtain ⟨c, k, i, f, a, cell, h1, h2, h3, h4, h5, h6, h7, h8, h9, h10⟩ := h
  exact ⟨c, k, i, f, a, cell, h1, h2, h3, h4, by rw [hq a (Array.getElem?_eq_some_iff.mp h5).1 h10]; exact h5, h6, h7, h8, h9, h10⟩
theorem vx_L.narrow {C n d : String} {A B : Nat → Prop} {U : State} {H : Heap} (h : vx_L C n d A U H) (hAB : ∀ q, B q → A q) : vx_L C n d B U H := by
  obtain ⟨c, k, i, f, a, cell, h1, h2, h3, h4, h5, h6, h7, h8, h9, h10⟩ := h
  exact ⟨c, k, i, f, a, cell, h1, h2, h3, h4, h5, h6, h7, h8, h9, fun z => h10 (hAB _ z)⟩
theorem vx_L.word {C n d : String} {A : Nat → Prop} {s : State} {args : Array Value} (h : vx_L C n d A s s.heap) : (Cond.laysStatic C n d).before args s = true := by
  obtain ⟨c, k, i, f, a, cell, h1, h2, h3, h4, h5, h6, h7, h8, h9, -⟩ := h
  show (Cond.laysStatic C n d).holds args s none s [] = true
  exact Cond.laysStatic_of h1 h2 h3 h4 h5 h6 h7 h8 h9
/-- .. and what it holds: null or some reference -/
def vx_Zq (C n d : String) (A : Nat → Prop) (U : State) (H : Heap) : Prop := va_Zq C n d A U H ∧ vx_L C n d A U H
theorem vx_Zq.moved {C n d : String} {A : Nat → Prop} {u U : State} {H : Heap} (hvm : u.vm.Alike U.vm) (h : vx_Zq C n d A u H) : vx_Zq C n d A U H := ⟨va_Zq.moved hvm h.1, vx_L.moved hvm h.2⟩
theorem vx_Zq.kept {C n d : String} {A : Nat → Prop} {U : State} {H H1 : Heap} (h : vx_Zq C n d A U H) (hq : ∀ a : Nat, a < H.size → ¬ A a → H1[a]? = H[a]?) : vx_Zq C n d A U H1 := ⟨va_Zq.kept h.1 hq, vx_L.kept h.2 hq⟩
theorem vx_Zq.narrow {C n d : String} {A B : Nat → Prop} {U : State} {H : Heap} (h : vx_Zq C n d A U H) (hAB : ∀ q, B q → A q) : vx_Zq C n d B U H := ⟨va_Zq.narrow h.1 hAB, vx_L.narrow h.2 hAB⟩
theorem vx_Zqof {args : Array Value} {s : State} {C n d : String} {A : Nat → Prop} (hl : (Cond.laysStatic C n d).before args s = true) (hini : (Cond.initialized C).before args s = true) (h : (Cond.isRef (.static C n d)).before args s = true) (hA : ∀ a : Nat, a < s.heap.size → ¬ A a) : vx_Zq C n d A s s.heap := by
  refine ⟨va_Zqof hl hini h hA, ?_⟩
  obtain ⟨c, k, i, f, a, cell, h1, h2, h3, h4, h5, h6, h7, h8, h9⟩ := Cond.laysStatic_spec hl
  exact ⟨c, k, i, f, a, cell, h1, h2, h3, h4, h5, h6, h7, h8, h9, hA a (Array.getElem?_eq_some_iff.mp h5).1⟩
theorem vx_isRef {C n d : String} {v : Value} {A : Nat → Prop} {s : State} {args : Array Value} (h : va_Z C n d v A s s.heap) (hv : v.isRef = true) : (Cond.isRef (.static C n d)).before args s = true := by
  obtain ⟨cf, kf, fi, f, a, cell, h1, h2, h3, h4, h5, h6, h7, -⟩ := h
  have he : (Term.static C n d).eval args s none [] s = some v := by
    simp [Term.eval, State.fieldNamed?, h1, h2, h4, h5, h6, h7]
  simp only [Cond.before, Cond.holds, Cond.value, he]
  cases v <;> simp_all [Value.isRef]
theorem vx_isRefq {C n d : String} {A : Nat → Prop} {s : State} {args : Array Value} (h : va_Zq C n d A s s.heap) : (Cond.isRef (.static C n d)).before args s = true := by
  rcases h with h | ⟨t, h⟩
  · exact vx_isRef h rfl
  · exact vx_isRef h rfl
/-- the same frame, seen from here: as if the method were called anew in this heap -/
theorem vx_rebase {T : State} (X : Stand p l e R s m args below meth c T locs cells slots) {R' : Room} (hf : R'.frames ≤ R.frames) (hl : R'.locals ≤ R.locals) (hc : cells + R'.cells ≤ R.cells) (hs : slots + R'.slots ≤ R.slots) :
    Stand p l e R' ((T.setVm s.vm).setFrames (.invoking m args :: below)) m args below meth c T [] 0 0 := by
  have htop : (T.setVm s.vm).topJava?.isSome := X.here.top
  have hF : ((T.setVm s.vm).setFrames (.invoking m args :: below)).frames = .invoking m args :: below := State.frames_setFrames _ (State.cur_lt_of_top htop)
  obtain ⟨g₀, hg0⟩ := Option.isSome_iff_exists.mp htop
  obtain ⟨r, hr⟩ := State.topJava?_eq_some.mp hg0
  have hl9 : e.platform.stackLimits (T.setVm s.vm).me = e.platform.stackLimits s.me := X.limits
  have hb9 : (T.setVm s.vm).me.stackBytes = s.me.stackBytes := X.bytes
  refine ⟨X.admits, X.cas, X.clock, hF, ?_, X.hears, X.method, X.code, X.here, X.tail, X.warmed, ?_, ?_, ?_⟩
  · have h := X.room
    have hU : ((T.setVm s.vm).setFrames (.invoking m args :: below)).localsInUse = s.localsInUse := by
      rw [State.localsInUse_invoking hF (meth := meth) (c := c) X.method X.code, State.localsInUse_invoking X.frames X.method X.code]
    simp only [State.hasRoom, Bool.and_eq_true, decide_eq_true_eq] at h ⊢
    obtain ⟨⟨⟨⟨h1, h2, h3, h4, h5, h6⟩, h7⟩, h8⟩, h9⟩ := h
    rw [X.frames, List.length_cons] at h2 h3
    have q1 := X.heapSize
    have q2 := X.used
    simp only [hF, hU, List.length_cons, State.stackLimits_setFrames, State.stackBytes_setFrames, hl9, hb9]
    refine ⟨⟨⟨⟨by omega, by omega, by omega, by omega, by omega, h6⟩, ?_⟩, ?_⟩, X.book⟩
    · show T.heap.size + R'.cells ≤ e.platform.maxCells
      omega
    · show T.slotsUsed + R'.slots ≤ e.platform.maxSlots
      omega
  · rw [State.stackLimits_setFrames]; rfl
  · rw [State.stackBytes_setFrames]; rfl
  · refine ⟨?_, Nat.le_refl _, Nat.le_refl _, ?_, ?_, fun a c9 h9 => ⟨c9, h9, rfl, rfl, fun _ _ => rfl⟩⟩
    · obtain ⟨t, ht, -⟩ := State.frames_cons hr
      show T.setVm s.vm = { ((T.setVm s.vm).setFrames (.invoking m args :: below)).setFrames (T.setVm s.vm).frames with heap := T.heap, slotsUsed := T.slotsUsed }
      rw [State.setFrames_setFrames, State.setFrames_self ht]
      rfl
    · show T.slotsUsed = T.slotsUsed + ((T.heap.toList.drop T.heap.size).map (·.slots.size)).sum
      rw [List.drop_eq_nil_of_le (Nat.le_of_eq Array.length_toList)]
      rfl
    · show ((T.heap.toList.drop T.heap.size).map (·.slots.size)).sum ≤ 0
      rw [List.drop_eq_nil_of_le (Nat.le_of_eq Array.length_toList)]
      exact Nat.le_refl _
/-- 'throw new E()': new; dup; invokespecial; athrow -/
theorem vx_throw0 {cc : ByteArray} {pc : Nat} (hexec : p.tables.exec = Jvm.exec) (hb : c.code = cc) (hl : l.stackTraces = false) {own cls : String} {names : List String} {ik ic mc ms : Nat} {A : Nat → Prop}
    (hown : s.vm.findClass own = some m.cls) (hcls : Bundle.fit cls = true) (hnames : ∀ n ∈ names, Bundle.fit n = true)
    (hk : (Cond.classLink own ik cls).before args s = true) (hini : (Cond.initialized cls).before args s = true) (hat : ∀ w ∈ vx_at0 own ic cls names, w.before args s = true)
    (hgood : ∀ w ∈ Cond.classLink own ik cls :: Cond.initialized cls :: vx_at0 own ic cls names, vx_ot w = true)
    (hU : vx_Zq Bundle.tN "UNASSIGNED_STACK" Bundle.steD A s s.heap) (hN : vx_Zq Bundle.tN "SUPPRESSED_SENTINEL" Bundle.listD A s s.heap) (hS : va_S A s.heap H locs) (hsize : ls.size = c.maxLocals)
    (d0 : decode cc pc = .ok (.new ik, 3)) (d3 : decode cc (pc + 3) = .ok (.dup, 1)) (d4 : decode cc (pc + 4) = .ok (.invokespecial ic, 3)) (d7 : decode cc (pc + 7) = .ok (.athrow, 1))
    (hout : ∀ x ∈ c.exceptionTable.toList, covers x (pc + 7) = false)
    (hRframes : names.length + 3 < R.frames) (hRlocals : (rest.map fun v => v.category).sum + (13 * (names.length + 1) + 42) ≤ R.locals) (hRcells : cells + 1 ≤ R.cells) (hRslots : slots + 6 ≤ R.slots) (hlocks : meth.locks = false)
    (hx : ∀ t : State, s.vm.Alike t.vm → H.size ≤ t.heap.size → (∀ q : Nat, q < H.size → t.heap[q]? = H[q]?) → XC cls s t)
    (hf : ∀ z ∈ locs, free z.base) (hc : cells + 1 ≤ mc) (hs : slots + 6 ≤ ms) :
    W p l e R s m args below meth c H locs cells slots (vx_MQ below Qc XC args s mc ms free) (F0 m pc ls rest) := by
  intro T hT X
  have htr : e.platform.stackTraces = false := (show e.platform.stackTraces = l.stackTraces by rw [X.admits.platform]).trans hl
  have Y := vx_rebase X (R' := { frames := R.frames, locals := R.locals, cells := 1, slots := 6 }) (Nat.le_refl _) (Nat.le_refl _) hRcells hRslots
  obtain ⟨s', hA⟩ : ∃ z, z = (T.setVm s.vm).setFrames (.invoking m args :: below) := ⟨_, rfl⟩
  rw [← hA] at Y
  have hvm : s'.vm = s.vm := by rw [hA]; rfl
  have hhp : s'.heap = H := by rw [hA]; exact hT
  have hW0 : s.WarmedH s'.vm := by rw [hvm]; exact State.WarmedH.refl s
  have hat' : ∀ w ∈ vx_at0 own ic cls names, w.before args s' = true := fun w hw => vx_ot_at hW0 hvm.symm (hgood w (List.mem_cons_of_mem _ (List.mem_cons_of_mem _ hw))) (hat w hw)
  have hk' : (Cond.classLink own ik cls).before args s' = true := vx_ot_at hW0 hvm.symm (hgood _ List.mem_cons_self) hk
  have hini' : (Cond.initialized cls).before args s' = true := vx_ot_at hW0 hvm.symm (hgood _ (List.mem_cons_of_mem _ List.mem_cons_self)) hini
  have hU' : vx_Zq Bundle.tN "UNASSIGNED_STACK" Bundle.steD A s' s'.heap := by rw [hhp]; exact vx_Zq.moved hW0.alike (hU.kept hS.2.1)
  have hN' : vx_Zq Bundle.tN "SUPPRESSED_SENTINEL" Bundle.listD A s' s'.heap := by rw [hhp]; exact vx_Zq.moved hW0.alike (hN.kept hS.2.1)
  have h : ∀ w ∈ Bundle.ownAtoms0 own ic cls names, w.before args s' = true := vx_own hat' (vx_isRefq hU'.1) (vx_isRefq hN'.1) hU'.2.word hN'.2.word
  have hown' : s'.vm.findClass own = some m.cls := by rw [hvm]; exact hown
  have hins : (Cond.instantiable cls 6).before args s' = true := h _ (by simp [Bundle.ownAtoms0])
  obtain ⟨vm₁, cX, kX, hfX, hkX, -, -, X₁, st1⟩ := Y.newCold hexec (own := own) (C := cls) (index := ik) (n := 6) hown' hk' hins hini'
    (g := F0 m pc ls rest) rfl (by rw [hb]; exact d0) (Nat.le_refl _) (Nat.le_refl _)
  generalize hT1 : (T.setVm vm₁).pushCell { cls := cX, slots := kX.instanceTypes.map defaultValue, vm := .none } = T1 at X₁ st1
  have hcat : (Value.ref T.heap.size).category = 1 := rfl
  have hcellA : T1.heap[T.heap.size]? = some (freshCell cX kX) := by rw [← hT1]; exact State.heap_pushCell_size _ _
  have d3' : decode c.code (pc + 3) = .ok (.dup, 1) := by rw [hb]; exact d3
  obtain ⟨U, hsteps, hrun, hend, hW, hsame, ce, hce, hO⟩ := X₁.ctorThrow0 hexec htr (own := own) (cls := cls) (names := names) (ic := ic) hown' hcls hnames h (fun x hx => nomatch hx) hfX hkX hcellA (by rw [hhp, hT]; exact Nat.le_refl _)
    (g := { method := m, pc := pc + 4, locals := ls, stack := .ref T.heap.size :: .ref T.heap.size :: rest, locked := none }) rfl hsize rfl rfl (rest := rest) rfl
    (by rw [hb]; exact d4) (by rw [hb]; exact d7) hout hRframes (by simp only [List.map_cons, List.sum_cons, hcat]; omega) hlocks
  obtain ⟨f1, f2⟩ := vx_frame hsame
  rw [hhp] at f1 f2
  have hWs : s.WarmedH U.vm := State.WarmedH.trans hW0 hW
  have hcl : s.vm.findClass cls = some ce.cls := by
    have h9 := hO.cls
    rw [hvm] at h9
    exact h9
  have hall : s.sameButNew ({ U with vm := s.vm } : State) locs mc ms := by
    subst hA
    obtain ⟨e1, e2⟩ := hsame
    rw [State.setFrames_setFrames] at e1
    have h2 : (T.setVm s.vm).sameButNew ({ U with vm := s.vm } : State) [] (0 + 1) (0 + 6) := ⟨e1, e2⟩
    have h3 := X.same.trans h2
    rw [List.append_nil] at h3
    exact h3.mono hc hs
  refine ⟨U, ?_, .threw T.heap.size, hrun, hend, Or.inr ⟨T.heap.size, rfl, cls, ce, locs, hx U hWs.alike f1 (fun q hq => f2 q hq (fun z hz => nomatch hz)), hce, hO.vm, hcl, hWs, hall, hf⟩⟩
  refine st1 _ ?_
  show Steps p.tables e below (T1.setTop { method := m, pc := pc + 3, locals := ls, stack := .ref T.heap.size :: rest, locked := none }) _
  jvm_step X₁.here [X₁.here.top, hexec, d3', Value.category]
  exact hsteps
/-- 'throw new E("text")': new; dup; ldc; invokespecial; athrow -/
theorem vx_throwS {cc : ByteArray} {pc : Nat} (hexec : p.tables.exec = Jvm.exec) (hb : c.code = cc) (hl : l.stackTraces = false) {own cls text : String} {names : List String} {ik is ic mc ms sa : Nat} {A : Nat → Prop}
    (hown : s.vm.findClass own = some m.cls) (hcls : Bundle.fit cls = true) (hnames : ∀ n ∈ names, Bundle.fit n = true)
    (hk : (Cond.classLink own ik cls).before args s = true) (hini : (Cond.initialized cls).before args s = true) (hstr : vk_R own is text sa s) (hat : ∀ w ∈ vx_atS own ic cls names, w.before args s = true)
    (hgood : ∀ w ∈ Cond.classLink own ik cls :: Cond.initialized cls :: vx_atS own ic cls names, vx_ot w = true)
    (hU : vx_Zq Bundle.tN "UNASSIGNED_STACK" Bundle.steD A s s.heap) (hN : vx_Zq Bundle.tN "SUPPRESSED_SENTINEL" Bundle.listD A s s.heap) (hS : va_S A s.heap H locs) (hsize : ls.size = c.maxLocals)
    (d0 : decode cc pc = .ok (.new ik, 3)) (d3 : decode cc (pc + 3) = .ok (.dup, 1)) (d4 : decode cc (pc + 4) = .ok (.ldc is, 2)) (d6 : decode cc (pc + 6) = .ok (.invokespecial ic, 3)) (d9 : decode cc (pc + 9) = .ok (.athrow, 1))
    (hout : ∀ x ∈ c.exceptionTable.toList, covers x (pc + 9) = false)
    (hRframes : names.length + 3 < R.frames) (hRlocals : (rest.map fun v => v.category).sum + (13 * (names.length + 1) + 43) ≤ R.locals) (hRcells : cells + 1 ≤ R.cells) (hRslots : slots + 6 ≤ R.slots) (hlocks : meth.locks = false)
    (hx : ∀ t : State, s.vm.Alike t.vm → H.size ≤ t.heap.size → (∀ q : Nat, q < H.size → t.heap[q]? = H[q]?) → XC cls s t)
    (hf : ∀ z ∈ locs, free z.base) (hc : cells + 1 ≤ mc) (hs : slots + 6 ≤ ms) :
    W p l e R s m args below meth c H locs cells slots (vx_MQ below Qc XC args s mc ms free) (F0 m pc ls rest) := by
  intro T hT X
  have htr : e.platform.stackTraces = false := (show e.platform.stackTraces = l.stackTraces by rw [X.admits.platform]).trans hl
  have Y := vx_rebase X (R' := { frames := R.frames, locals := R.locals, cells := 1, slots := 6 }) (Nat.le_refl _) (Nat.le_refl _) hRcells hRslots
  obtain ⟨s', hA⟩ : ∃ z, z = (T.setVm s.vm).setFrames (.invoking m args :: below) := ⟨_, rfl⟩
  rw [← hA] at Y
  have hvm : s'.vm = s.vm := by rw [hA]; rfl
  have hhp : s'.heap = H := by rw [hA]; exact hT
  have hW0 : s.WarmedH s'.vm := by rw [hvm]; exact State.WarmedH.refl s
  have hat' : ∀ w ∈ vx_atS own ic cls names, w.before args s' = true := fun w hw => vx_ot_at hW0 hvm.symm (hgood w (List.mem_cons_of_mem _ (List.mem_cons_of_mem _ hw))) (hat w hw)
  have hk' : (Cond.classLink own ik cls).before args s' = true := vx_ot_at hW0 hvm.symm (hgood _ List.mem_cons_self) hk
  have hini' : (Cond.initialized cls).before args s' = true := vx_ot_at hW0 hvm.symm (hgood _ (List.mem_cons_of_mem _ List.mem_cons_self)) hini
  have hU' : vx_Zq Bundle.tN "UNASSIGNED_STACK" Bundle.steD A s' s'.heap := by rw [hhp]; exact vx_Zq.moved hW0.alike (hU.kept hS.2.1)
  have hN' : vx_Zq Bundle.tN "SUPPRESSED_SENTINEL" Bundle.listD A s' s'.heap := by rw [hhp]; exact vx_Zq.moved hW0.alike (hN.kept hS.2.1)
  have h : ∀ w ∈ Bundle.ownAtoms own ic cls names, w.before args s' = true := vx_own hat' (vx_isRefq hU'.1) (vx_isRefq hN'.1) hU'.2.word hN'.2.word
  have hown' : s'.vm.findClass own = some m.cls := by rw [hvm]; exact hown
  have hins : (Cond.instantiable cls 6).before args s' = true := h _ (by simp [Bundle.ownAtoms])
  obtain ⟨vm₁, cX, kX, hfX, hkX, -, -, X₁, st1⟩ := Y.newCold hexec (own := own) (C := cls) (index := ik) (n := 6) hown' hk' hins hini'
    (g := F0 m pc ls rest) rfl (by rw [hb]; exact d0) (Nat.le_refl _) (Nat.le_refl _)
  generalize hT1 : (T.setVm vm₁).pushCell { cls := cX, slots := kX.instanceTypes.map defaultValue, vm := .none } = T1 at X₁ st1
  have hcat : (Value.ref T.heap.size).category = 1 := rfl
  have hcellA : T1.heap[T.heap.size]? = some (freshCell cX kX) := by rw [← hT1]; exact State.heap_pushCell_size _ _
  have d3' : decode c.code (pc + 3) = .ok (.dup, 1) := by rw [hb]; exact d3
  have d4' : decode c.code (pc + 4) = .ok (.ldc is, 2) := by rw [hb]; exact d4
  have hstr' : vk_R own is text sa s' := vk_R.warm hW0 hstr
  obtain ⟨U, hsteps, hrun, hend, hW, hsame, ce, hce, hO⟩ := X₁.ctorThrowS hexec htr (own := own) (cls := cls) (names := names) (ic := ic) hown' hcls hnames h (fun x hx => nomatch hx) hfX hkX hcellA (by rw [hhp, hT]; exact Nat.le_refl _) (msg := .ref sa) rfl
    (g := { method := m, pc := pc + 6, locals := ls, stack := .ref sa :: .ref T.heap.size :: .ref T.heap.size :: rest, locked := none }) rfl hsize rfl rfl (rest := rest) rfl
    (by rw [hb]; exact d6) (by rw [hb]; exact d9) hout hRframes (by simp only [List.map_cons, List.sum_cons, hcat]; omega) hlocks
  obtain ⟨f1, f2⟩ := vx_frame hsame
  rw [hhp] at f1 f2
  have hWs : s.WarmedH U.vm := State.WarmedH.trans hW0 hW
  have hcl : s.vm.findClass cls = some ce.cls := by
    have h9 := hO.cls
    rw [hvm] at h9
    exact h9
  have hall : s.sameButNew ({ U with vm := s.vm } : State) locs mc ms := by
    subst hA
    obtain ⟨e1, e2⟩ := hsame
    rw [State.setFrames_setFrames] at e1
    have h2 : (T.setVm s.vm).sameButNew ({ U with vm := s.vm } : State) [] (0 + 1) (0 + 6) := ⟨e1, e2⟩
    have h3 := X.same.trans h2
    rw [List.append_nil] at h3
    exact h3.mono hc hs
  refine ⟨U, ?_, .threw T.heap.size, hrun, hend, Or.inr ⟨T.heap.size, rfl, cls, ce, locs, hx U hWs.alike f1 (fun q hq => f2 q hq (fun z hz => nomatch hz)), hce, hO.vm, hcl, hWs, hall, hf⟩⟩
  refine st1 _ ?_
  show Steps p.tables e below (T1.setTop { method := m, pc := pc + 3, locals := ls, stack := .ref T.heap.size :: rest, locked := none }) _
  jvm_step X₁.here [X₁.here.top, hexec, d3', Value.category]
  exact X₁.ldcString hexec (own := own) (text := text) (index := is) (a := sa) hown' hstr'.1 hstr'.2
    (g := { method := m, pc := pc + 4, locals := ls, stack := .ref T.heap.size :: .ref T.heap.size :: rest, locked := none }) rfl d4' _ hsteps
/-- 'throw new E("text")', the text by a wide index -/
theorem vx_throwSW {cc : ByteArray} {pc : Nat} (hexec : p.tables.exec = Jvm.exec) (hb : c.code = cc) (hl : l.stackTraces = false) {own cls text : String} {names : List String} {ik is ic mc ms sa : Nat} {A : Nat → Prop}
    (hown : s.vm.findClass own = some m.cls) (hcls : Bundle.fit cls = true) (hnames : ∀ n ∈ names, Bundle.fit n = true)
    (hk : (Cond.classLink own ik cls).before args s = true) (hini : (Cond.initialized cls).before args s = true) (hstr : vk_R own is text sa s) (hat : ∀ w ∈ vx_atS own ic cls names, w.before args s = true)
    (hgood : ∀ w ∈ Cond.classLink own ik cls :: Cond.initialized cls :: vx_atS own ic cls names, vx_ot w = true)
    (hU : vx_Zq Bundle.tN "UNASSIGNED_STACK" Bundle.steD A s s.heap) (hN : vx_Zq Bundle.tN "SUPPRESSED_SENTINEL" Bundle.listD A s s.heap) (hS : va_S A s.heap H locs) (hsize : ls.size = c.maxLocals)
    (d0 : decode cc pc = .ok (.new ik, 3)) (d3 : decode cc (pc + 3) = .ok (.dup, 1)) (d4 : decode cc (pc + 4) = .ok (.ldc_w is, 3)) (d7 : decode cc (pc + 7) = .ok (.invokespecial ic, 3)) (d10 : decode cc (pc + 10) = .ok (.athrow, 1))
    (hout : ∀ x ∈ c.exceptionTable.toList, covers x (pc + 10) = false)
    (hRframes : names.length + 3 < R.frames) (hRlocals : (rest.map fun v => v.category).sum + (13 * (names.length + 1) + 43) ≤ R.locals) (hRcells : cells + 1 ≤ R.cells) (hRslots : slots + 6 ≤ R.slots) (hlocks : meth.locks = false)
    (hx : ∀ t : State, s.vm.Alike t.vm → H.size ≤ t.heap.size → (∀ q : Nat, q < H.size → t.heap[q]? = H[q]?) → XC cls s t)
    (hf : ∀ z ∈ locs, free z.base) (hc : cells + 1 ≤ mc) (hs : slots + 6 ≤ ms) :
    W p l e R s m args below meth c H locs cells slots (vx_MQ below Qc XC args s mc ms free) (F0 m pc ls rest) := by
  intro T hT X
  have htr : e.platform.stackTraces = false := (show e.platform.stackTraces = l.stackTraces by rw [X.admits.platform]).trans hl
  have Y := vx_rebase X (R' := { frames := R.frames, locals := R.locals, cells := 1, slots := 6 }) (Nat.le_refl _) (Nat.le_refl _) hRcells hRslots
  obtain ⟨s', hA⟩ : ∃ z, z = (T.setVm s.vm).setFrames (.invoking m args :: below) := ⟨_, rfl⟩
  rw [← hA] at Y
  have hvm : s'.vm = s.vm := by rw [hA]; rfl
  have hhp : s'.heap = H := by rw [hA]; exact hT
  have hW0 : s.WarmedH s'.vm := by rw [hvm]; exact State.WarmedH.refl s
  have hat' : ∀ w ∈ vx_atS own ic cls names, w.before args s' = true := fun w hw => vx_ot_at hW0 hvm.symm (hgood w (List.mem_cons_of_mem _ (List.mem_cons_of_mem _ hw))) (hat w hw)
  have hk' : (Cond.classLink own ik cls).before args s' = true := vx_ot_at hW0 hvm.symm (hgood _ List.mem_cons_self) hk
  have hini' : (Cond.initialized cls).before args s' = true := vx_ot_at hW0 hvm.symm (hgood _ (List.mem_cons_of_mem _ List.mem_cons_self)) hini
  have hU' : vx_Zq Bundle.tN "UNASSIGNED_STACK" Bundle.steD A s' s'.heap := by rw [hhp]; exact vx_Zq.moved hW0.alike (hU.kept hS.2.1)
  have hN' : vx_Zq Bundle.tN "SUPPRESSED_SENTINEL" Bundle.listD A s' s'.heap := by rw [hhp]; exact vx_Zq.moved hW0.alike (hN.kept hS.2.1)
  have h : ∀ w ∈ Bundle.ownAtoms own ic cls names, w.before args s' = true := vx_own hat' (vx_isRefq hU'.1) (vx_isRefq hN'.1) hU'.2.word hN'.2.word
  have hown' : s'.vm.findClass own = some m.cls := by rw [hvm]; exact hown
  have hins : (Cond.instantiable cls 6).before args s' = true := h _ (by simp [Bundle.ownAtoms])
  obtain ⟨vm₁, cX, kX, hfX, hkX, -, -, X₁, st1⟩ := Y.newCold hexec (own := own) (C := cls) (index := ik) (n := 6) hown' hk' hins hini'
    (g := F0 m pc ls rest) rfl (by rw [hb]; exact d0) (Nat.le_refl _) (Nat.le_refl _)
  generalize hT1 : (T.setVm vm₁).pushCell { cls := cX, slots := kX.instanceTypes.map defaultValue, vm := .none } = T1 at X₁ st1
  have hcat : (Value.ref T.heap.size).category = 1 := rfl
  have hcellA : T1.heap[T.heap.size]? = some (freshCell cX kX) := by rw [← hT1]; exact State.heap_pushCell_size _ _
  have d3' : decode c.code (pc + 3) = .ok (.dup, 1) := by rw [hb]; exact d3
  have d4' : decode c.code (pc + 4) = .ok (.ldc_w is, 3) := by rw [hb]; exact d4
  have hstr' : vk_R own is text sa s' := vk_R.warm hW0 hstr
  obtain ⟨U, hsteps, hrun, hend, hW, hsame, ce, hce, hO⟩ := X₁.ctorThrowS hexec htr (own := own) (cls := cls) (names := names) (ic := ic) hown' hcls hnames h (fun x hx => nomatch hx) hfX hkX hcellA (by rw [hhp, hT]; exact Nat.le_refl _) (msg := .ref sa) rfl
    (g := { method := m, pc := pc + 7, locals := ls, stack := .ref sa :: .ref T.heap.size :: .ref T.heap.size :: rest, locked := none }) rfl hsize rfl rfl (rest := rest) rfl
    (by rw [hb]; exact d7) (by rw [hb]; exact d10) hout hRframes (by simp only [List.map_cons, List.sum_cons, hcat]; omega) hlocks
  obtain ⟨f1, f2⟩ := vx_frame hsame
  rw [hhp] at f1 f2
  have hWs : s.WarmedH U.vm := State.WarmedH.trans hW0 hW
  have hcl : s.vm.findClass cls = some ce.cls := by
    have h9 := hO.cls
    rw [hvm] at h9
    exact h9
  have hall : s.sameButNew ({ U with vm := s.vm } : State) locs mc ms := by
    subst hA
    obtain ⟨e1, e2⟩ := hsame
    rw [State.setFrames_setFrames] at e1
    have h2 : (T.setVm s.vm).sameButNew ({ U with vm := s.vm } : State) [] (0 + 1) (0 + 6) := ⟨e1, e2⟩
    have h3 := X.same.trans h2
    rw [List.append_nil] at h3
    exact h3.mono hc hs
  refine ⟨U, ?_, .threw T.heap.size, hrun, hend, Or.inr ⟨T.heap.size, rfl, cls, ce, locs, hx U hWs.alike f1 (fun q hq => f2 q hq (fun z hz => nomatch hz)), hce, hO.vm, hcl, hWs, hall, hf⟩⟩
  refine st1 _ ?_
  show Steps p.tables e below (T1.setTop { method := m, pc := pc + 3, locals := ls, stack := .ref T.heap.size :: rest, locked := none }) _
  jvm_step X₁.here [X₁.here.top, hexec, d3', Value.category]
  exact X₁.ldcStringW hexec (own := own) (text := text) (index := is) (a := sa) hown' hstr'.1 hstr'.2
    (g := { method := m, pc := pc + 4, locals := ls, stack := .ref T.heap.size :: .ref T.heap.size :: rest, locked := none }) rfl d4' _ hsteps
end Ends
section Bodies
variable {l : Launch}
theorem vx_ofW {y : MethodName} {ws ws' : List Cond} {rm : Room} {Pc : Array Value → State → Prop} {Qc : Array Value → State → Outcome → State → Prop} {XC : String → State → State → Prop} {mc ms : Nat} {free : Addr → Prop} {cc : ByteArray} {maxL : Nat} {ret : Option FieldType}
    (hy : plainName y.cls = true) (hw : ws = Cond.code y cc maxL ret :: ws')
    (body : ∀ p e s m args below meth c s₁, BodyLoose p l y (headSpec ws rm) cc maxL ret e s m args below meth c s₁ → c.maxLocals = maxL → (∀ x ∈ c.exceptionTable.toList, False) → Pc args s →
      W p l e (headSpec ws rm).room s m args below meth c s.heap [] 0 0 (vx_MQ below Qc XC args s mc ms free) (entryFrame m args maxL)) : vx_Met l y ws rm Pc Qc XC mc ms free := by
  refine MetFree.of_bodyS (code := cc) (maxLocals := maxL) (ret := ret) hy ?_ ?_
  · intro args s m h hn
    obtain ⟨meth, c, h1, h2, h3, h4, h5, h6, -, -⟩ := Cond.code_spec hn (atoms_spec (ws := ws) h _ (by rw [hw]; exact List.mem_cons_self))
    exact ⟨meth, c, h1, h2, h3, h4, h5, h6⟩
  · intro p e s m args below meth c s₁ B hml hP _
    have hh0 : s₁.heap = s.heap := by rw [B.state]; rfl
    have ht : ∀ x ∈ c.exceptionTable.toList, False := by
      obtain ⟨meth9, c9, h1, h2, -, -, -, -, h7, -⟩ := Cond.code_spec B.named (atoms_spec (ws := ws) B.pre _ (by rw [hw]; exact List.mem_cons_self))
      cases Option.some.inj (h1.symm.trans B.method)
      cases Option.some.inj (h2.symm.trans (Stand.of_body B).code)
      intro x hx
      rw [Array.isEmpty_iff.mp h7] at hx
      cases hx
    obtain ⟨t, a1, o, b1, b2, b3⟩ := body p e s m args below meth c s₁ B hml ht hP s₁ hh0 (Stand.of_body B)
    exact ⟨t, o, a1, b1, b2, b3⟩
/-- the table of a body with handlers -/
theorem vx_table {p : Program} {x y : MethodName} {S : Spec} {cc bytes : ByteArray} {maxL maxL' : Nat} {ret ret' : Option FieldType} {e : Env} {s s₁ : State} {m : MethodId} {args : Array Value} {below : List Frame} {meth : Method} {c : Code} {hh : List (Nat × Nat × Nat × Nat)}
    (B : BodyLoose p l y S cc maxL ret e s m args below meth c s₁) (h : (Cond.codeWith y bytes maxL' ret' hh).before args s = true) : c.exceptionTable.toList = tableOf hh := by
  obtain ⟨m9, meth9, c9, hn9, h1, h2, -, -, h6, -⟩ := Cond.codeWith_spec h
  cases Option.some.inj (hn9.symm.trans B.named)
  cases Option.some.inj (h1.symm.trans B.method)
  cases Option.some.inj (h2.symm.trans (Stand.of_body B).code)
  rw [← h6, table_eq]
end Bodies
end VXA
/-! ===== END ===== -/
/-! ===== BEGIN a static call of a method with an exception table ===== -/
section VXS
variable {p : Program} {l : Launch} {e : Env} {R : Room} {s : State} {m : MethodId} {args : Array Value} {below : List Frame} {meth : Method} {c : Code} {T : State} {H : Heap} {locs : List Loc} {cells slots : Nat}
abbrev vx_CSW (R : Room) (s : State) (args : Array Value) (own : String) (index : Nat) (y : MethodName) (bytes : ByteArray) (maxL : Nat) (ret : Option FieldType) (hh : List (Nat × Nat × Nat × Nat)) (ws : List Cond) (rm : Room) (mc ms n : Nat) : Prop :=
  (rm.cells = mc ∧ rm.slots = ms ∧ rm.frames + 1 ≤ R.frames ∧ 8 + (maxL + 11) + rm.locals ≤ R.locals ∧ (∀ w ∈ ws, ∀ (a' : Array Value) (U : State), s.WarmedH U.vm → w.before a' U = true) ∧ Cond.codeWith y bytes maxL ret hh ∈ ws) ∧
  (Cond.codeWith y bytes maxL ret hh).before args s = true ∧ (Cond.initialized y.cls).before args s = true ∧ (y.cls ≠ "java/lang/invoke/MethodHandle" ∧ y.cls ≠ "java/lang/invoke/VarHandle") ∧
  (∀ sig, parseMethodDescriptor y.desc = some sig → n = sig.parameters.length) ∧ (Cond.methodLink own index y).before args s = true ∧ (Cond.static y).before args s = true
theorem vx_cwSW {own : String} {index maxL mc ms : Nat} {y : MethodName} {bytes : ByteArray} {ret : Option FieldType} {hh : List (Nat × Nat × Nat × Nat)} {Ts ws ws' : List Cond} {rm : Room} (n : Nat) (ht : ∀ w ∈ Ts, w.before args s = true) (hT : GoodIn Ts (va_wsS own index y ws)) (hw : ws = Cond.codeWith y bytes maxL ret hh :: ws') (hrc : rm.cells = mc) (hrs : rm.slots = ms)
    (hd : y.cls ≠ "java/lang/invoke/MethodHandle" ∧ y.cls ≠ "java/lang/invoke/VarHandle" ∧ (parseMethodDescriptor y.desc).map (fun d => d.parameters.length) = some n) (hR : rm.frames + 1 ≤ R.frames ∧ 8 + (maxL + 11) + rm.locals ≤ R.locals) :
    vx_CSW R s args own index y bytes maxL ret hh ws rm mc ms n := by
  have ok : ∀ w ∈ va_wsS own index y ws, w.before args s = true := fun w h => ht w (hT w h).1
  have hG : GoodIn Ts ws := fun w h => hT w (by unfold va_wsS; exact List.mem_append_right _ h)
  have hc : Cond.codeWith y bytes maxL ret hh ∈ ws := by rw [hw]; exact List.mem_cons_self
  refine ⟨⟨hrc, hrs, hR.1, hR.2, pay_in ht hG, hc⟩, ht _ (hG _ hc).1, ok _ (by simp [va_wsS]), ⟨hd.1, hd.2.1⟩, fun sig h => ?_, ok _ (by simp [va_wsS]), ok _ (by simp [va_wsS])⟩
  have h2 := hd.2.2
  rw [h] at h2
  exact (Option.some.inj h2).symm
theorem vx_callSW (X : Stand p l e R s m args below meth c T locs cells slots) (hexec : p.tables.exec = Jvm.exec) {own : String} {index : Nat} {y : MethodName} {bytes : ByteArray} {maxL : Nat} {ret : Option FieldType} {hh : List (Nat × Nat × Nat × Nat)}
    (hown : s.vm.findClass own = some m.cls) (hlink : (Cond.methodLink own index y).before args s = true) (hstat : (Cond.static y).before args s = true) (hinit : (Cond.initialized y.cls).before args s = true)
    (hcode : (Cond.codeWith y bytes maxL ret hh).before args s = true) (hy : y.cls ≠ "java/lang/invoke/MethodHandle" ∧ y.cls ≠ "java/lang/invoke/VarHandle")
    {W9 : Nat} {Pre : Pt → Array Value → Prop} {Post : Pt → Array Value → Option Value → Pt → Prop} (hK : Back l R p e below s args y 3 W9 Pre Post)
    {g : JFrame} (hg : g.method = m) (hsize : g.locals.size = c.maxLocals) {argsL rest : List Value} (hlen : ∀ sig, parseMethodDescriptor y.desc = some sig → argsL.length = sig.parameters.length)
    (hstack : g.stack = argsL.reverse ++ rest) (hW : 2 * g.monitorRoom + (rest.map fun v => v.category).sum ≤ W9) (hdg : decode c.code g.pc = .ok (.invokestatic index, 3))
    (hpre : ∀ vm₁, s.WarmedH vm₁ → Pre ⟨T.setVm vm₁, locs, cells, slots⟩ argsL.toArray) :
    ∃ (v : Option Value) (vm₁ : Vm) (B : Pt), s.WarmedH vm₁ ∧ Stand p l e R s m args below meth c B.U B.locs B.cells B.slots ∧ Post ⟨T.setVm vm₁, locs, cells, slots⟩ argsL.toArray v B ∧
      ∀ target, Steps p.tables e below (B.U.setTop { g with pc := g.pc + 3, stack := v.toList ++ rest }) target → Steps p.tables e below (T.setTop g) target := by
  obtain ⟨mk, methM, cM, hnamed, hmethM, -, -, -, -, -, -, hsigM⟩ := Cond.codeWith_spec hcode
  have hstatic : methM.isStatic = true := Cond.static_spec hnamed hmethM hstat
  obtain ⟨kP, hkP, -⟩ := className_of_methodNamed hnamed
  have hinitP : kP.init = .initialized := Cond.initialized_spec (findClass_of_methodNamed hnamed) hkP hinit
  obtain ⟨vm₁, X₁, hstep₁⟩ := X.invokestatic hexec hown hlink hnamed hmethM hstatic hkP hinitP hy (g := g) hg (argsL := argsL) (rest := rest) (hlen _ hsigM) hstack hdg
  obtain ⟨v, B, X', hpost, hsteps⟩ := hK m meth c ⟨T.setVm vm₁, locs, cells, slots⟩ { g with stack := rest } (.invokestatic index) mk argsL.toArray X₁ hg hsize hdg hW (X₁.named hnamed) (hpre vm₁ X₁.warmed)
  exact ⟨v, vm₁, B, X₁.warmed, X', hpost, fun target h => hstep₁ _ fun acts => by rw [doInvoke_state]; exact hsteps.trans h⟩
theorem vx_runSW {y : MethodName} {bytes cc : ByteArray} {maxL nL mc ms n index : Nat} {ret : Option FieldType} {hh : List (Nat × Nat × Nat × Nat)} {ws : List Cond} {rm : Room} {Pc : Array Value → State → Prop} {Qc : Array Value → State → Outcome → State → Prop} {free : Addr → Prop} {Ts : List Cond} {own : String} {As rest : List Value} {g : JFrame}
    (S : CallFix p m c cc nL s args Ts own) (hM : Met l y ws rm Pc Qc mc ms free) (cw : vx_CSW R s args own index y bytes maxL ret hh ws rm mc ms n) (hp : PreS s H Pc As)
    (hg : g.method = m) (hn : As.length = n) (hsize : g.locals.size = nL) (hstack : g.stack = As.reverse ++ rest) (hW : 2 * g.monitorRoom + (rest.map fun v => v.category).sum ≤ 8) (hdg : decode cc g.pc = .ok (.invokestatic index, 3)) (hf : cells + mc ≤ R.cells ∧ slots + ms ≤ R.slots) :
    va_Run p l e R s m args below meth c H locs cells slots mc ms g rest (Qc As.toArray) (free) := by
  obtain ⟨⟨hrc, hrs, hfr, hlo, hws, hcw⟩, hcode, hini, hy, hlen, hl, hstt⟩ := cw
  have hK : Back l R p e below s args y 3 8 (PreOf R mc ms Pc) (PostOf Qc mc ms free) := va_backW (hh := hh) (bytes := bytes) (maxL := maxL) (ret := ret) hM hp.1 hrc hrs hfr hlo hws hcw (fun a' U hW => word_at hW (Or.inl (by first | rfl | simp [Cond.onTables, Cond.keeps, Cond.steady])) hini)
  obtain ⟨hx, hb, hml, ho, -⟩ := S
  intro T hT X
  obtain ⟨v, vm₁, ⟨U', l2, c2, s2⟩, hW₁, X', ⟨g', mk, t, L, e1, e2, hq, h1, hL, h2, h3⟩, st⟩ := vx_callSW X hx (hh := hh) (bytes := bytes) (maxL := maxL) (ret := ret) ho hl hstt hini hcode hy hK hg (hsize.trans hml.symm) (argsL := As) (rest := rest) (fun sig h => hn.trans (hlen sig h)) hstack hW (by rw [hb]; exact hdg)
    (fun vm₁ hW₁ => ⟨hf.1, hf.2, hp.2 (T.setVm vm₁) hT hW₁⟩)
  dsimp only [Pt.U, Pt.locs, Pt.cells, Pt.slots] at X' e1 e2 h1 h2 h3 st
  subst h1; subst h2; subst h3
  exact ⟨v, (T.setVm vm₁).calling g' mk As.toArray, t, U', L, hT, X', hL, e1, e2, hq, st⟩
/-- not caught here, past rows that name other classes: it goes on to the caller -/
theorem vx_outP {p : Program} {l : Launch} {e : Env} {R : Room} {s : State} {m : MethodId} {args : Array Value} {below : List Frame} {meth : Method} {c : Code} {H : Heap} {locs : List Loc} {cells slots : Nat} {free : Addr → Prop} {ls : Array Slot} {rest : List Value} {Qc : Array Value → State → Outcome → State → Prop} {XC : String → State → State → Prop}
    {pc : Nat} {own E : String} {ce : Cell} {q : Addr} {mc ms : Nat} (hown : s.vm.findClass own = some m.cls) (hlocks : meth.locks = false)
    (hpass : ∀ z ∈ c.exceptionTable.toList, covers z pc = false ∨ (z.catchType ≠ 0 ∧ ∃ nm : String, (Cond.classLink own z.catchType nm).before args s = true ∧ va_Nc E nm s)) (hcell : H[q]? = some ce) (hv : ce.vm = .none) (hcl : s.vm.findClass E = some ce.cls)
    (hx : ∀ t : State, t.heap = H → s.vm.Alike t.vm → XC E s t) (hf : ∀ z ∈ locs, free z.base) (hc : cells ≤ mc) (hs : slots ≤ ms) :
    vx_W p l e R s m args below meth c H locs cells slots (vx_MQ below Qc XC args s mc ms free) (F0 m pc ls rest) q := by
  intro T hT X
  have hpl : e.platform.magicAccessors = ({} : Platform).magicAccessors := by rw [X.admits.platform]
  obtain ⟨vm', hW', X', st⟩ := X.outThrough hlocks q (g := F0 m pc ls rest) rfl rfl rfl (cell := ce) (by rw [hT]; exact hcell) (by rw [hv]; rfl)
    (by obtain ⟨k9, h9, -⟩ := Vm.findClass_spec hcl; exact ⟨k9, h9⟩) (fun z hz => by
      rcases hpass z hz with h | ⟨hz0, nm, hl1, hn1⟩
      · exact Or.inl h
      · obtain ⟨c6, hc6, hcl6⟩ := Cond.classLink_spec hown hl1 e.platform hpl
        obtain ⟨a8, b8, h1, h2, h3⟩ := hn1
        cases Option.some.inj (h1.symm.trans hcl)
        cases Option.some.inj (h2.symm.trans hc6)
        exact Or.inr ⟨hz0, _, hcl6, h3⟩)
  obtain ⟨g₀, hfr⟩ := X'.frames_eq
  have hcell9 : ((T.setVm vm').setFrames (.throwing q :: below)).heap[q]? = some ce := by
    show T.heap[q]? = some ce
    rw [hT]; exact hcell
  have hend : Ended ((T.setVm vm').setFrames (.throwing q :: below)) below (.threw q) := State.frames_setFrames _ (State.cur_lt_of_frames hfr)
  refine ⟨(T.setVm vm').setFrames (.throwing q :: below), ?_, .threw q, X'.here.running, hend, Or.inr ⟨q, rfl, E, ce, locs, hx _ hT (X'.ends _).1.alike, hcell9, hv, hcl, (X'.ends _).1, (X'.ends _).2.mono hc hs, hf⟩⟩
  rw [X.pushThrowing_eq]
  exact st
/-- a thing of a world lies in the heap -/
theorem vx_lt {D : va_G} {cl : List vw_C} {ws : va_W} {H1 : Heap} (h : va_P D cl ws H1) {k : Nat} {q : Nat × va_E} (hk : ws[k]? = some q) : q.1 < H1.size := (h k q hk).lt
end VXS
/-! ===== END ===== -/
/-! ===== BEGIN methods with a table of their own: called by a name, returning or throwing ===== -/
section VXH
/-! vx_backW, vx_callVX, vx_callSX, vx_callVW, vx_runVW, vx_runVX, vx_runSX, vx_ofWH follow the same proofs as their sisters above (Free/Laws.lean, Shelf42/LK1.lean); vx_outP calls Shelf42/NT130.lean (outThrough). -/
section
variable {l : Launch} {R : Room} {p : Program} {e : Env} {below : List Frame} {s : State} {sargs : Array Value} {y : MethodName} {len W9 : Nat}
theorem vx_backW {ws : List Cond} {rm : Room} {Pc : Array Value → State → Prop} {Qc : Array Value → State → Outcome → State → Prop} {XC : String → State → State → Prop} {mc ms : Nat} {free : Addr → Prop} {bytes : ByteArray} {maxL : Nat} {ret : Option FieldType} {hh : List (Nat × Nat × Nat × Nat)}
    (hM : vx_Met l y ws rm Pc Qc XC mc ms free) (hblind : FrameBlind Pc) (hrc : rm.cells = mc) (hrs : rm.slots = ms)
    (hframes : rm.frames + 1 ≤ R.frames) (hlocals : W9 + (maxL + 11) + rm.locals ≤ R.locals)
    (hws : ∀ w ∈ ws, ∀ a' U, s.WarmedH U.vm → w.before a' U = true) (hcode : Cond.codeWith y bytes maxL ret hh ∈ ws) (hinit : ∀ a' U, s.WarmedH U.vm → (Cond.initialized y.cls).before a' U = true) :
    vx_Back l R p e below s sargs y len W9 (PreOf R mc ms Pc) (PostOf Qc mc ms free) (vx_Post XC mc ms free) := by
  intro m meth c A g ig mk a X hg hsize hdg hW hn hp
  have h1 : (headSpec ws rm).pre.before a A.U = true := atoms_intro fun w hw => hws w hw _ _ X.warmed
  have h2 : (Cond.codeWith y bytes maxL ret hh).before a A.U = true := hws _ hcode _ _ X.warmed
  have h3 : (Cond.initialized y.cls).before a A.U = true := hinit _ _ X.warmed
  have h4 : A.cells + (headSpec ws rm).room.cells ≤ R.cells := by rw [show (headSpec ws rm).room.cells = mc from hrc]; exact hp.1
  have h5 : A.slots + (headSpec ws rm).room.slots ≤ R.slots := by rw [show (headSpec ws rm).room.slots = ms from hrs]; exact hp.2.1
  have hPc : Pc a (A.U.calling g mk a) := hblind _ _ _ _ hp.2.2
  obtain ⟨U, Ls, c0, s0⟩ := A
  dsimp only [Pt.U, Pt.locs, Pt.cells, Pt.slots] at h1 h2 h3 h4 h5 X hn hPc ⊢
  obtain ⟨m9, methY, cY, hn9, hmY, hcY, -, hlY, -⟩ := Cond.codeWith_spec h2
  cases Option.some.inj (hn9.symm.trans hn)
  obtain ⟨kY, hkY, -⟩ := className_of_methodNamed hn
  have hinitY : kY.init = .initialized := Cond.initialized_spec (findClass_of_methodNamed hn) hkY h3
  have h : At U g.method c below := by rw [hg]; exact X.here
  have hlocals9 : W9 + (maxL + 11) + (headSpec ws rm).room.locals ≤ R.locals := hlocals
  have happ : (headSpec ws rm).appliesLoose y e.platform (U.calling g mk a) = true :=
    Spec.appliesLoose_calling (g := g) h hdg hn hkY hinitY
      (X.room_calling (g := g) (R' := (headSpec ws rm).room) hsize hmY hcY hframes (by rw [hlY]; omega) h4 h5) h1
  obtain ⟨mid, hmid⟩ := h.above
  have hfr : (U.setTop g).frames = (.java g :: mid) ++ below := by rw [State.frames_setTop' g h.top, hmid]; rfl
  obtain ⟨o, s₂, hsteps, -, hend, hq⟩ := Steps.callFree hM p X.admits X.cas X.clock (acts := []) hfr happ hPc trivial
  have hq' : vx_Q Qc XC mc ms free a (U.calling g mk a) o s₂ := hq
  rw [State.frames_setTop' g h.top] at hend
  obtain ⟨g₀, hg0⟩ := Option.isSome_iff_exists.mp h.top
  obtain ⟨r, hr⟩ := State.topJava?_eq_some.mp hg0
  have hr' : (({ U with heap := s₂.heap, slotsUsed := s₂.slotsUsed } : State).setVm s₂.vm).frames = .java g₀ :: r := hr
  rcases hq' with ⟨hqc, L, hfe, hL⟩ | ⟨q, rfl, E, ce, L, hx, hce, hcv, hcl, hW₂, hsm, hL⟩
  · obtain ⟨⟨v, rfl⟩, hW₂, e2, q2, q3, q4, q5, q6⟩ := id hfe
    have e3 : s₂ = ({ (U.calling g mk a).setFrames s₂.frames with heap := s₂.heap, slotsUsed := s₂.slotsUsed } : State).setVm s₂.vm := by
      have : s₂ = ({ s₂ with vm := (U.calling g mk a).vm } : State).setVm s₂.vm := rfl
      rw [e2] at this
      exact this
    obtain ⟨c₂, i₂, len₂, hc₂, hd₂, hf₂⟩ := hend
    have hW' : U.WarmedH s₂.vm := hW₂
    have hcc : c₂ = c := by
      have h1 : s₂.code? g.method = U.code? g.method := by
        rw [State.code?_eq, State.code?_eq, hW'.alike.method?]
      exact Option.some.inj (hc₂.symm.trans (h1.trans h.code))
    subst hcc
    have hlen : len₂ = len := by rw [hdg] at hd₂; cases hd₂; rfl
    subst hlen
    have hs₂ : s₂ = (({ U with heap := s₂.heap, slotsUsed := s₂.slotsUsed } : State).setVm s₂.vm).setTop { g with pc := g.pc + len₂, stack := v.toList ++ g.stack } := by
      refine e3.trans ?_
      rw [hf₂, State.calling_eq h.top, State.setFrames_setFrames, State.setTop_of_frames _ hr', hr]
      rfl
    have hsame : U.sameButNew ({ U with heap := s₂.heap, slotsUsed := s₂.slotsUsed } : State) L mc ms := by
      refine ⟨?_, q2, q3, q4, q5, q6⟩
      obtain ⟨t, ht, -⟩ := State.frames_cons hr
      show ({ U with heap := s₂.heap, slotsUsed := s₂.slotsUsed } : State) = { U.setFrames U.frames with heap := s₂.heap, slotsUsed := s₂.slotsUsed }
      rw [State.setFrames_self ht]
    subst hg
    refine Or.inl ⟨v, ⟨(({ U with heap := s₂.heap, slotsUsed := s₂.slotsUsed } : State).setVm s₂.vm), Ls ++ L, c0 + mc, s0 + ms⟩,
      ⟨X.admits, X.cas, X.clock, X.frames, X.room, X.hears, X.method, X.code, (X.here.setHeapUsed s₂.heap s₂.slotsUsed).setVm hW'.alike, X.tail, State.WarmedH.trans X.warmed hW', X.limits, X.bytes, X.same.trans (hsame.setVm s.vm)⟩,
      ⟨g, mk, s₂, L, rfl, rfl, hqc, rfl, hL, rfl, rfl⟩, ?_⟩
    show Steps p.tables e below _ ((({ U with heap := s₂.heap, slotsUsed := s₂.slotsUsed } : State).setVm s₂.vm).setTop { g with pc := g.pc + len₂, stack := v.toList ++ g.stack })
    rw [← hs₂]
    exact hsteps
  · obtain ⟨e2, q2, q3, q4, q5, q6⟩ := id hsm
    have e3 : s₂ = ({ (U.calling g mk a).setFrames s₂.frames with heap := s₂.heap, slotsUsed := s₂.slotsUsed } : State).setVm s₂.vm := by
      have : s₂ = ({ s₂ with vm := (U.calling g mk a).vm } : State).setVm s₂.vm := rfl
      rw [e2] at this
      exact this
    have hf₂ : s₂.frames = .throwing q :: .java g :: U.frames.tail := hend
    have hW' : U.WarmedH s₂.vm := hW₂
    have hs₂ : s₂ = ((({ U with heap := s₂.heap, slotsUsed := s₂.slotsUsed } : State).setVm s₂.vm).setTop g).pushFrame (.throwing q) := by
      refine e3.trans ?_
      rw [hf₂, State.calling_eq h.top, State.setFrames_setFrames, State.pushFrame, State.frames_setTop _ hr', State.setTop_of_frames _ hr', State.setFrames_setFrames, hr]
      rfl
    have hsame : U.sameButNew ({ U with heap := s₂.heap, slotsUsed := s₂.slotsUsed } : State) L mc ms := by
      refine ⟨?_, q2, q3, q4, q5, q6⟩
      obtain ⟨t, ht, -⟩ := State.frames_cons hr
      show ({ U with heap := s₂.heap, slotsUsed := s₂.slotsUsed } : State) = { U.setFrames U.frames with heap := s₂.heap, slotsUsed := s₂.slotsUsed }
      rw [State.setFrames_self ht]
    subst hg
    refine Or.inr ⟨q, ⟨(({ U with heap := s₂.heap, slotsUsed := s₂.slotsUsed } : State).setVm s₂.vm), Ls ++ L, c0 + mc, s0 + ms⟩,
      ⟨X.admits, X.cas, X.clock, X.frames, X.room, X.hears, X.method, X.code, (X.here.setHeapUsed s₂.heap s₂.slotsUsed).setVm hW'.alike, X.tail, State.WarmedH.trans X.warmed hW', X.limits, X.bytes, X.same.trans (hsame.setVm s.vm)⟩,
      ⟨g, mk, s₂, L, E, ce, rfl, rfl, hx, hce, hcv, hcl, rfl, hL, rfl, rfl⟩, ?_⟩
    show Steps p.tables e below _ (((({ U with heap := s₂.heap, slotsUsed := s₂.slotsUsed } : State).setVm s₂.vm).setTop g).pushFrame (.throwing q))
    rw [← hs₂]
    exact hsteps
end
variable {p : Program} {l : Launch} {e : Env} {R : Room} {s : State} {m : MethodId} {args : Array Value} {below : List Frame} {meth : Method} {c : Code} {T : State} {H : Heap} {locs : List Loc} {cells slots : Nat}
theorem vx_callVX (X : Stand p l e R s m args below meth c T locs cells slots) (hexec : p.tables.exec = Jvm.exec) {own C : String} {index : Nat} {y : MethodName} {bytes : ByteArray} {maxL : Nat} {ret : Option FieldType} {hh : List (Nat × Nat × Nat × Nat)}
    (hown : s.vm.findClass own = some m.cls) (hlink : (Cond.methodLink own index y).before args s = true) (hinst : (Cond.instanceMethod y).before args s = true) (hsel : (Cond.selects C y y).before args s = true)
    (hcode : (Cond.codeWith y bytes maxL ret hh).before args s = true) (hy : y.cls ≠ "java/lang/invoke/MethodHandle" ∧ y.cls ≠ "java/lang/invoke/VarHandle")
    {W9 : Nat} {Pre : Pt → Array Value → Prop} {Post : Pt → Array Value → Option Value → Pt → Prop} {PostX : Pt → Array Value → Addr → Pt → Prop} (hK : vx_Back l R p e below s args y 3 W9 Pre Post PostX)
    {b : Addr} {cellB : Cell} (hcell : T.heap[b]? = some cellB) (hobj : cellB.vm.isStatics = false) (hcls : s.vm.findClass C = some cellB.cls)
    {g : JFrame} (hg : g.method = m) (hsize : g.locals.size = c.maxLocals) {argsL rest : List Value} (hlen : ∀ sig, parseMethodDescriptor y.desc = some sig → argsL.length = sig.parameters.length)
    (hstack : g.stack = argsL.reverse ++ .ref b :: rest) (hW : 2 * g.monitorRoom + (rest.map fun v => v.category).sum ≤ W9) (hdg : decode c.code g.pc = .ok (.invokevirtual index, 3))
    (hpre : ∀ vm₁, s.WarmedH vm₁ → Pre ⟨T.setVm vm₁, locs, cells, slots⟩ (Value.ref b :: argsL).toArray) :
    (∃ (v : Option Value) (vm₁ : Vm) (B : Pt), s.WarmedH vm₁ ∧ Stand p l e R s m args below meth c B.U B.locs B.cells B.slots ∧ Post ⟨T.setVm vm₁, locs, cells, slots⟩ (Value.ref b :: argsL).toArray v B ∧
      ∀ target, Steps p.tables e below (B.U.setTop { g with pc := g.pc + 3, stack := v.toList ++ rest }) target → Steps p.tables e below (T.setTop g) target) ∨
    (∃ (q : Addr) (vm₁ : Vm) (B : Pt), s.WarmedH vm₁ ∧ Stand p l e R s m args below meth c B.U B.locs B.cells B.slots ∧ PostX ⟨T.setVm vm₁, locs, cells, slots⟩ (Value.ref b :: argsL).toArray q B ∧
      Steps p.tables e below (T.setTop g) ((B.U.setTop { g with stack := rest }).pushFrame (.throwing q))) := by
  obtain ⟨mk, methM, hnamed, hmethM, hstM, habM⟩ := Cond.instanceMethod_spec hinst
  obtain ⟨m8, methM', cM, hn8, hmethM', -, -, -, -, -, -, hsigM⟩ := Cond.codeWith_spec hcode
  cases Option.some.inj (hn8.symm.trans hnamed)
  cases hmethM.symm.trans hmethM'
  obtain ⟨c2, r2, m2, q1, q2, q3, q4, kP, hkP, hkPi⟩ := Cond.selects_spec hsel
  cases hcls.symm.trans q1
  cases (State.methodFound?_of_named hnamed hy).symm.trans q2
  cases hnamed.symm.trans q3
  have hselP : selectMethod e.platform s.vm cellB.cls mk = .method mk := by rw [Launch.admits_selectMethod X.admits]; exact q4
  obtain ⟨vm₁, X₁, hstep₁⟩ := X.invokevirtual hexec hown hlink hnamed hmethM hstM hkP hkPi hy (a := b) (cell := cellB) hcell
    (fun z h => by rw [h] at hobj; cases hobj) hselP hmethM habM hkP hkPi (g := g) hg (argsL := argsL) (rest := rest) (hlen _ hsigM) hstack hdg
  rcases hK m meth c ⟨T.setVm vm₁, locs, cells, slots⟩ { g with stack := rest } (.invokevirtual index) mk (Value.ref b :: argsL).toArray X₁ hg hsize hdg hW (X₁.named hnamed) (hpre vm₁ X₁.warmed) with ⟨v, B, X', hpost, hsteps⟩ | ⟨q, B, X', hpost, hsteps⟩
  · exact Or.inl ⟨v, vm₁, B, X₁.warmed, X', hpost, fun target h => hstep₁ _ fun acts => by rw [doInvoke_state]; exact hsteps.trans h⟩
  · exact Or.inr ⟨q, vm₁, B, X₁.warmed, X', hpost, hstep₁ _ fun acts => by rw [doInvoke_state]; exact hsteps⟩
theorem vx_callSX (X : Stand p l e R s m args below meth c T locs cells slots) (hexec : p.tables.exec = Jvm.exec) {own : String} {index : Nat} {y : MethodName} {bytes : ByteArray} {maxL : Nat} {ret : Option FieldType} {hh : List (Nat × Nat × Nat × Nat)}
    (hown : s.vm.findClass own = some m.cls) (hlink : (Cond.methodLink own index y).before args s = true) (hstat : (Cond.static y).before args s = true) (hinit : (Cond.initialized y.cls).before args s = true)
    (hcode : (Cond.codeWith y bytes maxL ret hh).before args s = true) (hy : y.cls ≠ "java/lang/invoke/MethodHandle" ∧ y.cls ≠ "java/lang/invoke/VarHandle")
    {W9 : Nat} {Pre : Pt → Array Value → Prop} {Post : Pt → Array Value → Option Value → Pt → Prop} {PostX : Pt → Array Value → Addr → Pt → Prop} (hK : vx_Back l R p e below s args y 3 W9 Pre Post PostX)
    {g : JFrame} (hg : g.method = m) (hsize : g.locals.size = c.maxLocals) {argsL rest : List Value} (hlen : ∀ sig, parseMethodDescriptor y.desc = some sig → argsL.length = sig.parameters.length)
    (hstack : g.stack = argsL.reverse ++ rest) (hW : 2 * g.monitorRoom + (rest.map fun v => v.category).sum ≤ W9) (hdg : decode c.code g.pc = .ok (.invokestatic index, 3))
    (hpre : ∀ vm₁, s.WarmedH vm₁ → Pre ⟨T.setVm vm₁, locs, cells, slots⟩ argsL.toArray) :
    (∃ (v : Option Value) (vm₁ : Vm) (B : Pt), s.WarmedH vm₁ ∧ Stand p l e R s m args below meth c B.U B.locs B.cells B.slots ∧ Post ⟨T.setVm vm₁, locs, cells, slots⟩ argsL.toArray v B ∧
      ∀ target, Steps p.tables e below (B.U.setTop { g with pc := g.pc + 3, stack := v.toList ++ rest }) target → Steps p.tables e below (T.setTop g) target) ∨
    (∃ (q : Addr) (vm₁ : Vm) (B : Pt), s.WarmedH vm₁ ∧ Stand p l e R s m args below meth c B.U B.locs B.cells B.slots ∧ PostX ⟨T.setVm vm₁, locs, cells, slots⟩ argsL.toArray q B ∧
      Steps p.tables e below (T.setTop g) ((B.U.setTop { g with stack := rest }).pushFrame (.throwing q))) := by
  obtain ⟨mk, methM, cM, hnamed, hmethM, -, -, -, -, -, -, hsigM⟩ := Cond.codeWith_spec hcode
  have hstatic : methM.isStatic = true := Cond.static_spec hnamed hmethM hstat
  obtain ⟨kP, hkP, -⟩ := className_of_methodNamed hnamed
  have hinitP : kP.init = .initialized := Cond.initialized_spec (findClass_of_methodNamed hnamed) hkP hinit
  obtain ⟨vm₁, X₁, hstep₁⟩ := X.invokestatic hexec hown hlink hnamed hmethM hstatic hkP hinitP hy (g := g) hg (argsL := argsL) (rest := rest) (hlen _ hsigM) hstack hdg
  rcases hK m meth c ⟨T.setVm vm₁, locs, cells, slots⟩ { g with stack := rest } (.invokestatic index) mk argsL.toArray X₁ hg hsize hdg hW (X₁.named hnamed) (hpre vm₁ X₁.warmed) with ⟨v, B, X', hpost, hsteps⟩ | ⟨q, B, X', hpost, hsteps⟩
  · exact Or.inl ⟨v, vm₁, B, X₁.warmed, X', hpost, fun target h => hstep₁ _ fun acts => by rw [doInvoke_state]; exact hsteps.trans h⟩
  · exact Or.inr ⟨q, vm₁, B, X₁.warmed, X', hpost, hstep₁ _ fun acts => by rw [doInvoke_state]; exact hsteps⟩
theorem vx_callVW (X : Stand p l e R s m args below meth c T locs cells slots) (hexec : p.tables.exec = Jvm.exec) {own C : String} {index : Nat} {y : MethodName} {bytes : ByteArray} {maxL : Nat} {ret : Option FieldType} {hh : List (Nat × Nat × Nat × Nat)}
    (hown : s.vm.findClass own = some m.cls) (hlink : (Cond.methodLink own index y).before args s = true) (hinst : (Cond.instanceMethod y).before args s = true) (hsel : (Cond.selects C y y).before args s = true)
    (hcode : (Cond.codeWith y bytes maxL ret hh).before args s = true) (hy : y.cls ≠ "java/lang/invoke/MethodHandle" ∧ y.cls ≠ "java/lang/invoke/VarHandle")
    {W9 : Nat} {Pre : Pt → Array Value → Prop} {Post : Pt → Array Value → Option Value → Pt → Prop} (hK : Back l R p e below s args y 3 W9 Pre Post)
    {b : Addr} {cellB : Cell} (hcell : T.heap[b]? = some cellB) (hobj : cellB.vm.isStatics = false) (hcls : s.vm.findClass C = some cellB.cls)
    {g : JFrame} (hg : g.method = m) (hsize : g.locals.size = c.maxLocals) {argsL rest : List Value} (hlen : ∀ sig, parseMethodDescriptor y.desc = some sig → argsL.length = sig.parameters.length)
    (hstack : g.stack = argsL.reverse ++ .ref b :: rest) (hW : 2 * g.monitorRoom + (rest.map fun v => v.category).sum ≤ W9) (hdg : decode c.code g.pc = .ok (.invokevirtual index, 3))
    (hpre : ∀ vm₁, s.WarmedH vm₁ → Pre ⟨T.setVm vm₁, locs, cells, slots⟩ (Value.ref b :: argsL).toArray) :
    ∃ (v : Option Value) (vm₁ : Vm) (B : Pt), s.WarmedH vm₁ ∧ Stand p l e R s m args below meth c B.U B.locs B.cells B.slots ∧ Post ⟨T.setVm vm₁, locs, cells, slots⟩ (Value.ref b :: argsL).toArray v B ∧
      ∀ target, Steps p.tables e below (B.U.setTop { g with pc := g.pc + 3, stack := v.toList ++ rest }) target → Steps p.tables e below (T.setTop g) target := by
  obtain ⟨mk, methM, hnamed, hmethM, hstM, habM⟩ := Cond.instanceMethod_spec hinst
  obtain ⟨m8, methM', cM, hn8, hmethM', -, -, -, -, -, -, hsigM⟩ := Cond.codeWith_spec hcode
  cases Option.some.inj (hn8.symm.trans hnamed)
  cases hmethM.symm.trans hmethM'
  obtain ⟨c2, r2, m2, q1, q2, q3, q4, kP, hkP, hkPi⟩ := Cond.selects_spec hsel
  cases hcls.symm.trans q1
  cases (State.methodFound?_of_named hnamed hy).symm.trans q2
  cases hnamed.symm.trans q3
  have hselP : selectMethod e.platform s.vm cellB.cls mk = .method mk := by rw [Launch.admits_selectMethod X.admits]; exact q4
  obtain ⟨vm₁, X₁, hstep₁⟩ := X.invokevirtual hexec hown hlink hnamed hmethM hstM hkP hkPi hy (a := b) (cell := cellB) hcell
    (fun z h => by rw [h] at hobj; cases hobj) hselP hmethM habM hkP hkPi (g := g) hg (argsL := argsL) (rest := rest) (hlen _ hsigM) hstack hdg
  obtain ⟨v, B, X', hpost, hsteps⟩ := hK m meth c ⟨T.setVm vm₁, locs, cells, slots⟩ { g with stack := rest } (.invokevirtual index) mk (Value.ref b :: argsL).toArray X₁ hg hsize hdg hW (X₁.named hnamed) (hpre vm₁ X₁.warmed)
  exact ⟨v, vm₁, B, X₁.warmed, X', hpost, fun target h => hstep₁ _ fun acts => by rw [doInvoke_state]; exact hsteps.trans h⟩
abbrev vx_CVW (R : Room) (s : State) (args : Array Value) (own C : String) (index : Nat) (y : MethodName) (bytes : ByteArray) (maxL : Nat) (ret : Option FieldType) (hh : List (Nat × Nat × Nat × Nat)) (ws : List Cond) (rm : Room) (mc ms n : Nat) : Prop :=
  (rm.cells = mc ∧ rm.slots = ms ∧ rm.frames + 1 ≤ R.frames ∧ 8 + (maxL + 11) + rm.locals ≤ R.locals ∧ (∀ w ∈ ws, ∀ (a' : Array Value) (U : State), s.WarmedH U.vm → w.before a' U = true) ∧ Cond.codeWith y bytes maxL ret hh ∈ ws) ∧
  (Cond.codeWith y bytes maxL ret hh).before args s = true ∧ (Cond.initialized y.cls).before args s = true ∧ (y.cls ≠ "java/lang/invoke/MethodHandle" ∧ y.cls ≠ "java/lang/invoke/VarHandle") ∧
  (∀ sig, parseMethodDescriptor y.desc = some sig → n = sig.parameters.length) ∧ (Cond.methodLink own index y).before args s = true ∧ (Cond.instanceMethod y).before args s = true ∧ (Cond.selects C y y).before args s = true
theorem vx_cwVW {own C : String} {index maxL mc ms : Nat} {y : MethodName} {bytes : ByteArray} {ret : Option FieldType} {hh : List (Nat × Nat × Nat × Nat)} {Ts ws ws' : List Cond} {rm : Room} (n : Nat) (ht : ∀ w ∈ Ts, w.before args s = true) (hT : GoodIn Ts (wsV own index C y ws)) (hw : ws = Cond.codeWith y bytes maxL ret hh :: ws') (hrc : rm.cells = mc) (hrs : rm.slots = ms)
    (hd : y.cls = C ∧ y.cls ≠ "java/lang/invoke/MethodHandle" ∧ y.cls ≠ "java/lang/invoke/VarHandle" ∧ (parseMethodDescriptor y.desc).map (fun d => d.parameters.length) = some n) (hR : rm.frames + 1 ≤ R.frames ∧ 8 + (maxL + 11) + rm.locals ≤ R.locals) :
    vx_CVW R s args own C index y bytes maxL ret hh ws rm mc ms n := by
  obtain ⟨hC, hd⟩ := hd
  subst hC
  have ok : ∀ w ∈ wsV own index y.cls y ws, w.before args s = true := fun w h => ht w (hT w h).1
  have hG : GoodIn Ts ws := fun w h => hT w (by unfold wsV; exact List.mem_append_right _ h)
  have hc : Cond.codeWith y bytes maxL ret hh ∈ ws := by rw [hw]; exact List.mem_cons_self
  refine ⟨⟨hrc, hrs, hR.1, hR.2, pay_in ht hG, hc⟩, ht _ (hG _ hc).1, ok _ (by simp [wsV]), ⟨hd.1, hd.2.1⟩, fun sig h => ?_, ok _ (by simp [wsV]), ok _ (by simp [wsV]), ok _ (by simp [wsV])⟩
  have h2 := hd.2.2
  rw [h] at h2
  exact (Option.some.inj h2).symm
theorem vx_runVW {y : MethodName} {bytes cc : ByteArray} {maxL nL mc ms n index : Nat} {ret : Option FieldType} {hh : List (Nat × Nat × Nat × Nat)} {ws : List Cond} {rm : Room} {Pc : Array Value → State → Prop} {Qc : Array Value → State → Outcome → State → Prop} {free : Addr → Prop} {Ts : List Cond} {own C : String} {b : Addr} {As rest : List Value} {g : JFrame}
    (S : CallFix p m c cc nL s args Ts own) (hM : Met l y ws rm Pc Qc mc ms free) (cw : vx_CVW R s args own C index y bytes maxL ret hh ws rm mc ms n) (hp : PreV s H C b Pc As)
    (hg : g.method = m) (hn : As.length = n) (hsize : g.locals.size = nL) (hstack : g.stack = As.reverse ++ .ref b :: rest) (hW : 2 * g.monitorRoom + (rest.map fun v => v.category).sum ≤ 8) (hdg : decode cc g.pc = .ok (.invokevirtual index, 3)) (hf : cells + mc ≤ R.cells ∧ slots + ms ≤ R.slots) :
    va_Run p l e R s m args below meth c H locs cells slots mc ms g rest (Qc (Value.ref b :: As).toArray) free := by
  obtain ⟨⟨hrc, hrs, hfr, hlo, hws, hcw⟩, hcode, hini, hy, hlen, hl, hin, hse⟩ := cw
  have hK : Back l R p e below s args y 3 8 (PreOf R mc ms Pc) (PostOf Qc mc ms free) := va_backW (hh := hh) (bytes := bytes) (maxL := maxL) (ret := ret) hM hp.1 hrc hrs hfr hlo hws hcw (fun a' U hW => word_at hW (Or.inl (by first | rfl | simp [Cond.onTables, Cond.keeps, Cond.steady])) hini)
  obtain ⟨hx, hb, hml, ho, -⟩ := S
  obtain ⟨-, ⟨cellB, hcB, hoB, hclB⟩, hPc⟩ := hp
  intro T hT X
  obtain ⟨v, vm₁, ⟨U', l2, c2, s2⟩, hW₁, X', ⟨g', mk, t, L, e1, e2, hq, h1, hL, h2, h3⟩, st⟩ := vx_callVW X hx (C := C) (hh := hh) (bytes := bytes) (maxL := maxL) (ret := ret) ho hl hin hse hcode hy hK (by rw [hT]; exact hcB) hoB hclB hg (hsize.trans hml.symm) (argsL := As) (rest := rest) (fun sig h => hn.trans (hlen sig h)) hstack hW (by rw [hb]; exact hdg)
    (fun vm₁ hW₁ => ⟨hf.1, hf.2, hPc (T.setVm vm₁) hT hW₁⟩)
  dsimp only [Pt.U, Pt.locs, Pt.cells, Pt.slots] at X' e1 e2 h1 h2 h3 st
  subst h1; subst h2; subst h3
  exact ⟨v, (T.setVm vm₁).calling g' mk (Value.ref b :: As).toArray, t, U', L, hT, X', hL, e1, e2, hq, st⟩
section
variable {y : MethodName} {bytes cc : ByteArray} {maxL nL mc ms n index : Nat} {ret : Option FieldType} {ws : List Cond} {rm : Room} {Pc : Array Value → State → Prop} {Qc : Array Value → State → Outcome → State → Prop} {XC : String → State → State → Prop} {free : Addr → Prop} {Ts : List Cond} {own C : String} {b : Addr} {As rest : List Value} {g : JFrame}
theorem vx_runVX {hh : List (Nat × Nat × Nat × Nat)} (S : CallFix p m c cc nL s args Ts own) (hM : vx_Met l y ws rm Pc Qc XC mc ms free) (cw : vx_CVW R s args own C index y bytes maxL ret hh ws rm mc ms n) (hp : PreV s H C b Pc As)
    (hg : g.method = m) (hn : As.length = n) (hsize : g.locals.size = nL) (hstack : g.stack = As.reverse ++ .ref b :: rest) (hW : 2 * g.monitorRoom + (rest.map fun v => v.category).sum ≤ 8) (hdg : decode cc g.pc = .ok (.invokevirtual index, 3)) (hf : cells + mc ≤ R.cells ∧ slots + ms ≤ R.slots) :
    vx_Run p l e R s m args below meth c H locs cells slots mc ms g rest (Qc (Value.ref b :: As).toArray) XC free := by
  obtain ⟨⟨hrc, hrs, hfr, hlo, hws, hcw⟩, hcode, hini, hy, hlen, hl, hin, hse⟩ := cw
  have hK : vx_Back l R p e below s args y 3 8 (PreOf R mc ms Pc) (PostOf Qc mc ms free) (vx_Post XC mc ms free) := vx_backW (hh := hh) (bytes := bytes) (maxL := maxL) (ret := ret) hM hp.1 hrc hrs hfr hlo hws hcw (fun a' U hW => word_at hW (Or.inl (by first | rfl | simp [Cond.onTables, Cond.keeps, Cond.steady])) hini)
  obtain ⟨hx, hb, hml, ho, -⟩ := S
  obtain ⟨-, ⟨cellB, hcB, hoB, hclB⟩, hPc⟩ := hp
  intro T hT X
  rcases vx_callVX X hx (C := C) (hh := hh) (bytes := bytes) (maxL := maxL) (ret := ret) ho hl hin hse hcode hy hK (by rw [hT]; exact hcB) hoB hclB hg (hsize.trans hml.symm) (argsL := As) (rest := rest) (fun sig h => hn.trans (hlen sig h)) hstack hW (by rw [hb]; exact hdg)
    (fun vm₁ hW₁ => ⟨hf.1, hf.2, hPc (T.setVm vm₁) hT hW₁⟩) with ⟨v, vm₁, ⟨U', l2, c2, s2⟩, hW₁, X', ⟨g', mk, t, L, e1, e2, hq, h1, hL, h2, h3⟩, st⟩ | ⟨q, vm₁, ⟨U', l2, c2, s2⟩, hW₁, X', ⟨g', mk, t, L, E, ce, e1, e2, hq, hce, hcv, hcl, h1, hL, h2, h3⟩, st⟩
  · dsimp only [Pt.U, Pt.locs, Pt.cells, Pt.slots] at X' e1 e2 h1 h2 h3 st
    subst h1; subst h2; subst h3
    exact Or.inl ⟨v, (T.setVm vm₁).calling g' mk (Value.ref b :: As).toArray, t, U', L, hT, X', hL, e1, e2, hq, st⟩
  · dsimp only [Pt.U, Pt.locs, Pt.cells, Pt.slots] at X' e1 e2 h1 h2 h3 st hcl
    subst h1; subst h2; subst h3
    exact Or.inr ⟨q, (T.setVm vm₁).calling g' mk (Value.ref b :: As).toArray, t, U', L, E, ce, hT, X', hL, e1, e2, hq, hce, hcv, vx_cls hW₁ hcl, st⟩
theorem vx_runSX {hh : List (Nat × Nat × Nat × Nat)} (S : CallFix p m c cc nL s args Ts own) (hM : vx_Met l y ws rm Pc Qc XC mc ms free) (cw : vx_CSW R s args own index y bytes maxL ret hh ws rm mc ms n) (hp : PreS s H Pc As)
    (hg : g.method = m) (hn : As.length = n) (hsize : g.locals.size = nL) (hstack : g.stack = As.reverse ++ rest) (hW : 2 * g.monitorRoom + (rest.map fun v => v.category).sum ≤ 8) (hdg : decode cc g.pc = .ok (.invokestatic index, 3)) (hf : cells + mc ≤ R.cells ∧ slots + ms ≤ R.slots) :
    vx_Run p l e R s m args below meth c H locs cells slots mc ms g rest (Qc As.toArray) XC free := by
  obtain ⟨⟨hrc, hrs, hfr, hlo, hws, hcw⟩, hcode, hini, hy, hlen, hl, hstt⟩ := cw
  have hK : vx_Back l R p e below s args y 3 8 (PreOf R mc ms Pc) (PostOf Qc mc ms free) (vx_Post XC mc ms free) := vx_backW (hh := hh) (bytes := bytes) (maxL := maxL) (ret := ret) hM hp.1 hrc hrs hfr hlo hws hcw (fun a' U hW => word_at hW (Or.inl (by first | rfl | simp [Cond.onTables, Cond.keeps, Cond.steady])) hini)
  obtain ⟨hx, hb, hml, ho, -⟩ := S
  intro T hT X
  rcases vx_callSX X hx (hh := hh) (bytes := bytes) (maxL := maxL) (ret := ret) ho hl hstt hini hcode hy hK hg (hsize.trans hml.symm) (argsL := As) (rest := rest) (fun sig h => hn.trans (hlen sig h)) hstack hW (by rw [hb]; exact hdg)
    (fun vm₁ hW₁ => ⟨hf.1, hf.2, hp.2 (T.setVm vm₁) hT hW₁⟩) with ⟨v, vm₁, ⟨U', l2, c2, s2⟩, hW₁, X', ⟨g', mk, t, L, e1, e2, hq, h1, hL, h2, h3⟩, st⟩ | ⟨q, vm₁, ⟨U', l2, c2, s2⟩, hW₁, X', ⟨g', mk, t, L, E, ce, e1, e2, hq, hce, hcv, hcl, h1, hL, h2, h3⟩, st⟩
  · dsimp only [Pt.U, Pt.locs, Pt.cells, Pt.slots] at X' e1 e2 h1 h2 h3 st
    subst h1; subst h2; subst h3
    exact Or.inl ⟨v, (T.setVm vm₁).calling g' mk As.toArray, t, U', L, hT, X', hL, e1, e2, hq, st⟩
  · dsimp only [Pt.U, Pt.locs, Pt.cells, Pt.slots] at X' e1 e2 h1 h2 h3 st hcl
    subst h1; subst h2; subst h3
    exact Or.inr ⟨q, (T.setVm vm₁).calling g' mk As.toArray, t, U', L, E, ce, hT, X', hL, e1, e2, hq, hce, hcv, vx_cls hW₁ hcl, st⟩
end
end VXH
theorem vx_ofWH {l : Launch} {y : MethodName} {ws ws' : List Cond} {rm : Room} {Pc : Array Value → State → Prop} {Qc : Array Value → State → Outcome → State → Prop} {XC : String → State → State → Prop} {mc ms : Nat} {free : Addr → Prop} {cc : ByteArray} {maxL : Nat} {ret : Option FieldType} {hh : List (Nat × Nat × Nat × Nat)}
    (hy : plainName y.cls = true) (hw : ws = Cond.codeWith y cc maxL ret hh :: ws')
    (body : ∀ p e s m args below meth c s₁, BodyLoose p l y (headSpec ws rm) cc maxL ret e s m args below meth c s₁ → c.maxLocals = maxL → Pc args s →
      W p l e (headSpec ws rm).room s m args below meth c s.heap [] 0 0 (vx_MQ below Qc XC args s mc ms free) (entryFrame m args maxL)) : vx_Met l y ws rm Pc Qc XC mc ms free := by
  refine MetFree.of_bodyS (code := cc) (maxLocals := maxL) (ret := ret) hy ?_ ?_
  · intro args s m h hn
    obtain ⟨m9, meth, c, hn9, h1, h2, h3, h4, -, h5, h6, -⟩ := Cond.codeWith_spec (atoms_spec (ws := ws) h _ (by rw [hw]; exact List.mem_cons_self))
    cases hn.symm.trans hn9
    exact ⟨meth, c, h1, h2, h3, h4, h5, h6⟩
  · intro p e s m args below meth c s₁ B hml hP _
    have hh0 : s₁.heap = s.heap := by rw [B.state]; rfl
    obtain ⟨t, a1, o, b1, b2, b3⟩ := body p e s m args below meth c s₁ B hml hP s₁ hh0 (Stand.of_body B)
    exact ⟨t, o, a1, b1, b2, b3⟩
/-! ===== END ===== -/
end
section
def zB : List Cond := lw_tbl.filter goodWord
theorem zkm2 {w : Cond} (h : w ∈ tables_1) (hg : goodWord w = true) : w ∈ zB := List.mem_filter.mpr ⟨List.mem_append_right _ h, hg⟩
theorem zkm {w : Cond} (i : Nat) (h : tables_1[i]? = some w) (hg : goodWord w = true) : w ∈ zB := zkm2 (List.mem_of_getElem? h) hg
theorem zks {w : Cond} (i : Nat) (h : (k2_sels lw_privs)[i]? = some w) (hg : goodWord w = true) : w ∈ zB := List.mem_filter.mpr ⟨List.mem_append_left _ (List.mem_of_getElem? h), hg⟩
theorem zB_good {w : Cond} (h : w ∈ zB) : (w.onTables && w.keeps) = true ∨ ∃ ty, w = .arrayClass ty := good_of_word (List.mem_filter.mp h).2
theorem zB_tbl {w : Cond} (h : w ∈ zB) : w ∈ lw_tbl := (List.mem_filter.mp h).1
abbrev RZ : String := "ZoneHeap"
def TZ : u_T := fun k => match k with
  | 0 => ("ZoneHeap", "octets", "[B", true)
  | 1 => ("ZoneHeap", "takers", "[LZoneHeap$Block;", true)
  | 2 => ("ZoneHeap", "keptBlocks", "Ljava/util/ArrayList;", true)
  | 3 => ("ZoneHeap", "keptOctets", "I", false)
  | 4 => ("ZoneHeap", "liveBlocks", "I", false)
  | 5 => ("ZoneHeap", "liveOctets", "I", false)
  | 6 => ("ZoneHeap", "madeBlocks", "I", false)
  | 7 => ("ZoneHeap", "reachedBlocks", "[LZoneHeap$Block;", true)
  | 8 => ("ZoneHeap", "reachedCount", "I", false)
  | 9 => ("ZoneHeap", "lostStarts", "[I", true)
  | _ => ("ZoneHeap", "lostCount", "I", false)
def tyZ : Nat → FieldType := fun k => match k with
  | 0 => .array .byte
  | 1 => .array (.object "ZoneHeap$Block")
  | 2 => .object "java/util/ArrayList"
  | 3 => .int
  | 4 => .int
  | 5 => .int
  | 6 => .int
  | 7 => .array (.object "ZoneHeap$Block")
  | 8 => .int
  | 9 => .array .int
  | _ => .int
theorem nmZ : ∀ a, a < 11 → ∀ b, b < 11 → a ≠ b → (TZ a).2.1 ≠ (TZ b).2.1 := by decide +kernel
theorem okZ : ∀ k, k < 11 → parseFieldDescriptor (TZ k).2.2.1 = some (tyZ k) := by decide +kernel
theorem inZ : ∀ w ∈ u_ws RZ TZ 11, w ∈ zB := by
  have h : ∀ w ∈ u_ws RZ TZ 11, w ∈ tables_1 ∧ goodWord w = true := by decide +kernel
  exact fun w hw => zkm2 (h w hw).1 (h w hw).2
abbrev RB : String := "ZoneHeap$Block"
def TB : u_T := fun k => match k with
  | 0 => ("ZoneHeap$Block", "start", "I", true)
  | 1 => ("ZoneHeap$Block", "size", "I", true)
  | 2 => ("ZoneHeap$Block", "kept", "Z", false)
  | _ => ("ZoneHeap$Block", "reached", "Z", false)
def tyB : Nat → FieldType := fun k => match k with
  | 0 => .int
  | 1 => .int
  | 2 => .boolean
  | _ => .boolean
theorem nmB : ∀ a, a < 4 → ∀ b, b < 4 → a ≠ b → (TB a).2.1 ≠ (TB b).2.1 := by decide +kernel
theorem okB : ∀ k, k < 4 → parseFieldDescriptor (TB k).2.2.1 = some (tyB k) := by decide +kernel
theorem inB : ∀ w ∈ u_ws RB TB 4, w ∈ zB := by
  have h : ∀ w ∈ u_ws RB TB 4, w ∈ tables_1 ∧ goodWord w = true := by decide +kernel
  exact fun w hw => zkm2 (h w hw).1 (h w hw).2
abbrev RM : String := "ZoneHeapModel"
def TM : u_T := fun k => match k with
  | 0 => ("ZoneHeapModel", "err", "I", false)
  | 1 => ("ZoneHeapModel", "octet", "[I", true)
  | 2 => ("ZoneHeapModel", "place", "[I", true)
  | 3 => ("ZoneHeapModel", "size", "[I", true)
  | 4 => ("ZoneHeapModel", "state", "[I", true)
  | 5 => ("ZoneHeapModel", "since", "[I", true)
  | 6 => ("ZoneHeapModel", "reached", "[Z", true)
  | 7 => ("ZoneHeapModel", "found", "[I", true)
  | 8 => ("ZoneHeapModel", "many", "I", false)
  | 9 => ("ZoneHeapModel", "made", "I", false)
  | 10 => ("ZoneHeapModel", "backs", "I", false)
  | _ => ("ZoneHeapModel", "lostMany", "I", false)
def tyM : Nat → FieldType := fun k => match k with
  | 0 => .int
  | 1 => .array .int
  | 2 => .array .int
  | 3 => .array .int
  | 4 => .array .int
  | 5 => .array .int
  | 6 => .array .boolean
  | 7 => .array .int
  | 8 => .int
  | 9 => .int
  | 10 => .int
  | _ => .int
theorem nmM : ∀ a, a < 12 → ∀ b, b < 12 → a ≠ b → (TM a).2.1 ≠ (TM b).2.1 := by decide +kernel
theorem okM : ∀ k, k < 12 → parseFieldDescriptor (TM k).2.2.1 = some (tyM k) := by decide +kernel
theorem inM : ∀ w ∈ u_ws RM TM 12, w ∈ zB := by
  have h : ∀ w ∈ u_ws RM TM 12, w ∈ tables_1 ∧ goodWord w = true := by decide +kernel
  exact fun w hw => zkm2 (h w hw).1 (h w hw).2
abbrev RA : String := "java/util/ArrayList"
def TA : u_T := fun k => match k with
  | 0 => ("java/util/AbstractList", "modCount", "I", false)
  | 1 => ("java/util/ArrayList", "elementData", "[Ljava/lang/Object;", false)
  | _ => ("java/util/ArrayList", "size", "I", false)
def tyA : Nat → FieldType := fun k => match k with
  | 0 => .int
  | 1 => .array (.object "java/lang/Object")
  | _ => .int
theorem nmA : ∀ a, a < 3 → ∀ b, b < 3 → a ≠ b → (TA a).2.1 ≠ (TA b).2.1 := by decide +kernel
theorem okA : ∀ k, k < 3 → parseFieldDescriptor (TA k).2.2.1 = some (tyA k) := by decide +kernel
theorem inA : ∀ w ∈ u_ws RA TA 3, w ∈ zB := by
  have h : ∀ w ∈ u_ws RA TA 3, w ∈ tables_1 ∧ goodWord w = true := by decide +kernel
  exact fun w hw => zkm2 (h w hw).1 (h w hw).2
abbrev zcl : List vw_C := [(RZ, TZ, 11), (RB, TB, 4), (RM, TM, 12), (RA, TA, 3)]
abbrev c_Z_init : ByteArray := prog_1_method_1_code
abbrev y_Z_init : MethodName := ⟨"ZoneHeap", "<init>", "()V"⟩
theorem kc_Z_init : Cond.code y_Z_init c_Z_init 1 none ∈ zB := zkm 23 (by decide +kernel) rfl
def w_Z_init : List Cond := Cond.code y_Z_init c_Z_init 1 none :: zB
abbrev c_O_init : ByteArray := object_method_1_code
abbrev y_O_init : MethodName := ⟨"java/lang/Object", "<init>", "()V"⟩
theorem kc_O_init : Cond.code y_O_init c_O_init 1 none ∈ zB := zkm 26 (by decide +kernel) rfl
def w_O_init : List Cond := Cond.code y_O_init c_O_init 1 none :: zB
abbrev c_A_init : ByteArray := prog_19_method_2_code
abbrev y_A_init : MethodName := ⟨"java/util/ArrayList", "<init>", "()V"⟩
theorem kc_A_init : Cond.code y_A_init c_A_init 1 none ∈ zB := zkm 33 (by decide +kernel) rfl
def w_A_init : List Cond := Cond.code y_A_init c_A_init 1 none :: zB
abbrev c_Al_init : ByteArray := prog_18_method_1_code
abbrev y_Al_init : MethodName := ⟨"java/util/AbstractList", "<init>", "()V"⟩
theorem kc_Al_init : Cond.code y_Al_init c_Al_init 1 none ∈ zB := zkm 36 (by decide +kernel) rfl
def w_Al_init : List Cond := Cond.code y_Al_init c_Al_init 1 none :: zB
abbrev c_Ac_init : ByteArray := prog_17_method_1_code
abbrev y_Ac_init : MethodName := ⟨"java/util/AbstractCollection", "<init>", "()V"⟩
theorem kc_Ac_init : Cond.code y_Ac_init c_Ac_init 1 none ∈ zB := zkm 39 (by decide +kernel) rfl
def w_Ac_init : List Cond := Cond.code y_Ac_init c_Ac_init 1 none :: zB
abbrev c_Z_lost : ByteArray := prog_1_method_9_code
abbrev y_Z_lost : MethodName := ⟨"ZoneHeap", "lost", "(II)I"⟩
theorem kc_Z_lost : Cond.code y_Z_lost c_Z_lost 4 (some .int) ∈ zB := zkm 94 (by decide +kernel) rfl
def w_Z_lost : List Cond := Cond.code y_Z_lost c_Z_lost 4 (some .int) :: zB
abbrev c_Z_forgetReached : ByteArray := prog_1_method_28_code
abbrev y_Z_forgetReached : MethodName := ⟨"ZoneHeap", "forgetReached", "()V"⟩
theorem kc_Z_forgetReached : Cond.code y_Z_forgetReached c_Z_forgetReached 2 none ∈ zB := zkm 98 (by decide +kernel) rfl
def w_Z_forgetReached : List Cond := Cond.code y_Z_forgetReached c_Z_forgetReached 2 none :: zB
abbrev c_Z_reach : ByteArray := prog_1_method_29_code
abbrev y_Z_reach : MethodName := ⟨"ZoneHeap", "reach", "(I)V"⟩
theorem kc_Z_reach : Cond.code y_Z_reach c_Z_reach 3 none ∈ zB := zkm 102 (by decide +kernel) rfl
def w_Z_reach : List Cond := Cond.code y_Z_reach c_Z_reach 3 none :: zB
abbrev c_Z_ledToBy : ByteArray := prog_1_method_21_code
abbrev y_Z_ledToBy : MethodName := ⟨"ZoneHeap", "ledToBy", "(I)LZoneHeap$Block;"⟩
theorem kc_Z_ledToBy : Cond.code y_Z_ledToBy c_Z_ledToBy 3 (some (.object "ZoneHeap$Block")) ∈ zB := zkm 106 (by decide +kernel) rfl
def w_Z_ledToBy : List Cond := Cond.code y_Z_ledToBy c_Z_ledToBy 3 (some (.object "ZoneHeap$Block")) :: zB
abbrev c_Z_standingAt : ByteArray := prog_1_method_18_code
abbrev y_Z_standingAt : MethodName := ⟨"ZoneHeap", "standingAt", "(I)LZoneHeap$Block;"⟩
theorem kc_Z_standingAt : Cond.code y_Z_standingAt c_Z_standingAt 3 (some (.object "ZoneHeap$Block")) ∈ zB := zkm 110 (by decide +kernel) rfl
def w_Z_standingAt : List Cond := Cond.code y_Z_standingAt c_Z_standingAt 3 (some (.object "ZoneHeap$Block")) :: zB
abbrev c_Z_isOctet : ByteArray := prog_1_method_15_code
abbrev y_Z_isOctet : MethodName := ⟨"ZoneHeap", "isOctet", "(I)Z"⟩
theorem kc_Z_isOctet : Cond.code y_Z_isOctet c_Z_isOctet 1 (some .boolean) ∈ zB := zkm 113 (by decide +kernel) rfl
def w_Z_isOctet : List Cond := Cond.code y_Z_isOctet c_Z_isOctet 1 (some .boolean) :: zB
abbrev c_Z_liveHaving : ByteArray := prog_1_method_20_code
abbrev y_Z_liveHaving : MethodName := ⟨"ZoneHeap", "liveHaving", "(I)LZoneHeap$Block;"⟩
theorem kc_Z_liveHaving : Cond.code y_Z_liveHaving c_Z_liveHaving 3 (some (.object "ZoneHeap$Block")) ∈ zB := zkm 117 (by decide +kernel) rfl
def w_Z_liveHaving : List Cond := Cond.code y_Z_liveHaving c_Z_liveHaving 3 (some (.object "ZoneHeap$Block")) :: zB
abbrev c_B_has : ByteArray := prog_2_method_2_code
abbrev y_B_has : MethodName := ⟨"ZoneHeap$Block", "has", "(I)Z"⟩
theorem kc_B_has : Cond.code y_B_has c_B_has 2 (some .boolean) ∈ zB := zkm 122 (by decide +kernel) rfl
def w_B_has : List Cond := Cond.code y_B_has c_B_has 2 (some .boolean) :: zB
abbrev c_Z_reachFromWordsOf : ByteArray := prog_1_method_30_code
abbrev y_Z_reachFromWordsOf : MethodName := ⟨"ZoneHeap", "reachFromWordsOf", "(LZoneHeap$Block;)V"⟩
theorem kc_Z_reachFromWordsOf : Cond.code y_Z_reachFromWordsOf c_Z_reachFromWordsOf 3 none ∈ zB := zkm 126 (by decide +kernel) rfl
def w_Z_reachFromWordsOf : List Cond := Cond.code y_Z_reachFromWordsOf c_Z_reachFromWordsOf 3 none :: zB
abbrev c_Z_wordAt : ByteArray := prog_1_method_17_code
abbrev y_Z_wordAt : MethodName := ⟨"ZoneHeap", "wordAt", "(I)I"⟩
theorem kc_Z_wordAt : Cond.code y_Z_wordAt c_Z_wordAt 4 (some .int) ∈ zB := zkm 130 (by decide +kernel) rfl
def w_Z_wordAt : List Cond := Cond.code y_Z_wordAt c_Z_wordAt 4 (some .int) :: zB
abbrev c_Z_noteLost : ByteArray := prog_1_method_31_code
abbrev y_Z_noteLost : MethodName := ⟨"ZoneHeap", "noteLost", "()V"⟩
theorem kc_Z_noteLost : Cond.code y_Z_noteLost c_Z_noteLost 3 none ∈ zB := zkm 134 (by decide +kernel) rfl
def w_Z_noteLost : List Cond := Cond.code y_Z_noteLost c_Z_noteLost 3 none :: zB
abbrev c_L_get : ByteArray := method_3_code
abbrev y_L_get : MethodName := ⟨"ZoneHeapLaw", "get", "(LZoneHeap;I[J)I"⟩
theorem kc_L_get : Cond.codeWith y_L_get c_L_get 4 (some .int) [(0, 9, 12, 13)] ∈ zB := zkm 137 (by decide +kernel) rfl
def w_L_get : List Cond := Cond.codeWith y_L_get c_L_get 4 (some .int) [(0, 9, 12, 13)] :: zB
abbrev c_Z_get : ByteArray := prog_1_method_2_code
abbrev y_Z_get : MethodName := ⟨"ZoneHeap", "get", "(I)I"⟩
theorem kc_Z_get : Cond.code y_Z_get c_Z_get 3 (some .int) ∈ zB := zkm 142 (by decide +kernel) rfl
def w_Z_get : List Cond := Cond.code y_Z_get c_Z_get 3 (some .int) :: zB
abbrev c_Z_refuseWrongSize : ByteArray := prog_1_method_12_code
abbrev y_Z_refuseWrongSize : MethodName := ⟨"ZoneHeap", "refuseWrongSize", "(I)V"⟩
theorem kc_Z_refuseWrongSize : Cond.code y_Z_refuseWrongSize c_Z_refuseWrongSize 1 none ∈ zB := zkm 145 (by decide +kernel) rfl
def w_Z_refuseWrongSize : List Cond := Cond.code y_Z_refuseWrongSize c_Z_refuseWrongSize 1 none :: zB
abbrev c_Z_make : ByteArray := prog_1_method_22_code
abbrev y_Z_make : MethodName := ⟨"ZoneHeap", "make", "(I)LZoneHeap$Block;"⟩
theorem kc_Z_make : Cond.code y_Z_make c_Z_make 4 (some (.object "ZoneHeap$Block")) ∈ zB := zkm 216 (by decide +kernel) rfl
def w_Z_make : List Cond := Cond.code y_Z_make c_Z_make 4 (some (.object "ZoneHeap$Block")) :: zB
abbrev c_Z_cellsFor : ByteArray := prog_1_method_23_code
abbrev y_Z_cellsFor : MethodName := ⟨"ZoneHeap", "cellsFor", "(I)I"⟩
theorem kc_Z_cellsFor : Cond.code y_Z_cellsFor c_Z_cellsFor 1 (some .int) ∈ zB := zkm 219 (by decide +kernel) rfl
def w_Z_cellsFor : List Cond := Cond.code y_Z_cellsFor c_Z_cellsFor 1 (some .int) :: zB
abbrev c_Mt_max : ByteArray := prog_12_method_65_code
abbrev y_Mt_max : MethodName := ⟨"java/lang/Math", "max", "(II)I"⟩
theorem kc_Mt_max : Cond.code y_Mt_max c_Mt_max 2 (some .int) ∈ zB := zkm 222 (by decide +kernel) rfl
def w_Mt_max : List Cond := Cond.code y_Mt_max c_Mt_max 2 (some .int) :: zB
abbrev c_Z_firstRoomFor : ByteArray := prog_1_method_24_code
abbrev y_Z_firstRoomFor : MethodName := ⟨"ZoneHeap", "firstRoomFor", "(I)I"⟩
theorem kc_Z_firstRoomFor : Cond.code y_Z_firstRoomFor c_Z_firstRoomFor 4 (some .int) ∈ zB := zkm 226 (by decide +kernel) rfl
def w_Z_firstRoomFor : List Cond := Cond.code y_Z_firstRoomFor c_Z_firstRoomFor 4 (some .int) :: zB
abbrev c_B_init : ByteArray := prog_2_method_1_code
abbrev y_B_init : MethodName := ⟨"ZoneHeap$Block", "<init>", "(II)V"⟩
theorem kc_B_init : Cond.code y_B_init c_B_init 3 none ∈ zB := zkm 229 (by decide +kernel) rfl
def w_B_init : List Cond := Cond.code y_B_init c_B_init 3 none :: zB
abbrev c_Z_setTaker : ByteArray := prog_1_method_25_code
abbrev y_Z_setTaker : MethodName := ⟨"ZoneHeap", "setTaker", "(LZoneHeap$Block;LZoneHeap$Block;)V"⟩
theorem kc_Z_setTaker : Cond.code y_Z_setTaker c_Z_setTaker 6 none ∈ zB := zkm 251 (by decide +kernel) rfl
def w_Z_setTaker : List Cond := Cond.code y_Z_setTaker c_Z_setTaker 6 none :: zB
abbrev c_L_back : ByteArray := method_4_code
abbrev y_L_back : MethodName := ⟨"ZoneHeapLaw", "back", "(LZoneHeap;I[J)I"⟩
theorem kc_L_back : Cond.codeWith y_L_back c_L_back 4 (some .int) [(0, 9, 12, 13), (0, 9, 15, 18)] ∈ zB := zkm 254 (by decide +kernel) rfl
def w_L_back : List Cond := Cond.codeWith y_L_back c_L_back 4 (some .int) [(0, 9, 12, 13), (0, 9, 15, 18)] :: zB
abbrev c_Z_back : ByteArray := prog_1_method_3_code
abbrev y_Z_back : MethodName := ⟨"ZoneHeap", "back", "(I)I"⟩
theorem kc_Z_back : Cond.code y_Z_back c_Z_back 3 (some .int) ∈ zB := zkm 259 (by decide +kernel) rfl
def w_Z_back : List Cond := Cond.code y_Z_back c_Z_back 3 (some .int) :: zB
abbrev c_Z_liveStandingAt : ByteArray := prog_1_method_19_code
abbrev y_Z_liveStandingAt : MethodName := ⟨"ZoneHeap", "liveStandingAt", "(I)LZoneHeap$Block;"⟩
theorem kc_Z_liveStandingAt : Cond.code y_Z_liveStandingAt c_Z_liveStandingAt 3 (some (.object "ZoneHeap$Block")) ∈ zB := zkm 263 (by decide +kernel) rfl
def w_Z_liveStandingAt : List Cond := Cond.code y_Z_liveStandingAt c_Z_liveStandingAt 3 (some (.object "ZoneHeap$Block")) :: zB
abbrev c_Z_giveBack : ByteArray := prog_1_method_26_code
abbrev y_Z_giveBack : MethodName := ⟨"ZoneHeap", "giveBack", "(LZoneHeap$Block;)V"⟩
theorem kc_Z_giveBack : Cond.code y_Z_giveBack c_Z_giveBack 3 none ∈ zB := zkm 284 (by decide +kernel) rfl
def w_Z_giveBack : List Cond := Cond.code y_Z_giveBack c_Z_giveBack 3 none :: zB
abbrev c_A_add : ByteArray := prog_19_method_25_code
abbrev y_A_add : MethodName := ⟨"java/util/ArrayList", "add", "(Ljava/lang/Object;)Z"⟩
theorem kc_A_add : Cond.code y_A_add c_A_add 2 (some .boolean) ∈ zB := zkm 288 (by decide +kernel) rfl
def w_A_add : List Cond := Cond.code y_A_add c_A_add 2 (some .boolean) :: zB
abbrev c_A_add2 : ByteArray := prog_19_method_24_code
abbrev y_A_add2 : MethodName := ⟨"java/util/ArrayList", "add", "(Ljava/lang/Object;[Ljava/lang/Object;I)V"⟩
theorem kc_A_add2 : Cond.code y_A_add2 c_A_add2 4 none ∈ zB := zkm 292 (by decide +kernel) rfl
def w_A_add2 : List Cond := Cond.code y_A_add2 c_A_add2 4 none :: zB
abbrev c_A_grow : ByteArray := prog_19_method_7_code
abbrev y_A_grow : MethodName := ⟨"java/util/ArrayList", "grow", "()[Ljava/lang/Object;"⟩
theorem kc_A_grow : Cond.code y_A_grow c_A_grow 1 (some (.array (.object "java/lang/Object"))) ∈ zB := zkm 296 (by decide +kernel) rfl
def w_A_grow : List Cond := Cond.code y_A_grow c_A_grow 1 (some (.array (.object "java/lang/Object"))) :: zB
abbrev c_A_grow2 : ByteArray := prog_19_method_6_code
abbrev y_A_grow2 : MethodName := ⟨"java/util/ArrayList", "grow", "(I)[Ljava/lang/Object;"⟩
theorem kc_A_grow2 : Cond.code y_A_grow2 c_A_grow2 4 (some (.array (.object "java/lang/Object"))) ∈ zB := zkm 300 (by decide +kernel) rfl
def w_A_grow2 : List Cond := Cond.code y_A_grow2 c_A_grow2 4 (some (.array (.object "java/lang/Object"))) :: zB
abbrev c_Su_newLength : ByteArray := prog_26_method_27_code
abbrev y_Su_newLength : MethodName := ⟨"jdk/internal/util/ArraysSupport", "newLength", "(III)I"⟩
theorem kc_Su_newLength : Cond.code y_Su_newLength c_Su_newLength 4 (some .int) ∈ zB := zkm 303 (by decide +kernel) rfl
def w_Su_newLength : List Cond := Cond.code y_Su_newLength c_Su_newLength 4 (some .int) :: zB
abbrev c_Su_hugeLength : ByteArray := prog_26_method_28_code
abbrev y_Su_hugeLength : MethodName := ⟨"jdk/internal/util/ArraysSupport", "hugeLength", "(II)I"⟩
theorem kc_Su_hugeLength : Cond.code y_Su_hugeLength c_Su_hugeLength 3 (some .int) ∈ zB := zkm 308 (by decide +kernel) rfl
def w_Su_hugeLength : List Cond := Cond.code y_Su_hugeLength c_Su_hugeLength 3 (some .int) :: zB
abbrev c_As_copyOf : ByteArray := prog_20_method_119_code
abbrev y_As_copyOf : MethodName := ⟨"java/util/Arrays", "copyOf", "([Ljava/lang/Object;I)[Ljava/lang/Object;"⟩
theorem kc_As_copyOf : Cond.code y_As_copyOf c_As_copyOf 2 (some (.array (.object "java/lang/Object"))) ∈ zB := zkm 311 (by decide +kernel) rfl
def w_As_copyOf : List Cond := Cond.code y_As_copyOf c_As_copyOf 2 (some (.array (.object "java/lang/Object"))) :: zB
abbrev c_As_copyOf2 : ByteArray := prog_20_method_120_code
abbrev y_As_copyOf2 : MethodName := ⟨"java/util/Arrays", "copyOf", "([Ljava/lang/Object;ILjava/lang/Class;)[Ljava/lang/Object;"⟩
theorem kc_As_copyOf2 : Cond.code y_As_copyOf2 c_As_copyOf2 4 (some (.array (.object "java/lang/Object"))) ∈ zB := zkm 325 (by decide +kernel) rfl
def w_As_copyOf2 : List Cond := Cond.code y_As_copyOf2 c_As_copyOf2 4 (some (.array (.object "java/lang/Object"))) :: zB
abbrev c_Mt_min : ByteArray := prog_12_method_69_code
abbrev y_Mt_min : MethodName := ⟨"java/lang/Math", "min", "(II)I"⟩
theorem kc_Mt_min : Cond.code y_Mt_min c_Mt_min 2 (some .int) ∈ zB := zkm 331 (by decide +kernel) rfl
def w_Mt_min : List Cond := Cond.code y_Mt_min c_Mt_min 2 (some .int) :: zB
abbrev c_A_size : ByteArray := prog_19_method_8_code
abbrev y_A_size : MethodName := ⟨"java/util/ArrayList", "size", "()I"⟩
theorem kc_A_size : Cond.code y_A_size c_A_size 1 (some .int) ∈ zB := zkm 340 (by decide +kernel) rfl
def w_A_size : List Cond := Cond.code y_A_size c_A_size 1 (some .int) :: zB
abbrev c_Z_dropOldestKept : ByteArray := prog_1_method_27_code
abbrev y_Z_dropOldestKept : MethodName := ⟨"ZoneHeap", "dropOldestKept", "()V"⟩
theorem kc_Z_dropOldestKept : Cond.code y_Z_dropOldestKept c_Z_dropOldestKept 2 none ∈ zB := zkm 344 (by decide +kernel) rfl
def w_Z_dropOldestKept : List Cond := Cond.code y_Z_dropOldestKept c_Z_dropOldestKept 2 none :: zB
abbrev c_A_isEmpty : ByteArray := prog_19_method_9_code
abbrev y_A_isEmpty : MethodName := ⟨"java/util/ArrayList", "isEmpty", "()Z"⟩
theorem kc_A_isEmpty : Cond.code y_A_isEmpty c_A_isEmpty 1 (some .boolean) ∈ zB := zkm 348 (by decide +kernel) rfl
def w_A_isEmpty : List Cond := Cond.code y_A_isEmpty c_A_isEmpty 1 (some .boolean) :: zB
abbrev c_A_remove : ByteArray := prog_19_method_29_code
abbrev y_A_remove : MethodName := ⟨"java/util/ArrayList", "remove", "(I)Ljava/lang/Object;"⟩
theorem kc_A_remove : Cond.code y_A_remove c_A_remove 4 (some (.object "java/lang/Object")) ∈ zB := zkm 352 (by decide +kernel) rfl
def w_A_remove : List Cond := Cond.code y_A_remove c_A_remove 4 (some (.object "java/lang/Object")) :: zB
abbrev c_Ob_checkIndex : ByteArray := prog_23_method_17_code
abbrev y_Ob_checkIndex : MethodName := ⟨"java/util/Objects", "checkIndex", "(II)I"⟩
theorem kc_Ob_checkIndex : Cond.code y_Ob_checkIndex c_Ob_checkIndex 2 (some .int) ∈ zB := zkm 355 (by decide +kernel) rfl
def w_Ob_checkIndex : List Cond := Cond.code y_Ob_checkIndex c_Ob_checkIndex 2 (some .int) :: zB
abbrev c_Pc_checkIndex : ByteArray := prog_27_method_11_code
abbrev y_Pc_checkIndex : MethodName := ⟨"jdk/internal/util/Preconditions", "checkIndex", "(IILjava/util/function/BiFunction;)I"⟩
theorem kc_Pc_checkIndex : Cond.code y_Pc_checkIndex c_Pc_checkIndex 3 (some .int) ∈ zB := zkm 358 (by decide +kernel) rfl
def w_Pc_checkIndex : List Cond := Cond.code y_Pc_checkIndex c_Pc_checkIndex 3 (some .int) :: zB
abbrev c_A_fastRemove : ByteArray := prog_19_method_39_code
abbrev y_A_fastRemove : MethodName := ⟨"java/util/ArrayList", "fastRemove", "([Ljava/lang/Object;I)V"⟩
theorem kc_A_fastRemove : Cond.code y_A_fastRemove c_A_fastRemove 4 none ∈ zB := zkm 362 (by decide +kernel) rfl
def w_A_fastRemove : List Cond := Cond.code y_A_fastRemove c_A_fastRemove 4 none :: zB
abbrev c_L_again : ByteArray := method_5_code
abbrev y_L_again : MethodName := ⟨"ZoneHeapLaw", "again", "(LZoneHeap;II[J)I"⟩
theorem kc_L_again : Cond.codeWith y_L_again c_L_again 5 (some .int) [(0, 10, 13, 13), (0, 10, 17, 18)] ∈ zB := zkm 366 (by decide +kernel) rfl
def w_L_again : List Cond := Cond.codeWith y_L_again c_L_again 5 (some .int) [(0, 10, 13, 13), (0, 10, 17, 18)] :: zB
abbrev c_Z_again : ByteArray := prog_1_method_4_code
abbrev y_Z_again : MethodName := ⟨"ZoneHeap", "again", "(II)I"⟩
theorem kc_Z_again : Cond.code y_Z_again c_Z_again 5 (some .int) ∈ zB := zkm 370 (by decide +kernel) rfl
def w_Z_again : List Cond := Cond.code y_Z_again c_Z_again 5 (some .int) :: zB
abbrev c_L_kind : ByteArray := method_6_code
abbrev y_L_kind : MethodName := ⟨"ZoneHeapLaw", "kind", "(LZoneHeap;I[J)I"⟩
theorem kc_L_kind : Cond.codeWith y_L_kind c_L_kind 4 (some .int) [(0, 9, 12, 27)] ∈ zB := zkm 375 (by decide +kernel) rfl
def w_L_kind : List Cond := Cond.codeWith y_L_kind c_L_kind 4 (some .int) [(0, 9, 12, 27)] :: zB
abbrev c_Z_kind : ByteArray := prog_1_method_5_code
abbrev y_Z_kind : MethodName := ⟨"ZoneHeap", "kind", "(I)I"⟩
theorem kc_Z_kind : Cond.code y_Z_kind c_Z_kind 4 (some .int) ∈ zB := zkm 380 (by decide +kernel) rfl
def w_Z_kind : List Cond := Cond.code y_Z_kind c_Z_kind 4 (some .int) :: zB
abbrev c_Z_refuseWrongOctet : ByteArray := prog_1_method_13_code
abbrev y_Z_refuseWrongOctet : MethodName := ⟨"ZoneHeap", "refuseWrongOctet", "(I)V"⟩
theorem kc_Z_refuseWrongOctet : Cond.code y_Z_refuseWrongOctet c_Z_refuseWrongOctet 1 none ∈ zB := zkm 383 (by decide +kernel) rfl
def w_Z_refuseWrongOctet : List Cond := Cond.code y_Z_refuseWrongOctet c_Z_refuseWrongOctet 1 none :: zB
abbrev c_Z_isTaken : ByteArray := prog_1_method_16_code
abbrev y_Z_isTaken : MethodName := ⟨"ZoneHeap", "isTaken", "(I)Z"⟩
theorem kc_Z_isTaken : Cond.code y_Z_isTaken c_Z_isTaken 2 (some .boolean) ∈ zB := zkm 403 (by decide +kernel) rfl
def w_Z_isTaken : List Cond := Cond.code y_Z_isTaken c_Z_isTaken 2 (some .boolean) :: zB
abbrev c_L_block : ByteArray := method_7_code
abbrev y_L_block : MethodName := ⟨"ZoneHeapLaw", "block", "(LZoneHeap;I[J)I"⟩
theorem kc_L_block : Cond.codeWith y_L_block c_L_block 4 (some .int) [(0, 9, 12, 27)] ∈ zB := zkm 406 (by decide +kernel) rfl
def w_L_block : List Cond := Cond.codeWith y_L_block c_L_block 4 (some .int) [(0, 9, 12, 27)] :: zB
abbrev c_Z_block : ByteArray := prog_1_method_6_code
abbrev y_Z_block : MethodName := ⟨"ZoneHeap", "block", "(I)I"⟩
theorem kc_Z_block : Cond.code y_Z_block c_Z_block 3 (some .int) ∈ zB := zkm 410 (by decide +kernel) rfl
def w_Z_block : List Cond := Cond.code y_Z_block c_Z_block 3 (some .int) :: zB
abbrev c_L_write : ByteArray := method_8_code
abbrev y_L_write : MethodName := ⟨"ZoneHeapLaw", "write", "(LZoneHeap;II)I"⟩
theorem kc_L_write : Cond.codeWith y_L_write c_L_write 4 (some .int) [(0, 6, 9, 27), (0, 6, 12, 18)] ∈ zB := zkm 413 (by decide +kernel) rfl
def w_L_write : List Cond := Cond.codeWith y_L_write c_L_write 4 (some .int) [(0, 6, 9, 27), (0, 6, 12, 18)] :: zB
abbrev c_Z_write : ByteArray := prog_1_method_7_code
abbrev y_Z_write : MethodName := ⟨"ZoneHeap", "write", "(II)V"⟩
theorem kc_Z_write : Cond.code y_Z_write c_Z_write 4 none ∈ zB := zkm 417 (by decide +kernel) rfl
def w_Z_write : List Cond := Cond.code y_Z_write c_Z_write 4 none :: zB
abbrev c_Z_refuseWrongWord : ByteArray := prog_1_method_14_code
abbrev y_Z_refuseWrongWord : MethodName := ⟨"ZoneHeap", "refuseWrongWord", "(I)V"⟩
theorem kc_Z_refuseWrongWord : Cond.code y_Z_refuseWrongWord c_Z_refuseWrongWord 3 none ∈ zB := zkm 421 (by decide +kernel) rfl
def w_Z_refuseWrongWord : List Cond := Cond.code y_Z_refuseWrongWord c_Z_refuseWrongWord 3 none :: zB
abbrev c_L_read : ByteArray := method_9_code
abbrev y_L_read : MethodName := ⟨"ZoneHeapLaw", "read", "(LZoneHeap;I[J)I"⟩
theorem kc_L_read : Cond.codeWith y_L_read c_L_read 4 (some .int) [(0, 9, 12, 27), (0, 9, 15, 18)] ∈ zB := zkm 426 (by decide +kernel) rfl
def w_L_read : List Cond := Cond.codeWith y_L_read c_L_read 4 (some .int) [(0, 9, 12, 27), (0, 9, 15, 18)] :: zB
abbrev c_Z_read : ByteArray := prog_1_method_8_code
abbrev y_Z_read : MethodName := ⟨"ZoneHeap", "read", "(I)I"⟩
theorem kc_Z_read : Cond.code y_Z_read c_Z_read 2 (some .int) ∈ zB := zkm 430 (by decide +kernel) rfl
def w_Z_read : List Cond := Cond.code y_Z_read c_Z_read 2 (some .int) :: zB
abbrev c_L_lostAt : ByteArray := method_10_code
abbrev y_L_lostAt : MethodName := ⟨"ZoneHeapLaw", "lostAt", "(LZoneHeap;I[J)I"⟩
theorem kc_L_lostAt : Cond.codeWith y_L_lostAt c_L_lostAt 4 (some .int) [(0, 9, 12, 27)] ∈ zB := zkm 433 (by decide +kernel) rfl
def w_L_lostAt : List Cond := Cond.codeWith y_L_lostAt c_L_lostAt 4 (some .int) [(0, 9, 12, 27)] :: zB
abbrev c_Z_lostAt : ByteArray := prog_1_method_10_code
abbrev y_Z_lostAt : MethodName := ⟨"ZoneHeap", "lostAt", "(I)I"⟩
theorem kc_Z_lostAt : Cond.code y_Z_lostAt c_Z_lostAt 2 (some .int) ∈ zB := zkm 437 (by decide +kernel) rfl
def w_Z_lostAt : List Cond := Cond.code y_Z_lostAt c_Z_lostAt 2 (some .int) :: zB
abbrev c_L_count : ByteArray := method_11_code
abbrev y_L_count : MethodName := ⟨"ZoneHeapLaw", "count", "(LZoneHeap;I[J)I"⟩
theorem kc_L_count : Cond.codeWith y_L_count c_L_count 4 (some .int) [(0, 9, 12, 13)] ∈ zB := zkm 441 (by decide +kernel) rfl
def w_L_count : List Cond := Cond.codeWith y_L_count c_L_count 4 (some .int) [(0, 9, 12, 13)] :: zB
abbrev c_Z_count : ByteArray := prog_1_method_11_code
abbrev y_Z_count : MethodName := ⟨"ZoneHeap", "count", "(I)I"⟩
theorem kc_Z_count : Cond.code y_Z_count c_Z_count 2 (some .int) ∈ zB := zkm 445 (by decide +kernel) rfl
def w_Z_count : List Cond := Cond.code y_Z_count c_Z_count 2 (some .int) :: zB
abbrev c_M_init : ByteArray := prog_4_method_1_code
abbrev y_M_init : MethodName := ⟨"ZoneHeapModel", "<init>", "()V"⟩
theorem kc_M_init : Cond.code y_M_init c_M_init 1 none ∈ zB := zkm 451 (by decide +kernel) rfl
def w_M_init : List Cond := Cond.code y_M_init c_M_init 1 none :: zB
abbrev c_M_thrown : ByteArray := prog_4_method_2_code
abbrev y_M_thrown : MethodName := ⟨"ZoneHeapModel", "thrown", "()I"⟩
theorem kc_M_thrown : Cond.code y_M_thrown c_M_thrown 1 (some .int) ∈ zB := zkm 494 (by decide +kernel) rfl
def w_M_thrown : List Cond := Cond.code y_M_thrown c_M_thrown 1 (some .int) :: zB
abbrev c_M_get : ByteArray := prog_4_method_10_code
abbrev y_M_get : MethodName := ⟨"ZoneHeapModel", "get", "(I)I"⟩
theorem kc_M_get : Cond.code y_M_get c_M_get 2 (some .int) ∈ zB := zkm 498 (by decide +kernel) rfl
def w_M_get : List Cond := Cond.code y_M_get c_M_get 2 (some .int) :: zB
abbrev c_M_fails : ByteArray := prog_4_method_3_code
abbrev y_M_fails : MethodName := ⟨"ZoneHeapModel", "fails", "(ZI)Z"⟩
theorem kc_M_fails : Cond.code y_M_fails c_M_fails 3 (some .boolean) ∈ zB := zkm 502 (by decide +kernel) rfl
def w_M_fails : List Cond := Cond.code y_M_fails c_M_fails 3 (some .boolean) :: zB
abbrev c_M_make : ByteArray := prog_4_method_6_code
abbrev y_M_make : MethodName := ⟨"ZoneHeapModel", "make", "(I)I"⟩
theorem kc_M_make : Cond.code y_M_make c_M_make 3 (some .int) ∈ zB := zkm 506 (by decide +kernel) rfl
def w_M_make : List Cond := Cond.code y_M_make c_M_make 3 (some .int) :: zB
abbrev c_M_room : ByteArray := prog_4_method_5_code
abbrev y_M_room : MethodName := ⟨"ZoneHeapModel", "room", "(I)I"⟩
theorem kc_M_room : Cond.code y_M_room c_M_room 5 (some .int) ∈ zB := zkm 510 (by decide +kernel) rfl
def w_M_room : List Cond := Cond.code y_M_room c_M_room 5 (some .int) :: zB
abbrev c_M_taken : ByteArray := prog_4_method_4_code
abbrev y_M_taken : MethodName := ⟨"ZoneHeapModel", "taken", "(I)I"⟩
theorem kc_M_taken : Cond.code y_M_taken c_M_taken 1 (some .int) ∈ zB := zkm 513 (by decide +kernel) rfl
def w_M_taken : List Cond := Cond.code y_M_taken c_M_taken 1 (some .int) :: zB
abbrev c_M_back : ByteArray := prog_4_method_11_code
abbrev y_M_back : MethodName := ⟨"ZoneHeapModel", "back", "(I)I"⟩
theorem kc_M_back : Cond.code y_M_back c_M_back 4 (some .int) ∈ zB := zkm 517 (by decide +kernel) rfl
def w_M_back : List Cond := Cond.code y_M_back c_M_back 4 (some .int) :: zB
abbrev c_M_at : ByteArray := prog_4_method_7_code
abbrev y_M_at : MethodName := ⟨"ZoneHeapModel", "at", "(II)I"⟩
theorem kc_M_at : Cond.code y_M_at c_M_at 4 (some .int) ∈ zB := zkm 521 (by decide +kernel) rfl
def w_M_at : List Cond := Cond.code y_M_at c_M_at 4 (some .int) :: zB
abbrev c_M_give : ByteArray := prog_4_method_9_code
abbrev y_M_give : MethodName := ⟨"ZoneHeapModel", "give", "(I)V"⟩
theorem kc_M_give : Cond.code y_M_give c_M_give 4 none ∈ zB := zkm 525 (by decide +kernel) rfl
def w_M_give : List Cond := Cond.code y_M_give c_M_give 4 none :: zB
abbrev c_M_kept : ByteArray := prog_4_method_8_code
abbrev y_M_kept : MethodName := ⟨"ZoneHeapModel", "kept", "()I"⟩
theorem kc_M_kept : Cond.code y_M_kept c_M_kept 3 (some .int) ∈ zB := zkm 529 (by decide +kernel) rfl
def w_M_kept : List Cond := Cond.code y_M_kept c_M_kept 3 (some .int) :: zB
abbrev c_M_again : ByteArray := prog_4_method_12_code
abbrev y_M_again : MethodName := ⟨"ZoneHeapModel", "again", "(II)I"⟩
theorem kc_M_again : Cond.code y_M_again c_M_again 6 (some .int) ∈ zB := zkm 533 (by decide +kernel) rfl
def w_M_again : List Cond := Cond.code y_M_again c_M_again 6 (some .int) :: zB
abbrev c_M_kind : ByteArray := prog_4_method_14_code
abbrev y_M_kind : MethodName := ⟨"ZoneHeapModel", "kind", "(I)I"⟩
theorem kc_M_kind : Cond.code y_M_kind c_M_kind 3 (some .int) ∈ zB := zkm 537 (by decide +kernel) rfl
def w_M_kind : List Cond := Cond.code y_M_kind c_M_kind 3 (some .int) :: zB
abbrev c_M_of : ByteArray := prog_4_method_13_code
abbrev y_M_of : MethodName := ⟨"ZoneHeapModel", "of", "(II)I"⟩
theorem kc_M_of : Cond.code y_M_of c_M_of 4 (some .int) ∈ zB := zkm 541 (by decide +kernel) rfl
def w_M_of : List Cond := Cond.code y_M_of c_M_of 4 (some .int) :: zB
abbrev c_M_block : ByteArray := prog_4_method_15_code
abbrev y_M_block : MethodName := ⟨"ZoneHeapModel", "block", "(I)I"⟩
theorem kc_M_block : Cond.code y_M_block c_M_block 3 (some .int) ∈ zB := zkm 545 (by decide +kernel) rfl
def w_M_block : List Cond := Cond.code y_M_block c_M_block 3 (some .int) :: zB
abbrev c_M_write : ByteArray := prog_4_method_18_code
abbrev y_M_write : MethodName := ⟨"ZoneHeapModel", "write", "(II)V"⟩
theorem kc_M_write : Cond.code y_M_write c_M_write 4 none ∈ zB := zkm 549 (by decide +kernel) rfl
def w_M_write : List Cond := Cond.code y_M_write c_M_write 4 none :: zB
abbrev c_M_bad : ByteArray := prog_4_method_16_code
abbrev y_M_bad : MethodName := ⟨"ZoneHeapModel", "bad", "(I)Z"⟩
theorem kc_M_bad : Cond.code y_M_bad c_M_bad 3 (some .boolean) ∈ zB := zkm 553 (by decide +kernel) rfl
def w_M_bad : List Cond := Cond.code y_M_bad c_M_bad 3 (some .boolean) :: zB
abbrev c_M_read : ByteArray := prog_4_method_19_code
abbrev y_M_read : MethodName := ⟨"ZoneHeapModel", "read", "(I)I"⟩
theorem kc_M_read : Cond.code y_M_read c_M_read 2 (some .int) ∈ zB := zkm 557 (by decide +kernel) rfl
def w_M_read : List Cond := Cond.code y_M_read c_M_read 2 (some .int) :: zB
abbrev c_M_word : ByteArray := prog_4_method_17_code
abbrev y_M_word : MethodName := ⟨"ZoneHeapModel", "word", "(I)I"⟩
theorem kc_M_word : Cond.code y_M_word c_M_word 2 (some .int) ∈ zB := zkm 561 (by decide +kernel) rfl
def w_M_word : List Cond := Cond.code y_M_word c_M_word 2 (some .int) :: zB
abbrev c_M_lost : ByteArray := prog_4_method_22_code
abbrev y_M_lost : MethodName := ⟨"ZoneHeapModel", "lost", "(II)I"⟩
theorem kc_M_lost : Cond.code y_M_lost c_M_lost 6 (some .int) ∈ zB := zkm 565 (by decide +kernel) rfl
def w_M_lost : List Cond := Cond.code y_M_lost c_M_lost 6 (some .int) :: zB
abbrev c_M_touch : ByteArray := prog_4_method_21_code
abbrev y_M_touch : MethodName := ⟨"ZoneHeapModel", "touch", "(I)Z"⟩
theorem kc_M_touch : Cond.code y_M_touch c_M_touch 3 (some .boolean) ∈ zB := zkm 569 (by decide +kernel) rfl
def w_M_touch : List Cond := Cond.code y_M_touch c_M_touch 3 (some .boolean) :: zB
abbrev c_M_leads : ByteArray := prog_4_method_20_code
abbrev y_M_leads : MethodName := ⟨"ZoneHeapModel", "leads", "(I)I"⟩
theorem kc_M_leads : Cond.code y_M_leads c_M_leads 3 (some .int) ∈ zB := zkm 573 (by decide +kernel) rfl
def w_M_leads : List Cond := Cond.code y_M_leads c_M_leads 3 (some .int) :: zB
abbrev c_M_lostAt : ByteArray := prog_4_method_23_code
abbrev y_M_lostAt : MethodName := ⟨"ZoneHeapModel", "lostAt", "(I)I"⟩
theorem kc_M_lostAt : Cond.code y_M_lostAt c_M_lostAt 2 (some .int) ∈ zB := zkm 577 (by decide +kernel) rfl
def w_M_lostAt : List Cond := Cond.code y_M_lostAt c_M_lostAt 2 (some .int) :: zB
abbrev c_M_count : ByteArray := prog_4_method_24_code
abbrev y_M_count : MethodName := ⟨"ZoneHeapModel", "count", "(I)I"⟩
theorem kc_M_count : Cond.code y_M_count c_M_count 5 (some .int) ∈ zB := zkm 581 (by decide +kernel) rfl
def w_M_count : List Cond := Cond.code y_M_count c_M_count 5 (some .int) :: zB
abbrev c_L_law : ByteArray := code
abbrev y_L_law : MethodName := ⟨"ZoneHeapLaw", "law", "([I)Z"⟩
theorem zk0 : (Jvm.Cond.initialized "ZoneHeapLaw") ∈ zB := zkm 0 (by decide +kernel) rfl
theorem zk1 : (Jvm.Cond.initialized "ZoneHeap") ∈ zB := zkm 1 (by decide +kernel) rfl
theorem zk2 : (Jvm.Cond.initialized "java/util/AbstractCollection") ∈ zB := zkm 2 (by decide +kernel) rfl
theorem zk3 : (Jvm.Cond.initialized "java/util/AbstractList") ∈ zB := zkm 3 (by decide +kernel) rfl
theorem zk4 : (Jvm.Cond.initialized "java/util/ArrayList") ∈ zB := zkm 4 (by decide +kernel) rfl
theorem zk5 : (Jvm.Cond.initialized "ZoneHeapModel") ∈ zB := zkm 5 (by decide +kernel) rfl
theorem zk6 : (Jvm.Cond.initialized "java/lang/Throwable") ∈ zB := zkm 6 (by decide +kernel) rfl
theorem zk7 : (Jvm.Cond.initialized "java/lang/Exception") ∈ zB := zkm 7 (by decide +kernel) rfl
theorem zk8 : (Jvm.Cond.initialized "java/lang/RuntimeException") ∈ zB := zkm 8 (by decide +kernel) rfl
theorem zk9 : (Jvm.Cond.initialized "java/lang/IllegalArgumentException") ∈ zB := zkm 9 (by decide +kernel) rfl
theorem zk10 : (Jvm.Cond.initialized "java/lang/Math") ∈ zB := zkm 10 (by decide +kernel) rfl
theorem zk11 : (Jvm.Cond.initialized "ZoneHeap$Block") ∈ zB := zkm 11 (by decide +kernel) rfl
theorem zk12 : (Jvm.Cond.initialized "java/lang/IllegalStateException") ∈ zB := zkm 12 (by decide +kernel) rfl
theorem zk13 : (Jvm.Cond.initialized "jdk/internal/util/ArraysSupport") ∈ zB := zkm 13 (by decide +kernel) rfl
theorem zk14 : (Jvm.Cond.initialized "java/util/Arrays") ∈ zB := zkm 14 (by decide +kernel) rfl
theorem zk15 : (Jvm.Cond.initialized "java/lang/System") ∈ zB := zkm 15 (by decide +kernel) rfl
theorem zk16 : (Jvm.Cond.initialized "java/util/Objects") ∈ zB := zkm 16 (by decide +kernel) rfl
theorem zk17 : (Jvm.Cond.initialized "jdk/internal/util/Preconditions") ∈ zB := zkm 17 (by decide +kernel) rfl
theorem zk18 : (Jvm.Cond.initialized "java/lang/IndexOutOfBoundsException") ∈ zB := zkm 18 (by decide +kernel) rfl
theorem zk19 : (Jvm.Cond.classLink "ZoneHeapLaw" (8 : Nat) "ZoneHeap") ∈ zB := zkm 19 (by decide +kernel) rfl
theorem zk20 : (Jvm.Cond.instantiable "ZoneHeap" (11 : Nat)) ∈ zB := zkm 20 (by decide +kernel) rfl
theorem zk21 : (Jvm.Cond.methodLink "ZoneHeapLaw" (45 : Nat) ({ cls := "ZoneHeap", name := "<init>", desc := "()V" } : Jvm.MethodName)) ∈ zB := zkm 21 (by decide +kernel) rfl
theorem zk22 : (Jvm.Cond.instanceMethod ({ cls := "ZoneHeap", name := "<init>", desc := "()V" } : Jvm.MethodName)) ∈ zB := zkm 22 (by decide +kernel) rfl
theorem zk24 : (Jvm.Cond.methodLink "ZoneHeap" (3 : Nat) ({ cls := "java/lang/Object", name := "<init>", desc := "()V" } : Jvm.MethodName)) ∈ zB := zkm 24 (by decide +kernel) rfl
theorem zk25 : (Jvm.Cond.instanceMethod ({ cls := "java/lang/Object", name := "<init>", desc := "()V" } : Jvm.MethodName)) ∈ zB := zkm 25 (by decide +kernel) rfl
theorem zk27 : (Jvm.Cond.classLink "ZoneHeap" (13 : Nat) "ZoneHeap$Block") ∈ zB := zkm 27 (by decide +kernel) rfl
theorem zk29 : (Jvm.Cond.classLink "ZoneHeap" (19 : Nat) "java/util/ArrayList") ∈ zB := zkm 29 (by decide +kernel) rfl
theorem zk30 : (Jvm.Cond.instantiable "java/util/ArrayList" (3 : Nat)) ∈ zB := zkm 30 (by decide +kernel) rfl
theorem zk31 : (Jvm.Cond.methodLink "ZoneHeap" (21 : Nat) ({ cls := "java/util/ArrayList", name := "<init>", desc := "()V" } : Jvm.MethodName)) ∈ zB := zkm 31 (by decide +kernel) rfl
theorem zk32 : (Jvm.Cond.instanceMethod ({ cls := "java/util/ArrayList", name := "<init>", desc := "()V" } : Jvm.MethodName)) ∈ zB := zkm 32 (by decide +kernel) rfl
theorem zk34 : (Jvm.Cond.methodLink "java/util/ArrayList" (1 : Nat) ({ cls := "java/util/AbstractList", name := "<init>", desc := "()V" } : Jvm.MethodName)) ∈ zB := zkm 34 (by decide +kernel) rfl
theorem zk35 : (Jvm.Cond.instanceMethod ({ cls := "java/util/AbstractList", name := "<init>", desc := "()V" } : Jvm.MethodName)) ∈ zB := zkm 35 (by decide +kernel) rfl
theorem zk37 : (Jvm.Cond.methodLink "java/util/AbstractList" (1 : Nat) ({ cls := "java/util/AbstractCollection", name := "<init>", desc := "()V" } : Jvm.MethodName)) ∈ zB := zkm 37 (by decide +kernel) rfl
theorem zk38 : (Jvm.Cond.instanceMethod ({ cls := "java/util/AbstractCollection", name := "<init>", desc := "()V" } : Jvm.MethodName)) ∈ zB := zkm 38 (by decide +kernel) rfl
theorem zk40 : (Jvm.Cond.methodLink "java/util/AbstractCollection" (1 : Nat) ({ cls := "java/lang/Object", name := "<init>", desc := "()V" } : Jvm.MethodName)) ∈ zB := zkm 40 (by decide +kernel) rfl
theorem zk41 : (Jvm.Cond.fieldLink "java/util/ArrayList" (39 : Nat) "java/util/ArrayList" "DEFAULTCAPACITY_EMPTY_ELEMENTDATA" "[Ljava/lang/Object;") ∈ zB := zkm 41 (by decide +kernel) rfl
theorem zk43 : (Jvm.Cond.fieldLink "java/util/ArrayList" (9 : Nat) "java/util/ArrayList" "elementData" "[Ljava/lang/Object;") ∈ zB := zkm 43 (by decide +kernel) rfl
theorem zk44 : (Jvm.Cond.fieldLink "java/util/ArrayList" (48 : Nat) "java/util/ArrayList" "size" "I") ∈ zB := zkm 44 (by decide +kernel) rfl
theorem zk45 : (Jvm.Cond.fieldLink "java/util/AbstractList" (7 : Nat) "java/util/AbstractList" "modCount" "I") ∈ zB := zkm 45 (by decide +kernel) rfl
theorem zk46 : (Jvm.Cond.fieldLink "java/util/ArrayList" (63 : Nat) "java/util/ArrayList" "modCount" "I") ∈ zB := zkm 46 (by decide +kernel) rfl
theorem zk47 : (Jvm.Cond.sameField "java/util/ArrayList" "java/util/AbstractList" "modCount" "I") ∈ zB := zkm 47 (by decide +kernel) rfl
theorem zk55 : (Jvm.Cond.arrayClass Jvm.ClassFile.FieldType.byte) ∈ zB := zkm 55 (by decide +kernel) rfl
theorem zk56 : (Jvm.Cond.fieldLink "ZoneHeap" (9 : Nat) "ZoneHeap" "octets" "[B") ∈ zB := zkm 56 (by decide +kernel) rfl
theorem zk57 : (Jvm.Cond.fieldLink "ZoneHeap" (15 : Nat) "ZoneHeap" "takers" "[LZoneHeap$Block;") ∈ zB := zkm 57 (by decide +kernel) rfl
theorem zk58 : (Jvm.Cond.fieldLink "ZoneHeap" (22 : Nat) "ZoneHeap" "keptBlocks" "Ljava/util/ArrayList;") ∈ zB := zkm 58 (by decide +kernel) rfl
theorem zk59 : (Jvm.Cond.fieldLink "ZoneHeap" (26 : Nat) "ZoneHeap" "keptOctets" "I") ∈ zB := zkm 59 (by decide +kernel) rfl
theorem zk60 : (Jvm.Cond.fieldLink "ZoneHeap" (30 : Nat) "ZoneHeap" "liveBlocks" "I") ∈ zB := zkm 60 (by decide +kernel) rfl
theorem zk61 : (Jvm.Cond.fieldLink "ZoneHeap" (33 : Nat) "ZoneHeap" "liveOctets" "I") ∈ zB := zkm 61 (by decide +kernel) rfl
theorem zk62 : (Jvm.Cond.fieldLink "ZoneHeap" (36 : Nat) "ZoneHeap" "madeBlocks" "I") ∈ zB := zkm 62 (by decide +kernel) rfl
theorem zk63 : (Jvm.Cond.fieldLink "ZoneHeap" (39 : Nat) "ZoneHeap" "reachedBlocks" "[LZoneHeap$Block;") ∈ zB := zkm 63 (by decide +kernel) rfl
theorem zk64 : (Jvm.Cond.fieldLink "ZoneHeap" (42 : Nat) "ZoneHeap" "reachedCount" "I") ∈ zB := zkm 64 (by decide +kernel) rfl
theorem zk65 : (Jvm.Cond.fieldLink "ZoneHeap" (45 : Nat) "ZoneHeap" "lostStarts" "[I") ∈ zB := zkm 65 (by decide +kernel) rfl
theorem zk66 : (Jvm.Cond.fieldLink "ZoneHeap" (49 : Nat) "ZoneHeap" "lostCount" "I") ∈ zB := zkm 66 (by decide +kernel) rfl
theorem zk90 : (Jvm.Cond.arrayClass Jvm.ClassFile.FieldType.int) ∈ zB := zkm 90 (by decide +kernel) rfl
theorem zk91 : (Jvm.Cond.methodLink "ZoneHeapLaw" (79 : Nat) ({ cls := "ZoneHeap", name := "lost", desc := "(II)I" } : Jvm.MethodName)) ∈ zB := zkm 91 (by decide +kernel) rfl
theorem zk92 : (Jvm.Cond.instanceMethod ({ cls := "ZoneHeap", name := "lost", desc := "(II)I" } : Jvm.MethodName)) ∈ zB := zkm 92 (by decide +kernel) rfl
theorem zk93 : (Jvm.Cond.selects "ZoneHeap" ({ cls := "ZoneHeap", name := "lost", desc := "(II)I" } : Jvm.MethodName) ({ cls := "ZoneHeap", name := "lost", desc := "(II)I" } : Jvm.MethodName)) ∈ zB := zkm 93 (by decide +kernel) rfl
theorem zk95 : (Jvm.Cond.methodLink "ZoneHeap" (109 : Nat) ({ cls := "ZoneHeap", name := "forgetReached", desc := "()V" } : Jvm.MethodName)) ∈ zB := zkm 95 (by decide +kernel) rfl
theorem zk97 : (Jvm.Cond.instanceMethod ({ cls := "ZoneHeap", name := "forgetReached", desc := "()V" } : Jvm.MethodName)) ∈ zB := zkm 97 (by decide +kernel) rfl
theorem zk99 : (Jvm.Cond.methodLink "ZoneHeap" (112 : Nat) ({ cls := "ZoneHeap", name := "reach", desc := "(I)V" } : Jvm.MethodName)) ∈ zB := zkm 99 (by decide +kernel) rfl
theorem zk101 : (Jvm.Cond.instanceMethod ({ cls := "ZoneHeap", name := "reach", desc := "(I)V" } : Jvm.MethodName)) ∈ zB := zkm 101 (by decide +kernel) rfl
theorem zk103 : (Jvm.Cond.methodLink "ZoneHeap" (191 : Nat) ({ cls := "ZoneHeap", name := "ledToBy", desc := "(I)LZoneHeap$Block;" } : Jvm.MethodName)) ∈ zB := zkm 103 (by decide +kernel) rfl
theorem zk105 : (Jvm.Cond.instanceMethod ({ cls := "ZoneHeap", name := "ledToBy", desc := "(I)LZoneHeap$Block;" } : Jvm.MethodName)) ∈ zB := zkm 105 (by decide +kernel) rfl
theorem zk107 : (Jvm.Cond.methodLink "ZoneHeap" (150 : Nat) ({ cls := "ZoneHeap", name := "standingAt", desc := "(I)LZoneHeap$Block;" } : Jvm.MethodName)) ∈ zB := zkm 107 (by decide +kernel) rfl
theorem zk109 : (Jvm.Cond.instanceMethod ({ cls := "ZoneHeap", name := "standingAt", desc := "(I)LZoneHeap$Block;" } : Jvm.MethodName)) ∈ zB := zkm 109 (by decide +kernel) rfl
theorem zk111 : (Jvm.Cond.methodLink "ZoneHeap" (138 : Nat) ({ cls := "ZoneHeap", name := "isOctet", desc := "(I)Z" } : Jvm.MethodName)) ∈ zB := zkm 111 (by decide +kernel) rfl
theorem zk112 : (Jvm.Cond.static ({ cls := "ZoneHeap", name := "isOctet", desc := "(I)Z" } : Jvm.MethodName)) ∈ zB := zkm 112 (by decide +kernel) rfl
theorem zk114 : (Jvm.Cond.methodLink "ZoneHeap" (99 : Nat) ({ cls := "ZoneHeap", name := "liveHaving", desc := "(I)LZoneHeap$Block;" } : Jvm.MethodName)) ∈ zB := zkm 114 (by decide +kernel) rfl
theorem zk116 : (Jvm.Cond.instanceMethod ({ cls := "ZoneHeap", name := "liveHaving", desc := "(I)LZoneHeap$Block;" } : Jvm.MethodName)) ∈ zB := zkm 116 (by decide +kernel) rfl
theorem zk120 : (Jvm.Cond.instanceMethod ({ cls := "ZoneHeap$Block", name := "has", desc := "(I)Z" } : Jvm.MethodName)) ∈ zB := zkm 120 (by decide +kernel) rfl
theorem zk121 : (Jvm.Cond.instantiable "ZoneHeap$Block" (4 : Nat)) ∈ zB := zkm 121 (by decide +kernel) rfl
theorem zk123 : (Jvm.Cond.methodLink "ZoneHeap" (115 : Nat) ({ cls := "ZoneHeap", name := "reachFromWordsOf", desc := "(LZoneHeap$Block;)V" } : Jvm.MethodName)) ∈ zB := zkm 123 (by decide +kernel) rfl
theorem zk125 : (Jvm.Cond.instanceMethod ({ cls := "ZoneHeap", name := "reachFromWordsOf", desc := "(LZoneHeap$Block;)V" } : Jvm.MethodName)) ∈ zB := zkm 125 (by decide +kernel) rfl
theorem zk127 : (Jvm.Cond.methodLink "ZoneHeap" (105 : Nat) ({ cls := "ZoneHeap", name := "wordAt", desc := "(I)I" } : Jvm.MethodName)) ∈ zB := zkm 127 (by decide +kernel) rfl
theorem zk129 : (Jvm.Cond.instanceMethod ({ cls := "ZoneHeap", name := "wordAt", desc := "(I)I" } : Jvm.MethodName)) ∈ zB := zkm 129 (by decide +kernel) rfl
theorem zk131 : (Jvm.Cond.methodLink "ZoneHeap" (118 : Nat) ({ cls := "ZoneHeap", name := "noteLost", desc := "()V" } : Jvm.MethodName)) ∈ zB := zkm 131 (by decide +kernel) rfl
theorem zk133 : (Jvm.Cond.instanceMethod ({ cls := "ZoneHeap", name := "noteLost", desc := "()V" } : Jvm.MethodName)) ∈ zB := zkm 133 (by decide +kernel) rfl
theorem zk135 : (Jvm.Cond.methodLink "ZoneHeapLaw" (49 : Nat) ({ cls := "ZoneHeapLaw", name := "get", desc := "(LZoneHeap;I[J)I" } : Jvm.MethodName)) ∈ zB := zkm 135 (by decide +kernel) rfl
theorem zk136 : (Jvm.Cond.static ({ cls := "ZoneHeapLaw", name := "get", desc := "(LZoneHeap;I[J)I" } : Jvm.MethodName)) ∈ zB := zkm 136 (by decide +kernel) rfl
theorem zk138 : (Jvm.Cond.classLink "ZoneHeapLaw" (13 : Nat) "java/lang/IllegalArgumentException") ∈ zB := zkm 138 (by decide +kernel) rfl
theorem zk139 : (Jvm.Cond.methodLink "ZoneHeapLaw" (7 : Nat) ({ cls := "ZoneHeap", name := "get", desc := "(I)I" } : Jvm.MethodName)) ∈ zB := zkm 139 (by decide +kernel) rfl
theorem zk140 : (Jvm.Cond.instanceMethod ({ cls := "ZoneHeap", name := "get", desc := "(I)I" } : Jvm.MethodName)) ∈ zB := zkm 140 (by decide +kernel) rfl
theorem zk141 : (Jvm.Cond.selects "ZoneHeap" ({ cls := "ZoneHeap", name := "get", desc := "(I)I" } : Jvm.MethodName) ({ cls := "ZoneHeap", name := "get", desc := "(I)I" } : Jvm.MethodName)) ∈ zB := zkm 141 (by decide +kernel) rfl
theorem zk143 : (Jvm.Cond.methodLink "ZoneHeap" (52 : Nat) ({ cls := "ZoneHeap", name := "refuseWrongSize", desc := "(I)V" } : Jvm.MethodName)) ∈ zB := zkm 143 (by decide +kernel) rfl
theorem zk144 : (Jvm.Cond.static ({ cls := "ZoneHeap", name := "refuseWrongSize", desc := "(I)V" } : Jvm.MethodName)) ∈ zB := zkm 144 (by decide +kernel) rfl
theorem zk146 : (Jvm.Cond.classLink "ZoneHeap" (131 : Nat) "java/lang/IllegalArgumentException") ∈ zB := zkm 146 (by decide +kernel) rfl
theorem zk147 : (Jvm.Cond.instantiable "java/lang/IllegalArgumentException" (6 : Nat)) ∈ zB := zkm 147 (by decide +kernel) rfl
theorem zk155 : (Jvm.Cond.selects "java/lang/IllegalArgumentException" ({ cls := "java/lang/Throwable", name := "fillInStackTrace", desc := "(I)Ljava/lang/Throwable;" } : Jvm.MethodName) ({ cls := "java/lang/Throwable", name := "fillInStackTrace", desc := "(I)Ljava/lang/Throwable;" } : Jvm.MethodName)) ∈ zB := zkm 155 (by decide +kernel) rfl
theorem zk156 : (Jvm.Cond.selects "java/lang/IllegalArgumentException" ({ cls := "java/lang/Throwable", name := "fillInStackTrace", desc := "()Ljava/lang/Throwable;" } : Jvm.MethodName) ({ cls := "java/lang/Throwable", name := "fillInStackTrace", desc := "()Ljava/lang/Throwable;" } : Jvm.MethodName)) ∈ zB := zkm 156 (by decide +kernel) rfl
theorem zk167 : (Jvm.Cond.fieldLink "java/lang/Throwable" (198 : Nat) "java/lang/Throwable" "backtrace" "Ljava/lang/Object;") ∈ zB := zkm 167 (by decide +kernel) rfl
theorem zk169 : (Jvm.Cond.instanceMethod ({ cls := "java/lang/Throwable", name := "<init>", desc := "()V" } : Jvm.MethodName)) ∈ zB := zkm 169 (by decide +kernel) rfl
theorem zk171 : (Jvm.Cond.methodLink "java/lang/Throwable" (1 : Nat) ({ cls := "java/lang/Object", name := "<init>", desc := "()V" } : Jvm.MethodName)) ∈ zB := zkm 171 (by decide +kernel) rfl
theorem zk172 : (Jvm.Cond.fieldLink "java/lang/Throwable" (13 : Nat) "java/lang/Throwable" "UNASSIGNED_STACK" "[Ljava/lang/StackTraceElement;") ∈ zB := zkm 172 (by decide +kernel) rfl
theorem zk174 : (Jvm.Cond.fieldLink "java/lang/Throwable" (20 : Nat) "java/lang/Throwable" "SUPPRESSED_SENTINEL" "Ljava/util/List;") ∈ zB := zkm 174 (by decide +kernel) rfl
theorem zk176 : (Jvm.Cond.methodLink "java/lang/Throwable" (27 : Nat) ({ cls := "java/lang/Throwable", name := "fillInStackTrace", desc := "()Ljava/lang/Throwable;" } : Jvm.MethodName)) ∈ zB := zkm 176 (by decide +kernel) rfl
theorem zk177 : (Jvm.Cond.instanceMethod ({ cls := "java/lang/Throwable", name := "fillInStackTrace", desc := "()Ljava/lang/Throwable;" } : Jvm.MethodName)) ∈ zB := zkm 177 (by decide +kernel) rfl
theorem zk178 : (Jvm.Cond.sameMethod "java/lang/Throwable" "java/lang/Throwable" "fillInStackTrace" "()Ljava/lang/Throwable;") ∈ zB := zkm 178 (by decide +kernel) rfl
theorem zk179 : (Jvm.Cond.selects "java/lang/IllegalStateException" ({ cls := "java/lang/Throwable", name := "fillInStackTrace", desc := "()Ljava/lang/Throwable;" } : Jvm.MethodName) ({ cls := "java/lang/Throwable", name := "fillInStackTrace", desc := "()Ljava/lang/Throwable;" } : Jvm.MethodName)) ∈ zB := zkm 179 (by decide +kernel) rfl
theorem zk180 : (Jvm.Cond.selects "java/lang/IndexOutOfBoundsException" ({ cls := "java/lang/Throwable", name := "fillInStackTrace", desc := "()Ljava/lang/Throwable;" } : Jvm.MethodName) ({ cls := "java/lang/Throwable", name := "fillInStackTrace", desc := "()Ljava/lang/Throwable;" } : Jvm.MethodName)) ∈ zB := zkm 180 (by decide +kernel) rfl
theorem zk182 : (Jvm.Cond.methodLink "java/lang/Throwable" (202 : Nat) ({ cls := "java/lang/Throwable", name := "fillInStackTrace", desc := "(I)Ljava/lang/Throwable;" } : Jvm.MethodName)) ∈ zB := zkm 182 (by decide +kernel) rfl
theorem zk184 : (Jvm.Cond.instanceMethod ({ cls := "java/lang/Throwable", name := "fillInStackTrace", desc := "(I)Ljava/lang/Throwable;" } : Jvm.MethodName)) ∈ zB := zkm 184 (by decide +kernel) rfl
theorem zk185 : (Jvm.Cond.instantiable "java/lang/Throwable" (6 : Nat)) ∈ zB := zkm 185 (by decide +kernel) rfl
theorem zk186 : (Jvm.Cond.native ({ cls := "java/lang/Throwable", name := "fillInStackTrace", desc := "(I)Ljava/lang/Throwable;" } : Jvm.MethodName)) ∈ zB := zkm 186 (by decide +kernel) rfl
theorem zk188 : (Jvm.Cond.methodLink "ZoneHeap" (135 : Nat) ({ cls := "java/lang/IllegalArgumentException", name := "<init>", desc := "(Ljava/lang/String;)V" } : Jvm.MethodName)) ∈ zB := zkm 188 (by decide +kernel) rfl
theorem zk189 : (Jvm.Cond.instanceMethod ({ cls := "java/lang/IllegalArgumentException", name := "<init>", desc := "(Ljava/lang/String;)V" } : Jvm.MethodName)) ∈ zB := zkm 189 (by decide +kernel) rfl
theorem zk191 : (Jvm.Cond.methodLink "java/lang/IllegalArgumentException" (7 : Nat) ({ cls := "java/lang/RuntimeException", name := "<init>", desc := "(Ljava/lang/String;)V" } : Jvm.MethodName)) ∈ zB := zkm 191 (by decide +kernel) rfl
theorem zk192 : (Jvm.Cond.instanceMethod ({ cls := "java/lang/RuntimeException", name := "<init>", desc := "(Ljava/lang/String;)V" } : Jvm.MethodName)) ∈ zB := zkm 192 (by decide +kernel) rfl
theorem zk194 : (Jvm.Cond.methodLink "java/lang/RuntimeException" (7 : Nat) ({ cls := "java/lang/Exception", name := "<init>", desc := "(Ljava/lang/String;)V" } : Jvm.MethodName)) ∈ zB := zkm 194 (by decide +kernel) rfl
theorem zk195 : (Jvm.Cond.instanceMethod ({ cls := "java/lang/Exception", name := "<init>", desc := "(Ljava/lang/String;)V" } : Jvm.MethodName)) ∈ zB := zkm 195 (by decide +kernel) rfl
theorem zk197 : (Jvm.Cond.methodLink "java/lang/Exception" (7 : Nat) ({ cls := "java/lang/Throwable", name := "<init>", desc := "(Ljava/lang/String;)V" } : Jvm.MethodName)) ∈ zB := zkm 197 (by decide +kernel) rfl
theorem zk198 : (Jvm.Cond.instanceMethod ({ cls := "java/lang/Throwable", name := "<init>", desc := "(Ljava/lang/String;)V" } : Jvm.MethodName)) ∈ zB := zkm 198 (by decide +kernel) rfl
theorem zk200 : (Jvm.Cond.fieldLink "java/lang/Throwable" (198 : Nat) "java/lang/Throwable" "backtrace" "Ljava/lang/Object;") ∈ zB := zkm 200 (by decide +kernel) rfl
theorem zk201 : (Jvm.Cond.fieldLink "java/lang/Throwable" (31 : Nat) "java/lang/Throwable" "detailMessage" "Ljava/lang/String;") ∈ zB := zkm 201 (by decide +kernel) rfl
theorem zk202 : (Jvm.Cond.fieldLink "java/lang/Throwable" (7 : Nat) "java/lang/Throwable" "cause" "Ljava/lang/Throwable;") ∈ zB := zkm 202 (by decide +kernel) rfl
theorem zk203 : (Jvm.Cond.fieldLink "java/lang/Throwable" (17 : Nat) "java/lang/Throwable" "stackTrace" "[Ljava/lang/StackTraceElement;") ∈ zB := zkm 203 (by decide +kernel) rfl
theorem zk204 : (Jvm.Cond.fieldLink "java/lang/Throwable" (24 : Nat) "java/lang/Throwable" "suppressedExceptions" "Ljava/util/List;") ∈ zB := zkm 204 (by decide +kernel) rfl
theorem zk213 : (Jvm.Cond.methodLink "ZoneHeap" (56 : Nat) ({ cls := "ZoneHeap", name := "make", desc := "(I)LZoneHeap$Block;" } : Jvm.MethodName)) ∈ zB := zkm 213 (by decide +kernel) rfl
theorem zk215 : (Jvm.Cond.instanceMethod ({ cls := "ZoneHeap", name := "make", desc := "(I)LZoneHeap$Block;" } : Jvm.MethodName)) ∈ zB := zkm 215 (by decide +kernel) rfl
theorem zk217 : (Jvm.Cond.methodLink "ZoneHeap" (157 : Nat) ({ cls := "ZoneHeap", name := "cellsFor", desc := "(I)I" } : Jvm.MethodName)) ∈ zB := zkm 217 (by decide +kernel) rfl
theorem zk218 : (Jvm.Cond.static ({ cls := "ZoneHeap", name := "cellsFor", desc := "(I)I" } : Jvm.MethodName)) ∈ zB := zkm 218 (by decide +kernel) rfl
theorem zk220 : (Jvm.Cond.methodLink "ZoneHeap" (170 : Nat) ({ cls := "java/lang/Math", name := "max", desc := "(II)I" } : Jvm.MethodName)) ∈ zB := zkm 220 (by decide +kernel) rfl
theorem zk221 : (Jvm.Cond.static ({ cls := "java/lang/Math", name := "max", desc := "(II)I" } : Jvm.MethodName)) ∈ zB := zkm 221 (by decide +kernel) rfl
theorem zk223 : (Jvm.Cond.methodLink "ZoneHeap" (160 : Nat) ({ cls := "ZoneHeap", name := "firstRoomFor", desc := "(I)I" } : Jvm.MethodName)) ∈ zB := zkm 223 (by decide +kernel) rfl
theorem zk225 : (Jvm.Cond.instanceMethod ({ cls := "ZoneHeap", name := "firstRoomFor", desc := "(I)I" } : Jvm.MethodName)) ∈ zB := zkm 225 (by decide +kernel) rfl
theorem zk228 : (Jvm.Cond.instanceMethod ({ cls := "ZoneHeap$Block", name := "<init>", desc := "(II)V" } : Jvm.MethodName)) ∈ zB := zkm 228 (by decide +kernel) rfl
theorem zk230 : (Jvm.Cond.methodLink "ZoneHeap$Block" (1 : Nat) ({ cls := "java/lang/Object", name := "<init>", desc := "()V" } : Jvm.MethodName)) ∈ zB := zkm 230 (by decide +kernel) rfl
theorem zk231 : (Jvm.Cond.fieldLink "ZoneHeap$Block" (16 : Nat) "ZoneHeap$Block" "start" "I") ∈ zB := zkm 231 (by decide +kernel) rfl
theorem zk233 : (Jvm.Cond.fieldLink "ZoneHeap$Block" (20 : Nat) "ZoneHeap$Block" "size" "I") ∈ zB := zkm 233 (by decide +kernel) rfl
theorem zk235 : (Jvm.Cond.fieldLink "ZoneHeap$Block" (7 : Nat) "ZoneHeap$Block" "kept" "Z") ∈ zB := zkm 235 (by decide +kernel) rfl
theorem zk237 : (Jvm.Cond.fieldLink "ZoneHeap$Block" (13 : Nat) "ZoneHeap$Block" "reached" "Z") ∈ zB := zkm 237 (by decide +kernel) rfl
theorem zk248 : (Jvm.Cond.methodLink "ZoneHeap" (166 : Nat) ({ cls := "ZoneHeap", name := "setTaker", desc := "(LZoneHeap$Block;LZoneHeap$Block;)V" } : Jvm.MethodName)) ∈ zB := zkm 248 (by decide +kernel) rfl
theorem zk250 : (Jvm.Cond.instanceMethod ({ cls := "ZoneHeap", name := "setTaker", desc := "(LZoneHeap$Block;LZoneHeap$Block;)V" } : Jvm.MethodName)) ∈ zB := zkm 250 (by decide +kernel) rfl
theorem zk252 : (Jvm.Cond.methodLink "ZoneHeapLaw" (59 : Nat) ({ cls := "ZoneHeapLaw", name := "back", desc := "(LZoneHeap;I[J)I" } : Jvm.MethodName)) ∈ zB := zkm 252 (by decide +kernel) rfl
theorem zk253 : (Jvm.Cond.static ({ cls := "ZoneHeapLaw", name := "back", desc := "(LZoneHeap;I[J)I" } : Jvm.MethodName)) ∈ zB := zkm 253 (by decide +kernel) rfl
theorem zk255 : (Jvm.Cond.classLink "ZoneHeapLaw" (18 : Nat) "java/lang/IllegalStateException") ∈ zB := zkm 255 (by decide +kernel) rfl
theorem zk256 : (Jvm.Cond.methodLink "ZoneHeapLaw" (15 : Nat) ({ cls := "ZoneHeap", name := "back", desc := "(I)I" } : Jvm.MethodName)) ∈ zB := zkm 256 (by decide +kernel) rfl
theorem zk257 : (Jvm.Cond.instanceMethod ({ cls := "ZoneHeap", name := "back", desc := "(I)I" } : Jvm.MethodName)) ∈ zB := zkm 257 (by decide +kernel) rfl
theorem zk258 : (Jvm.Cond.selects "ZoneHeap" ({ cls := "ZoneHeap", name := "back", desc := "(I)I" } : Jvm.MethodName) ({ cls := "ZoneHeap", name := "back", desc := "(I)I" } : Jvm.MethodName)) ∈ zB := zkm 258 (by decide +kernel) rfl
theorem zk260 : (Jvm.Cond.methodLink "ZoneHeap" (63 : Nat) ({ cls := "ZoneHeap", name := "liveStandingAt", desc := "(I)LZoneHeap$Block;" } : Jvm.MethodName)) ∈ zB := zkm 260 (by decide +kernel) rfl
theorem zk262 : (Jvm.Cond.instanceMethod ({ cls := "ZoneHeap", name := "liveStandingAt", desc := "(I)LZoneHeap$Block;" } : Jvm.MethodName)) ∈ zB := zkm 262 (by decide +kernel) rfl
theorem zk265 : (Jvm.Cond.classLink "ZoneHeap" (145 : Nat) "java/lang/IllegalStateException") ∈ zB := zkm 265 (by decide +kernel) rfl
theorem zk266 : (Jvm.Cond.instantiable "java/lang/IllegalStateException" (6 : Nat)) ∈ zB := zkm 266 (by decide +kernel) rfl
theorem zk268 : (Jvm.Cond.selects "java/lang/IllegalStateException" ({ cls := "java/lang/Throwable", name := "fillInStackTrace", desc := "(I)Ljava/lang/Throwable;" } : Jvm.MethodName) ({ cls := "java/lang/Throwable", name := "fillInStackTrace", desc := "(I)Ljava/lang/Throwable;" } : Jvm.MethodName)) ∈ zB := zkm 268 (by decide +kernel) rfl
theorem zk275 : (Jvm.Cond.methodLink "ZoneHeap" (149 : Nat) ({ cls := "java/lang/IllegalStateException", name := "<init>", desc := "(Ljava/lang/String;)V" } : Jvm.MethodName)) ∈ zB := zkm 275 (by decide +kernel) rfl
theorem zk276 : (Jvm.Cond.instanceMethod ({ cls := "java/lang/IllegalStateException", name := "<init>", desc := "(Ljava/lang/String;)V" } : Jvm.MethodName)) ∈ zB := zkm 276 (by decide +kernel) rfl
theorem zk278 : (Jvm.Cond.methodLink "java/lang/IllegalStateException" (7 : Nat) ({ cls := "java/lang/RuntimeException", name := "<init>", desc := "(Ljava/lang/String;)V" } : Jvm.MethodName)) ∈ zB := zkm 278 (by decide +kernel) rfl
theorem zk281 : (Jvm.Cond.methodLink "ZoneHeap" (66 : Nat) ({ cls := "ZoneHeap", name := "giveBack", desc := "(LZoneHeap$Block;)V" } : Jvm.MethodName)) ∈ zB := zkm 281 (by decide +kernel) rfl
theorem zk283 : (Jvm.Cond.instanceMethod ({ cls := "ZoneHeap", name := "giveBack", desc := "(LZoneHeap$Block;)V" } : Jvm.MethodName)) ∈ zB := zkm 283 (by decide +kernel) rfl
theorem zk285 : (Jvm.Cond.methodLink "ZoneHeap" (173 : Nat) ({ cls := "java/util/ArrayList", name := "add", desc := "(Ljava/lang/Object;)Z" } : Jvm.MethodName)) ∈ zB := zkm 285 (by decide +kernel) rfl
theorem zk286 : (Jvm.Cond.instanceMethod ({ cls := "java/util/ArrayList", name := "add", desc := "(Ljava/lang/Object;)Z" } : Jvm.MethodName)) ∈ zB := zkm 286 (by decide +kernel) rfl
theorem zk287 : (Jvm.Cond.selects "java/util/ArrayList" ({ cls := "java/util/ArrayList", name := "add", desc := "(Ljava/lang/Object;)Z" } : Jvm.MethodName) ({ cls := "java/util/ArrayList", name := "add", desc := "(Ljava/lang/Object;)Z" } : Jvm.MethodName)) ∈ zB := zkm 287 (by decide +kernel) rfl
theorem zk289 : (Jvm.Cond.methodLink "java/util/ArrayList" (131 : Nat) ({ cls := "java/util/ArrayList", name := "add", desc := "(Ljava/lang/Object;[Ljava/lang/Object;I)V" } : Jvm.MethodName)) ∈ zB := zkm 289 (by decide +kernel) rfl
theorem zk291 : (Jvm.Cond.instanceMethod ({ cls := "java/util/ArrayList", name := "add", desc := "(Ljava/lang/Object;[Ljava/lang/Object;I)V" } : Jvm.MethodName)) ∈ zB := zkm 291 (by decide +kernel) rfl
theorem zk293 : (Jvm.Cond.methodLink "java/util/ArrayList" (129 : Nat) ({ cls := "java/util/ArrayList", name := "grow", desc := "()[Ljava/lang/Object;" } : Jvm.MethodName)) ∈ zB := zkm 293 (by decide +kernel) rfl
theorem zk295 : (Jvm.Cond.instanceMethod ({ cls := "java/util/ArrayList", name := "grow", desc := "()[Ljava/lang/Object;" } : Jvm.MethodName)) ∈ zB := zkm 295 (by decide +kernel) rfl
theorem zk297 : (Jvm.Cond.methodLink "java/util/ArrayList" (69 : Nat) ({ cls := "java/util/ArrayList", name := "grow", desc := "(I)[Ljava/lang/Object;" } : Jvm.MethodName)) ∈ zB := zkm 297 (by decide +kernel) rfl
theorem zk299 : (Jvm.Cond.instanceMethod ({ cls := "java/util/ArrayList", name := "grow", desc := "(I)[Ljava/lang/Object;" } : Jvm.MethodName)) ∈ zB := zkm 299 (by decide +kernel) rfl
theorem zk301 : (Jvm.Cond.methodLink "java/util/ArrayList" (73 : Nat) ({ cls := "jdk/internal/util/ArraysSupport", name := "newLength", desc := "(III)I" } : Jvm.MethodName)) ∈ zB := zkm 301 (by decide +kernel) rfl
theorem zk302 : (Jvm.Cond.static ({ cls := "jdk/internal/util/ArraysSupport", name := "newLength", desc := "(III)I" } : Jvm.MethodName)) ∈ zB := zkm 302 (by decide +kernel) rfl
theorem zk304 : (Jvm.Cond.methodLink "jdk/internal/util/ArraysSupport" (194 : Nat) ({ cls := "java/lang/Math", name := "max", desc := "(II)I" } : Jvm.MethodName)) ∈ zB := zkm 304 (by decide +kernel) rfl
theorem zk305 : (Jvm.Cond.constant "jdk/internal/util/ArraysSupport" (200 : Nat) (2147483639 : Int32)) ∈ zB := zkm 305 (by decide +kernel) rfl
theorem zk306 : (Jvm.Cond.methodLink "jdk/internal/util/ArraysSupport" (201 : Nat) ({ cls := "jdk/internal/util/ArraysSupport", name := "hugeLength", desc := "(II)I" } : Jvm.MethodName)) ∈ zB := zkm 306 (by decide +kernel) rfl
theorem zk307 : (Jvm.Cond.static ({ cls := "jdk/internal/util/ArraysSupport", name := "hugeLength", desc := "(II)I" } : Jvm.MethodName)) ∈ zB := zkm 307 (by decide +kernel) rfl
theorem zk309 : (Jvm.Cond.methodLink "java/util/ArrayList" (66 : Nat) ({ cls := "java/util/Arrays", name := "copyOf", desc := "([Ljava/lang/Object;I)[Ljava/lang/Object;" } : Jvm.MethodName)) ∈ zB := zkm 309 (by decide +kernel) rfl
theorem zk310 : (Jvm.Cond.static ({ cls := "java/util/Arrays", name := "copyOf", desc := "([Ljava/lang/Object;I)[Ljava/lang/Object;" } : Jvm.MethodName)) ∈ zB := zkm 310 (by decide +kernel) rfl
theorem zk312 : (Jvm.Cond.methodLink "java/util/Arrays" (86 : Nat) ({ cls := "java/lang/Object", name := "getClass", desc := "()Ljava/lang/Class;" } : Jvm.MethodName)) ∈ zB := zkm 312 (by decide +kernel) rfl
theorem zk313 : (Jvm.Cond.instanceMethod ({ cls := "java/lang/Object", name := "getClass", desc := "()Ljava/lang/Class;" } : Jvm.MethodName)) ∈ zB := zkm 313 (by decide +kernel) rfl
theorem zk314 : (Jvm.Cond.sameMethod "java/lang/Object" "java/lang/Object" "getClass" "()Ljava/lang/Class;") ∈ zB := zkm 314 (by decide +kernel) rfl
theorem zk315 : (Jvm.Cond.selects "ZoneHeap" ({ cls := "java/lang/Object", name := "getClass", desc := "()Ljava/lang/Class;" } : Jvm.MethodName) ({ cls := "java/lang/Object", name := "getClass", desc := "()Ljava/lang/Class;" } : Jvm.MethodName)) ∈ zB := zkm 315 (by decide +kernel) rfl
theorem zk316 : (Jvm.Cond.selects "ZoneHeap$Block" ({ cls := "java/lang/Object", name := "getClass", desc := "()Ljava/lang/Class;" } : Jvm.MethodName) ({ cls := "java/lang/Object", name := "getClass", desc := "()Ljava/lang/Class;" } : Jvm.MethodName)) ∈ zB := zkm 316 (by decide +kernel) rfl
theorem zk317 : (Jvm.Cond.selects "ZoneHeapModel" ({ cls := "java/lang/Object", name := "getClass", desc := "()Ljava/lang/Class;" } : Jvm.MethodName) ({ cls := "java/lang/Object", name := "getClass", desc := "()Ljava/lang/Class;" } : Jvm.MethodName)) ∈ zB := zkm 317 (by decide +kernel) rfl
theorem zk318 : (Jvm.Cond.selects "java/lang/IllegalArgumentException" ({ cls := "java/lang/Object", name := "getClass", desc := "()Ljava/lang/Class;" } : Jvm.MethodName) ({ cls := "java/lang/Object", name := "getClass", desc := "()Ljava/lang/Class;" } : Jvm.MethodName)) ∈ zB := zkm 318 (by decide +kernel) rfl
theorem zk319 : (Jvm.Cond.selects "java/lang/IllegalStateException" ({ cls := "java/lang/Object", name := "getClass", desc := "()Ljava/lang/Class;" } : Jvm.MethodName) ({ cls := "java/lang/Object", name := "getClass", desc := "()Ljava/lang/Class;" } : Jvm.MethodName)) ∈ zB := zkm 319 (by decide +kernel) rfl
theorem zk320 : (Jvm.Cond.selects "java/lang/IndexOutOfBoundsException" ({ cls := "java/lang/Object", name := "getClass", desc := "()Ljava/lang/Class;" } : Jvm.MethodName) ({ cls := "java/lang/Object", name := "getClass", desc := "()Ljava/lang/Class;" } : Jvm.MethodName)) ∈ zB := zkm 320 (by decide +kernel) rfl
theorem zk321 : (Jvm.Cond.selects "java/util/ArrayList" ({ cls := "java/lang/Object", name := "getClass", desc := "()Ljava/lang/Class;" } : Jvm.MethodName) ({ cls := "java/lang/Object", name := "getClass", desc := "()Ljava/lang/Class;" } : Jvm.MethodName)) ∈ zB := zkm 321 (by decide +kernel) rfl
theorem zk322 : (Jvm.Cond.native ({ cls := "java/lang/Object", name := "getClass", desc := "()Ljava/lang/Class;" } : Jvm.MethodName)) ∈ zB := zkm 322 (by decide +kernel) rfl
theorem zk323 : (Jvm.Cond.methodLink "java/util/Arrays" (300 : Nat) ({ cls := "java/util/Arrays", name := "copyOf", desc := "([Ljava/lang/Object;ILjava/lang/Class;)[Ljava/lang/Object;" } : Jvm.MethodName)) ∈ zB := zkm 323 (by decide +kernel) rfl
theorem zk324 : (Jvm.Cond.static ({ cls := "java/util/Arrays", name := "copyOf", desc := "([Ljava/lang/Object;ILjava/lang/Class;)[Ljava/lang/Object;" } : Jvm.MethodName)) ∈ zB := zkm 324 (by decide +kernel) rfl
theorem zk326 : (Jvm.Cond.classLink "java/util/Arrays" (110 : Nat) "[Ljava/lang/Object;") ∈ zB := zkm 326 (by decide +kernel) rfl
theorem zk328 : (Jvm.Cond.classLink "java/util/Arrays" (2 : Nat) "java/lang/Object") ∈ zB := zkm 328 (by decide +kernel) rfl
theorem zk329 : (Jvm.Cond.methodLink "java/util/Arrays" (304 : Nat) ({ cls := "java/lang/Math", name := "min", desc := "(II)I" } : Jvm.MethodName)) ∈ zB := zkm 329 (by decide +kernel) rfl
theorem zk330 : (Jvm.Cond.static ({ cls := "java/lang/Math", name := "min", desc := "(II)I" } : Jvm.MethodName)) ∈ zB := zkm 330 (by decide +kernel) rfl
theorem zk332 : (Jvm.Cond.methodLink "java/util/Arrays" (150 : Nat) ({ cls := "java/lang/System", name := "arraycopy", desc := "(Ljava/lang/Object;ILjava/lang/Object;II)V" } : Jvm.MethodName)) ∈ zB := zkm 332 (by decide +kernel) rfl
theorem zk333 : (Jvm.Cond.static ({ cls := "java/lang/System", name := "arraycopy", desc := "(Ljava/lang/Object;ILjava/lang/Object;II)V" } : Jvm.MethodName)) ∈ zB := zkm 333 (by decide +kernel) rfl
theorem zk334 : (Jvm.Cond.native ({ cls := "java/lang/System", name := "arraycopy", desc := "(Ljava/lang/Object;ILjava/lang/Object;II)V" } : Jvm.MethodName)) ∈ zB := zkm 334 (by decide +kernel) rfl
theorem zk335 : (Jvm.Cond.methodLink "java/util/ArrayList" (79 : Nat) ({ cls := "java/lang/Math", name := "max", desc := "(II)I" } : Jvm.MethodName)) ∈ zB := zkm 335 (by decide +kernel) rfl
theorem zk336 : (Jvm.Cond.classLink "java/util/ArrayList" (7 : Nat) "java/lang/Object") ∈ zB := zkm 336 (by decide +kernel) rfl
theorem zk337 : (Jvm.Cond.methodLink "ZoneHeap" (128 : Nat) ({ cls := "java/util/ArrayList", name := "size", desc := "()I" } : Jvm.MethodName)) ∈ zB := zkm 337 (by decide +kernel) rfl
theorem zk338 : (Jvm.Cond.instanceMethod ({ cls := "java/util/ArrayList", name := "size", desc := "()I" } : Jvm.MethodName)) ∈ zB := zkm 338 (by decide +kernel) rfl
theorem zk339 : (Jvm.Cond.selects "java/util/ArrayList" ({ cls := "java/util/ArrayList", name := "size", desc := "()I" } : Jvm.MethodName) ({ cls := "java/util/ArrayList", name := "size", desc := "()I" } : Jvm.MethodName)) ∈ zB := zkm 339 (by decide +kernel) rfl
theorem zk341 : (Jvm.Cond.methodLink "ZoneHeap" (177 : Nat) ({ cls := "ZoneHeap", name := "dropOldestKept", desc := "()V" } : Jvm.MethodName)) ∈ zB := zkm 341 (by decide +kernel) rfl
theorem zk343 : (Jvm.Cond.instanceMethod ({ cls := "ZoneHeap", name := "dropOldestKept", desc := "()V" } : Jvm.MethodName)) ∈ zB := zkm 343 (by decide +kernel) rfl
theorem zk345 : (Jvm.Cond.methodLink "ZoneHeap" (180 : Nat) ({ cls := "java/util/ArrayList", name := "isEmpty", desc := "()Z" } : Jvm.MethodName)) ∈ zB := zkm 345 (by decide +kernel) rfl
theorem zk346 : (Jvm.Cond.instanceMethod ({ cls := "java/util/ArrayList", name := "isEmpty", desc := "()Z" } : Jvm.MethodName)) ∈ zB := zkm 346 (by decide +kernel) rfl
theorem zk347 : (Jvm.Cond.selects "java/util/ArrayList" ({ cls := "java/util/ArrayList", name := "isEmpty", desc := "()Z" } : Jvm.MethodName) ({ cls := "java/util/ArrayList", name := "isEmpty", desc := "()Z" } : Jvm.MethodName)) ∈ zB := zkm 347 (by decide +kernel) rfl
theorem zk349 : (Jvm.Cond.methodLink "ZoneHeap" (184 : Nat) ({ cls := "java/util/ArrayList", name := "remove", desc := "(I)Ljava/lang/Object;" } : Jvm.MethodName)) ∈ zB := zkm 349 (by decide +kernel) rfl
theorem zk350 : (Jvm.Cond.instanceMethod ({ cls := "java/util/ArrayList", name := "remove", desc := "(I)Ljava/lang/Object;" } : Jvm.MethodName)) ∈ zB := zkm 350 (by decide +kernel) rfl
theorem zk351 : (Jvm.Cond.selects "java/util/ArrayList" ({ cls := "java/util/ArrayList", name := "remove", desc := "(I)Ljava/lang/Object;" } : Jvm.MethodName) ({ cls := "java/util/ArrayList", name := "remove", desc := "(I)Ljava/lang/Object;" } : Jvm.MethodName)) ∈ zB := zkm 351 (by decide +kernel) rfl
theorem zk353 : (Jvm.Cond.methodLink "java/util/ArrayList" (118 : Nat) ({ cls := "java/util/Objects", name := "checkIndex", desc := "(II)I" } : Jvm.MethodName)) ∈ zB := zkm 353 (by decide +kernel) rfl
theorem zk354 : (Jvm.Cond.static ({ cls := "java/util/Objects", name := "checkIndex", desc := "(II)I" } : Jvm.MethodName)) ∈ zB := zkm 354 (by decide +kernel) rfl
theorem zk356 : (Jvm.Cond.methodLink "java/util/Objects" (105 : Nat) ({ cls := "jdk/internal/util/Preconditions", name := "checkIndex", desc := "(IILjava/util/function/BiFunction;)I" } : Jvm.MethodName)) ∈ zB := zkm 356 (by decide +kernel) rfl
theorem zk357 : (Jvm.Cond.static ({ cls := "jdk/internal/util/Preconditions", name := "checkIndex", desc := "(IILjava/util/function/BiFunction;)I" } : Jvm.MethodName)) ∈ zB := zkm 357 (by decide +kernel) rfl
theorem zk359 : (Jvm.Cond.methodLink "java/util/ArrayList" (144 : Nat) ({ cls := "java/util/ArrayList", name := "fastRemove", desc := "([Ljava/lang/Object;I)V" } : Jvm.MethodName)) ∈ zB := zkm 359 (by decide +kernel) rfl
theorem zk361 : (Jvm.Cond.instanceMethod ({ cls := "java/util/ArrayList", name := "fastRemove", desc := "([Ljava/lang/Object;I)V" } : Jvm.MethodName)) ∈ zB := zkm 361 (by decide +kernel) rfl
theorem zk363 : (Jvm.Cond.methodLink "java/util/ArrayList" (112 : Nat) ({ cls := "java/lang/System", name := "arraycopy", desc := "(Ljava/lang/Object;ILjava/lang/Object;II)V" } : Jvm.MethodName)) ∈ zB := zkm 363 (by decide +kernel) rfl
theorem zk364 : (Jvm.Cond.methodLink "ZoneHeapLaw" (62 : Nat) ({ cls := "ZoneHeapLaw", name := "again", desc := "(LZoneHeap;II[J)I" } : Jvm.MethodName)) ∈ zB := zkm 364 (by decide +kernel) rfl
theorem zk365 : (Jvm.Cond.static ({ cls := "ZoneHeapLaw", name := "again", desc := "(LZoneHeap;II[J)I" } : Jvm.MethodName)) ∈ zB := zkm 365 (by decide +kernel) rfl
theorem zk367 : (Jvm.Cond.methodLink "ZoneHeapLaw" (20 : Nat) ({ cls := "ZoneHeap", name := "again", desc := "(II)I" } : Jvm.MethodName)) ∈ zB := zkm 367 (by decide +kernel) rfl
theorem zk368 : (Jvm.Cond.instanceMethod ({ cls := "ZoneHeap", name := "again", desc := "(II)I" } : Jvm.MethodName)) ∈ zB := zkm 368 (by decide +kernel) rfl
theorem zk369 : (Jvm.Cond.selects "ZoneHeap" ({ cls := "ZoneHeap", name := "again", desc := "(II)I" } : Jvm.MethodName) ({ cls := "ZoneHeap", name := "again", desc := "(II)I" } : Jvm.MethodName)) ∈ zB := zkm 369 (by decide +kernel) rfl
theorem zk371 : (Jvm.Cond.methodLink "ZoneHeap" (73 : Nat) ({ cls := "java/lang/Math", name := "min", desc := "(II)I" } : Jvm.MethodName)) ∈ zB := zkm 371 (by decide +kernel) rfl
theorem zk372 : (Jvm.Cond.methodLink "ZoneHeap" (79 : Nat) ({ cls := "java/lang/System", name := "arraycopy", desc := "(Ljava/lang/Object;ILjava/lang/Object;II)V" } : Jvm.MethodName)) ∈ zB := zkm 372 (by decide +kernel) rfl
theorem zk373 : (Jvm.Cond.methodLink "ZoneHeapLaw" (66 : Nat) ({ cls := "ZoneHeapLaw", name := "kind", desc := "(LZoneHeap;I[J)I" } : Jvm.MethodName)) ∈ zB := zkm 373 (by decide +kernel) rfl
theorem zk374 : (Jvm.Cond.static ({ cls := "ZoneHeapLaw", name := "kind", desc := "(LZoneHeap;I[J)I" } : Jvm.MethodName)) ∈ zB := zkm 374 (by decide +kernel) rfl
theorem zk376 : (Jvm.Cond.classLink "ZoneHeapLaw" (27 : Nat) "java/lang/IndexOutOfBoundsException") ∈ zB := zkm 376 (by decide +kernel) rfl
theorem zk377 : (Jvm.Cond.methodLink "ZoneHeapLaw" (24 : Nat) ({ cls := "ZoneHeap", name := "kind", desc := "(I)I" } : Jvm.MethodName)) ∈ zB := zkm 377 (by decide +kernel) rfl
theorem zk378 : (Jvm.Cond.instanceMethod ({ cls := "ZoneHeap", name := "kind", desc := "(I)I" } : Jvm.MethodName)) ∈ zB := zkm 378 (by decide +kernel) rfl
theorem zk379 : (Jvm.Cond.selects "ZoneHeap" ({ cls := "ZoneHeap", name := "kind", desc := "(I)I" } : Jvm.MethodName) ({ cls := "ZoneHeap", name := "kind", desc := "(I)I" } : Jvm.MethodName)) ∈ zB := zkm 379 (by decide +kernel) rfl
theorem zk381 : (Jvm.Cond.methodLink "ZoneHeap" (85 : Nat) ({ cls := "ZoneHeap", name := "refuseWrongOctet", desc := "(I)V" } : Jvm.MethodName)) ∈ zB := zkm 381 (by decide +kernel) rfl
theorem zk382 : (Jvm.Cond.static ({ cls := "ZoneHeap", name := "refuseWrongOctet", desc := "(I)V" } : Jvm.MethodName)) ∈ zB := zkm 382 (by decide +kernel) rfl
theorem zk384 : (Jvm.Cond.classLink "ZoneHeap" (121 : Nat) "java/lang/IndexOutOfBoundsException") ∈ zB := zkm 384 (by decide +kernel) rfl
theorem zk385 : (Jvm.Cond.instantiable "java/lang/IndexOutOfBoundsException" (6 : Nat)) ∈ zB := zkm 385 (by decide +kernel) rfl
theorem zk387 : (Jvm.Cond.selects "java/lang/IndexOutOfBoundsException" ({ cls := "java/lang/Throwable", name := "fillInStackTrace", desc := "(I)Ljava/lang/Throwable;" } : Jvm.MethodName) ({ cls := "java/lang/Throwable", name := "fillInStackTrace", desc := "(I)Ljava/lang/Throwable;" } : Jvm.MethodName)) ∈ zB := zkm 387 (by decide +kernel) rfl
theorem zk394 : (Jvm.Cond.methodLink "ZoneHeap" (125 : Nat) ({ cls := "java/lang/IndexOutOfBoundsException", name := "<init>", desc := "(Ljava/lang/String;)V" } : Jvm.MethodName)) ∈ zB := zkm 394 (by decide +kernel) rfl
theorem zk395 : (Jvm.Cond.instanceMethod ({ cls := "java/lang/IndexOutOfBoundsException", name := "<init>", desc := "(Ljava/lang/String;)V" } : Jvm.MethodName)) ∈ zB := zkm 395 (by decide +kernel) rfl
theorem zk397 : (Jvm.Cond.methodLink "java/lang/IndexOutOfBoundsException" (7 : Nat) ({ cls := "java/lang/RuntimeException", name := "<init>", desc := "(Ljava/lang/String;)V" } : Jvm.MethodName)) ∈ zB := zkm 397 (by decide +kernel) rfl
theorem zk400 : (Jvm.Cond.methodLink "ZoneHeap" (88 : Nat) ({ cls := "ZoneHeap", name := "isTaken", desc := "(I)Z" } : Jvm.MethodName)) ∈ zB := zkm 400 (by decide +kernel) rfl
theorem zk402 : (Jvm.Cond.instanceMethod ({ cls := "ZoneHeap", name := "isTaken", desc := "(I)Z" } : Jvm.MethodName)) ∈ zB := zkm 402 (by decide +kernel) rfl
theorem zk404 : (Jvm.Cond.methodLink "ZoneHeapLaw" (69 : Nat) ({ cls := "ZoneHeapLaw", name := "block", desc := "(LZoneHeap;I[J)I" } : Jvm.MethodName)) ∈ zB := zkm 404 (by decide +kernel) rfl
theorem zk405 : (Jvm.Cond.static ({ cls := "ZoneHeapLaw", name := "block", desc := "(LZoneHeap;I[J)I" } : Jvm.MethodName)) ∈ zB := zkm 405 (by decide +kernel) rfl
theorem zk407 : (Jvm.Cond.methodLink "ZoneHeapLaw" (29 : Nat) ({ cls := "ZoneHeap", name := "block", desc := "(I)I" } : Jvm.MethodName)) ∈ zB := zkm 407 (by decide +kernel) rfl
theorem zk408 : (Jvm.Cond.instanceMethod ({ cls := "ZoneHeap", name := "block", desc := "(I)I" } : Jvm.MethodName)) ∈ zB := zkm 408 (by decide +kernel) rfl
theorem zk409 : (Jvm.Cond.selects "ZoneHeap" ({ cls := "ZoneHeap", name := "block", desc := "(I)I" } : Jvm.MethodName) ({ cls := "ZoneHeap", name := "block", desc := "(I)I" } : Jvm.MethodName)) ∈ zB := zkm 409 (by decide +kernel) rfl
theorem zk411 : (Jvm.Cond.methodLink "ZoneHeapLaw" (72 : Nat) ({ cls := "ZoneHeapLaw", name := "write", desc := "(LZoneHeap;II)I" } : Jvm.MethodName)) ∈ zB := zkm 411 (by decide +kernel) rfl
theorem zk412 : (Jvm.Cond.static ({ cls := "ZoneHeapLaw", name := "write", desc := "(LZoneHeap;II)I" } : Jvm.MethodName)) ∈ zB := zkm 412 (by decide +kernel) rfl
theorem zk414 : (Jvm.Cond.methodLink "ZoneHeapLaw" (32 : Nat) ({ cls := "ZoneHeap", name := "write", desc := "(II)V" } : Jvm.MethodName)) ∈ zB := zkm 414 (by decide +kernel) rfl
theorem zk415 : (Jvm.Cond.instanceMethod ({ cls := "ZoneHeap", name := "write", desc := "(II)V" } : Jvm.MethodName)) ∈ zB := zkm 415 (by decide +kernel) rfl
theorem zk416 : (Jvm.Cond.selects "ZoneHeap" ({ cls := "ZoneHeap", name := "write", desc := "(II)V" } : Jvm.MethodName) ({ cls := "ZoneHeap", name := "write", desc := "(II)V" } : Jvm.MethodName)) ∈ zB := zkm 416 (by decide +kernel) rfl
theorem zk418 : (Jvm.Cond.methodLink "ZoneHeap" (102 : Nat) ({ cls := "ZoneHeap", name := "refuseWrongWord", desc := "(I)V" } : Jvm.MethodName)) ∈ zB := zkm 418 (by decide +kernel) rfl
theorem zk420 : (Jvm.Cond.instanceMethod ({ cls := "ZoneHeap", name := "refuseWrongWord", desc := "(I)V" } : Jvm.MethodName)) ∈ zB := zkm 420 (by decide +kernel) rfl
theorem zk424 : (Jvm.Cond.methodLink "ZoneHeapLaw" (76 : Nat) ({ cls := "ZoneHeapLaw", name := "read", desc := "(LZoneHeap;I[J)I" } : Jvm.MethodName)) ∈ zB := zkm 424 (by decide +kernel) rfl
theorem zk425 : (Jvm.Cond.static ({ cls := "ZoneHeapLaw", name := "read", desc := "(LZoneHeap;I[J)I" } : Jvm.MethodName)) ∈ zB := zkm 425 (by decide +kernel) rfl
theorem zk427 : (Jvm.Cond.methodLink "ZoneHeapLaw" (36 : Nat) ({ cls := "ZoneHeap", name := "read", desc := "(I)I" } : Jvm.MethodName)) ∈ zB := zkm 427 (by decide +kernel) rfl
theorem zk428 : (Jvm.Cond.instanceMethod ({ cls := "ZoneHeap", name := "read", desc := "(I)I" } : Jvm.MethodName)) ∈ zB := zkm 428 (by decide +kernel) rfl
theorem zk429 : (Jvm.Cond.selects "ZoneHeap" ({ cls := "ZoneHeap", name := "read", desc := "(I)I" } : Jvm.MethodName) ({ cls := "ZoneHeap", name := "read", desc := "(I)I" } : Jvm.MethodName)) ∈ zB := zkm 429 (by decide +kernel) rfl
theorem zk431 : (Jvm.Cond.methodLink "ZoneHeapLaw" (83 : Nat) ({ cls := "ZoneHeapLaw", name := "lostAt", desc := "(LZoneHeap;I[J)I" } : Jvm.MethodName)) ∈ zB := zkm 431 (by decide +kernel) rfl
theorem zk432 : (Jvm.Cond.static ({ cls := "ZoneHeapLaw", name := "lostAt", desc := "(LZoneHeap;I[J)I" } : Jvm.MethodName)) ∈ zB := zkm 432 (by decide +kernel) rfl
theorem zk434 : (Jvm.Cond.methodLink "ZoneHeapLaw" (39 : Nat) ({ cls := "ZoneHeap", name := "lostAt", desc := "(I)I" } : Jvm.MethodName)) ∈ zB := zkm 434 (by decide +kernel) rfl
theorem zk435 : (Jvm.Cond.instanceMethod ({ cls := "ZoneHeap", name := "lostAt", desc := "(I)I" } : Jvm.MethodName)) ∈ zB := zkm 435 (by decide +kernel) rfl
theorem zk436 : (Jvm.Cond.selects "ZoneHeap" ({ cls := "ZoneHeap", name := "lostAt", desc := "(I)I" } : Jvm.MethodName) ({ cls := "ZoneHeap", name := "lostAt", desc := "(I)I" } : Jvm.MethodName)) ∈ zB := zkm 436 (by decide +kernel) rfl
theorem zk439 : (Jvm.Cond.methodLink "ZoneHeapLaw" (86 : Nat) ({ cls := "ZoneHeapLaw", name := "count", desc := "(LZoneHeap;I[J)I" } : Jvm.MethodName)) ∈ zB := zkm 439 (by decide +kernel) rfl
theorem zk440 : (Jvm.Cond.static ({ cls := "ZoneHeapLaw", name := "count", desc := "(LZoneHeap;I[J)I" } : Jvm.MethodName)) ∈ zB := zkm 440 (by decide +kernel) rfl
theorem zk442 : (Jvm.Cond.methodLink "ZoneHeapLaw" (42 : Nat) ({ cls := "ZoneHeap", name := "count", desc := "(I)I" } : Jvm.MethodName)) ∈ zB := zkm 442 (by decide +kernel) rfl
theorem zk443 : (Jvm.Cond.instanceMethod ({ cls := "ZoneHeap", name := "count", desc := "(I)I" } : Jvm.MethodName)) ∈ zB := zkm 443 (by decide +kernel) rfl
theorem zk444 : (Jvm.Cond.selects "ZoneHeap" ({ cls := "ZoneHeap", name := "count", desc := "(I)I" } : Jvm.MethodName) ({ cls := "ZoneHeap", name := "count", desc := "(I)I" } : Jvm.MethodName)) ∈ zB := zkm 444 (by decide +kernel) rfl
theorem zk447 : (Jvm.Cond.classLink "ZoneHeapLaw" (46 : Nat) "ZoneHeapModel") ∈ zB := zkm 447 (by decide +kernel) rfl
theorem zk448 : (Jvm.Cond.instantiable "ZoneHeapModel" (12 : Nat)) ∈ zB := zkm 448 (by decide +kernel) rfl
theorem zk449 : (Jvm.Cond.methodLink "ZoneHeapLaw" (48 : Nat) ({ cls := "ZoneHeapModel", name := "<init>", desc := "()V" } : Jvm.MethodName)) ∈ zB := zkm 449 (by decide +kernel) rfl
theorem zk450 : (Jvm.Cond.instanceMethod ({ cls := "ZoneHeapModel", name := "<init>", desc := "()V" } : Jvm.MethodName)) ∈ zB := zkm 450 (by decide +kernel) rfl
theorem zk452 : (Jvm.Cond.methodLink "ZoneHeapModel" (1 : Nat) ({ cls := "java/lang/Object", name := "<init>", desc := "()V" } : Jvm.MethodName)) ∈ zB := zkm 452 (by decide +kernel) rfl
theorem zk453 : (Jvm.Cond.fieldLink "ZoneHeapModel" (32 : Nat) "ZoneHeapModel" "err" "I") ∈ zB := zkm 453 (by decide +kernel) rfl
theorem zk454 : (Jvm.Cond.fieldLink "ZoneHeapModel" (7 : Nat) "ZoneHeapModel" "octet" "[I") ∈ zB := zkm 454 (by decide +kernel) rfl
theorem zk455 : (Jvm.Cond.fieldLink "ZoneHeapModel" (13 : Nat) "ZoneHeapModel" "place" "[I") ∈ zB := zkm 455 (by decide +kernel) rfl
theorem zk456 : (Jvm.Cond.fieldLink "ZoneHeapModel" (16 : Nat) "ZoneHeapModel" "size" "[I") ∈ zB := zkm 456 (by decide +kernel) rfl
theorem zk457 : (Jvm.Cond.fieldLink "ZoneHeapModel" (19 : Nat) "ZoneHeapModel" "state" "[I") ∈ zB := zkm 457 (by decide +kernel) rfl
theorem zk458 : (Jvm.Cond.fieldLink "ZoneHeapModel" (22 : Nat) "ZoneHeapModel" "since" "[I") ∈ zB := zkm 458 (by decide +kernel) rfl
theorem zk459 : (Jvm.Cond.fieldLink "ZoneHeapModel" (25 : Nat) "ZoneHeapModel" "reached" "[Z") ∈ zB := zkm 459 (by decide +kernel) rfl
theorem zk460 : (Jvm.Cond.fieldLink "ZoneHeapModel" (29 : Nat) "ZoneHeapModel" "found" "[I") ∈ zB := zkm 460 (by decide +kernel) rfl
theorem zk461 : (Jvm.Cond.fieldLink "ZoneHeapModel" (40 : Nat) "ZoneHeapModel" "many" "I") ∈ zB := zkm 461 (by decide +kernel) rfl
theorem zk462 : (Jvm.Cond.fieldLink "ZoneHeapModel" (46 : Nat) "ZoneHeapModel" "made" "I") ∈ zB := zkm 462 (by decide +kernel) rfl
theorem zk463 : (Jvm.Cond.fieldLink "ZoneHeapModel" (49 : Nat) "ZoneHeapModel" "backs" "I") ∈ zB := zkm 463 (by decide +kernel) rfl
theorem zk464 : (Jvm.Cond.fieldLink "ZoneHeapModel" (87 : Nat) "ZoneHeapModel" "lostMany" "I") ∈ zB := zkm 464 (by decide +kernel) rfl
theorem zk490 : (Jvm.Cond.arrayClass Jvm.ClassFile.FieldType.boolean) ∈ zB := zkm 490 (by decide +kernel) rfl
theorem zk491 : (Jvm.Cond.methodLink "ZoneHeapLaw" (55 : Nat) ({ cls := "ZoneHeapModel", name := "thrown", desc := "()I" } : Jvm.MethodName)) ∈ zB := zkm 491 (by decide +kernel) rfl
theorem zk492 : (Jvm.Cond.instanceMethod ({ cls := "ZoneHeapModel", name := "thrown", desc := "()I" } : Jvm.MethodName)) ∈ zB := zkm 492 (by decide +kernel) rfl
theorem zk493 : (Jvm.Cond.selects "ZoneHeapModel" ({ cls := "ZoneHeapModel", name := "thrown", desc := "()I" } : Jvm.MethodName) ({ cls := "ZoneHeapModel", name := "thrown", desc := "()I" } : Jvm.MethodName)) ∈ zB := zkm 493 (by decide +kernel) rfl
theorem zk495 : (Jvm.Cond.methodLink "ZoneHeapLaw" (54 : Nat) ({ cls := "ZoneHeapModel", name := "get", desc := "(I)I" } : Jvm.MethodName)) ∈ zB := zkm 495 (by decide +kernel) rfl
theorem zk496 : (Jvm.Cond.instanceMethod ({ cls := "ZoneHeapModel", name := "get", desc := "(I)I" } : Jvm.MethodName)) ∈ zB := zkm 496 (by decide +kernel) rfl
theorem zk497 : (Jvm.Cond.selects "ZoneHeapModel" ({ cls := "ZoneHeapModel", name := "get", desc := "(I)I" } : Jvm.MethodName) ({ cls := "ZoneHeapModel", name := "get", desc := "(I)I" } : Jvm.MethodName)) ∈ zB := zkm 497 (by decide +kernel) rfl
theorem zk499 : (Jvm.Cond.methodLink "ZoneHeapModel" (56 : Nat) ({ cls := "ZoneHeapModel", name := "fails", desc := "(ZI)Z" } : Jvm.MethodName)) ∈ zB := zkm 499 (by decide +kernel) rfl
theorem zk501 : (Jvm.Cond.instanceMethod ({ cls := "ZoneHeapModel", name := "fails", desc := "(ZI)Z" } : Jvm.MethodName)) ∈ zB := zkm 501 (by decide +kernel) rfl
theorem zk503 : (Jvm.Cond.methodLink "ZoneHeapModel" (60 : Nat) ({ cls := "ZoneHeapModel", name := "make", desc := "(I)I" } : Jvm.MethodName)) ∈ zB := zkm 503 (by decide +kernel) rfl
theorem zk505 : (Jvm.Cond.instanceMethod ({ cls := "ZoneHeapModel", name := "make", desc := "(I)I" } : Jvm.MethodName)) ∈ zB := zkm 505 (by decide +kernel) rfl
theorem zk507 : (Jvm.Cond.methodLink "ZoneHeapModel" (43 : Nat) ({ cls := "ZoneHeapModel", name := "room", desc := "(I)I" } : Jvm.MethodName)) ∈ zB := zkm 507 (by decide +kernel) rfl
theorem zk509 : (Jvm.Cond.instanceMethod ({ cls := "ZoneHeapModel", name := "room", desc := "(I)I" } : Jvm.MethodName)) ∈ zB := zkm 509 (by decide +kernel) rfl
theorem zk511 : (Jvm.Cond.methodLink "ZoneHeapModel" (36 : Nat) ({ cls := "ZoneHeapModel", name := "taken", desc := "(I)I" } : Jvm.MethodName)) ∈ zB := zkm 511 (by decide +kernel) rfl
theorem zk512 : (Jvm.Cond.static ({ cls := "ZoneHeapModel", name := "taken", desc := "(I)I" } : Jvm.MethodName)) ∈ zB := zkm 512 (by decide +kernel) rfl
theorem zk514 : (Jvm.Cond.methodLink "ZoneHeapLaw" (61 : Nat) ({ cls := "ZoneHeapModel", name := "back", desc := "(I)I" } : Jvm.MethodName)) ∈ zB := zkm 514 (by decide +kernel) rfl
theorem zk515 : (Jvm.Cond.instanceMethod ({ cls := "ZoneHeapModel", name := "back", desc := "(I)I" } : Jvm.MethodName)) ∈ zB := zkm 515 (by decide +kernel) rfl
theorem zk516 : (Jvm.Cond.selects "ZoneHeapModel" ({ cls := "ZoneHeapModel", name := "back", desc := "(I)I" } : Jvm.MethodName) ({ cls := "ZoneHeapModel", name := "back", desc := "(I)I" } : Jvm.MethodName)) ∈ zB := zkm 516 (by decide +kernel) rfl
theorem zk518 : (Jvm.Cond.methodLink "ZoneHeapModel" (63 : Nat) ({ cls := "ZoneHeapModel", name := "at", desc := "(II)I" } : Jvm.MethodName)) ∈ zB := zkm 518 (by decide +kernel) rfl
theorem zk520 : (Jvm.Cond.instanceMethod ({ cls := "ZoneHeapModel", name := "at", desc := "(II)I" } : Jvm.MethodName)) ∈ zB := zkm 520 (by decide +kernel) rfl
theorem zk522 : (Jvm.Cond.methodLink "ZoneHeapModel" (67 : Nat) ({ cls := "ZoneHeapModel", name := "give", desc := "(I)V" } : Jvm.MethodName)) ∈ zB := zkm 522 (by decide +kernel) rfl
theorem zk524 : (Jvm.Cond.instanceMethod ({ cls := "ZoneHeapModel", name := "give", desc := "(I)V" } : Jvm.MethodName)) ∈ zB := zkm 524 (by decide +kernel) rfl
theorem zk526 : (Jvm.Cond.methodLink "ZoneHeapModel" (52 : Nat) ({ cls := "ZoneHeapModel", name := "kept", desc := "()I" } : Jvm.MethodName)) ∈ zB := zkm 526 (by decide +kernel) rfl
theorem zk528 : (Jvm.Cond.instanceMethod ({ cls := "ZoneHeapModel", name := "kept", desc := "()I" } : Jvm.MethodName)) ∈ zB := zkm 528 (by decide +kernel) rfl
theorem zk530 : (Jvm.Cond.methodLink "ZoneHeapLaw" (65 : Nat) ({ cls := "ZoneHeapModel", name := "again", desc := "(II)I" } : Jvm.MethodName)) ∈ zB := zkm 530 (by decide +kernel) rfl
theorem zk531 : (Jvm.Cond.instanceMethod ({ cls := "ZoneHeapModel", name := "again", desc := "(II)I" } : Jvm.MethodName)) ∈ zB := zkm 531 (by decide +kernel) rfl
theorem zk532 : (Jvm.Cond.selects "ZoneHeapModel" ({ cls := "ZoneHeapModel", name := "again", desc := "(II)I" } : Jvm.MethodName) ({ cls := "ZoneHeapModel", name := "again", desc := "(II)I" } : Jvm.MethodName)) ∈ zB := zkm 532 (by decide +kernel) rfl
theorem zk534 : (Jvm.Cond.methodLink "ZoneHeapLaw" (68 : Nat) ({ cls := "ZoneHeapModel", name := "kind", desc := "(I)I" } : Jvm.MethodName)) ∈ zB := zkm 534 (by decide +kernel) rfl
theorem zk535 : (Jvm.Cond.instanceMethod ({ cls := "ZoneHeapModel", name := "kind", desc := "(I)I" } : Jvm.MethodName)) ∈ zB := zkm 535 (by decide +kernel) rfl
theorem zk536 : (Jvm.Cond.selects "ZoneHeapModel" ({ cls := "ZoneHeapModel", name := "kind", desc := "(I)I" } : Jvm.MethodName) ({ cls := "ZoneHeapModel", name := "kind", desc := "(I)I" } : Jvm.MethodName)) ∈ zB := zkm 536 (by decide +kernel) rfl
theorem zk538 : (Jvm.Cond.methodLink "ZoneHeapModel" (71 : Nat) ({ cls := "ZoneHeapModel", name := "of", desc := "(II)I" } : Jvm.MethodName)) ∈ zB := zkm 538 (by decide +kernel) rfl
theorem zk540 : (Jvm.Cond.instanceMethod ({ cls := "ZoneHeapModel", name := "of", desc := "(II)I" } : Jvm.MethodName)) ∈ zB := zkm 540 (by decide +kernel) rfl
theorem zk542 : (Jvm.Cond.methodLink "ZoneHeapLaw" (71 : Nat) ({ cls := "ZoneHeapModel", name := "block", desc := "(I)I" } : Jvm.MethodName)) ∈ zB := zkm 542 (by decide +kernel) rfl
theorem zk543 : (Jvm.Cond.instanceMethod ({ cls := "ZoneHeapModel", name := "block", desc := "(I)I" } : Jvm.MethodName)) ∈ zB := zkm 543 (by decide +kernel) rfl
theorem zk544 : (Jvm.Cond.selects "ZoneHeapModel" ({ cls := "ZoneHeapModel", name := "block", desc := "(I)I" } : Jvm.MethodName) ({ cls := "ZoneHeapModel", name := "block", desc := "(I)I" } : Jvm.MethodName)) ∈ zB := zkm 544 (by decide +kernel) rfl
theorem zk546 : (Jvm.Cond.methodLink "ZoneHeapLaw" (75 : Nat) ({ cls := "ZoneHeapModel", name := "write", desc := "(II)V" } : Jvm.MethodName)) ∈ zB := zkm 546 (by decide +kernel) rfl
theorem zk547 : (Jvm.Cond.instanceMethod ({ cls := "ZoneHeapModel", name := "write", desc := "(II)V" } : Jvm.MethodName)) ∈ zB := zkm 547 (by decide +kernel) rfl
theorem zk548 : (Jvm.Cond.selects "ZoneHeapModel" ({ cls := "ZoneHeapModel", name := "write", desc := "(II)V" } : Jvm.MethodName) ({ cls := "ZoneHeapModel", name := "write", desc := "(II)V" } : Jvm.MethodName)) ∈ zB := zkm 548 (by decide +kernel) rfl
theorem zk550 : (Jvm.Cond.methodLink "ZoneHeapModel" (74 : Nat) ({ cls := "ZoneHeapModel", name := "bad", desc := "(I)Z" } : Jvm.MethodName)) ∈ zB := zkm 550 (by decide +kernel) rfl
theorem zk552 : (Jvm.Cond.instanceMethod ({ cls := "ZoneHeapModel", name := "bad", desc := "(I)Z" } : Jvm.MethodName)) ∈ zB := zkm 552 (by decide +kernel) rfl
theorem zk554 : (Jvm.Cond.methodLink "ZoneHeapLaw" (78 : Nat) ({ cls := "ZoneHeapModel", name := "read", desc := "(I)I" } : Jvm.MethodName)) ∈ zB := zkm 554 (by decide +kernel) rfl
theorem zk555 : (Jvm.Cond.instanceMethod ({ cls := "ZoneHeapModel", name := "read", desc := "(I)I" } : Jvm.MethodName)) ∈ zB := zkm 555 (by decide +kernel) rfl
theorem zk556 : (Jvm.Cond.selects "ZoneHeapModel" ({ cls := "ZoneHeapModel", name := "read", desc := "(I)I" } : Jvm.MethodName) ({ cls := "ZoneHeapModel", name := "read", desc := "(I)I" } : Jvm.MethodName)) ∈ zB := zkm 556 (by decide +kernel) rfl
theorem zk558 : (Jvm.Cond.methodLink "ZoneHeapModel" (78 : Nat) ({ cls := "ZoneHeapModel", name := "word", desc := "(I)I" } : Jvm.MethodName)) ∈ zB := zkm 558 (by decide +kernel) rfl
theorem zk560 : (Jvm.Cond.instanceMethod ({ cls := "ZoneHeapModel", name := "word", desc := "(I)I" } : Jvm.MethodName)) ∈ zB := zkm 560 (by decide +kernel) rfl
theorem zk562 : (Jvm.Cond.methodLink "ZoneHeapLaw" (82 : Nat) ({ cls := "ZoneHeapModel", name := "lost", desc := "(II)I" } : Jvm.MethodName)) ∈ zB := zkm 562 (by decide +kernel) rfl
theorem zk563 : (Jvm.Cond.instanceMethod ({ cls := "ZoneHeapModel", name := "lost", desc := "(II)I" } : Jvm.MethodName)) ∈ zB := zkm 563 (by decide +kernel) rfl
theorem zk564 : (Jvm.Cond.selects "ZoneHeapModel" ({ cls := "ZoneHeapModel", name := "lost", desc := "(II)I" } : Jvm.MethodName) ({ cls := "ZoneHeapModel", name := "lost", desc := "(II)I" } : Jvm.MethodName)) ∈ zB := zkm 564 (by decide +kernel) rfl
theorem zk566 : (Jvm.Cond.methodLink "ZoneHeapModel" (84 : Nat) ({ cls := "ZoneHeapModel", name := "touch", desc := "(I)Z" } : Jvm.MethodName)) ∈ zB := zkm 566 (by decide +kernel) rfl
theorem zk568 : (Jvm.Cond.instanceMethod ({ cls := "ZoneHeapModel", name := "touch", desc := "(I)Z" } : Jvm.MethodName)) ∈ zB := zkm 568 (by decide +kernel) rfl
theorem zk570 : (Jvm.Cond.methodLink "ZoneHeapModel" (81 : Nat) ({ cls := "ZoneHeapModel", name := "leads", desc := "(I)I" } : Jvm.MethodName)) ∈ zB := zkm 570 (by decide +kernel) rfl
theorem zk572 : (Jvm.Cond.instanceMethod ({ cls := "ZoneHeapModel", name := "leads", desc := "(I)I" } : Jvm.MethodName)) ∈ zB := zkm 572 (by decide +kernel) rfl
theorem zk574 : (Jvm.Cond.methodLink "ZoneHeapLaw" (85 : Nat) ({ cls := "ZoneHeapModel", name := "lostAt", desc := "(I)I" } : Jvm.MethodName)) ∈ zB := zkm 574 (by decide +kernel) rfl
theorem zk575 : (Jvm.Cond.instanceMethod ({ cls := "ZoneHeapModel", name := "lostAt", desc := "(I)I" } : Jvm.MethodName)) ∈ zB := zkm 575 (by decide +kernel) rfl
theorem zk576 : (Jvm.Cond.selects "ZoneHeapModel" ({ cls := "ZoneHeapModel", name := "lostAt", desc := "(I)I" } : Jvm.MethodName) ({ cls := "ZoneHeapModel", name := "lostAt", desc := "(I)I" } : Jvm.MethodName)) ∈ zB := zkm 576 (by decide +kernel) rfl
theorem zk578 : (Jvm.Cond.methodLink "ZoneHeapLaw" (88 : Nat) ({ cls := "ZoneHeapModel", name := "count", desc := "(I)I" } : Jvm.MethodName)) ∈ zB := zkm 578 (by decide +kernel) rfl
theorem zk579 : (Jvm.Cond.instanceMethod ({ cls := "ZoneHeapModel", name := "count", desc := "(I)I" } : Jvm.MethodName)) ∈ zB := zkm 579 (by decide +kernel) rfl
theorem zk580 : (Jvm.Cond.selects "ZoneHeapModel" ({ cls := "ZoneHeapModel", name := "count", desc := "(I)I" } : Jvm.MethodName) ({ cls := "ZoneHeapModel", name := "count", desc := "(I)I" } : Jvm.MethodName)) ∈ zB := zkm 580 (by decide +kernel) rfl
theorem zk582 : (Jvm.Cond.arrayClass Jvm.ClassFile.FieldType.long) ∈ zB := zkm 582 (by decide +kernel) rfl
theorem zk583 : (Jvm.Cond.sameMethod "java/lang/Throwable" "java/lang/Throwable" "fillInStackTrace" "(I)Ljava/lang/Throwable;") ∈ zB := zkm 583 (by decide +kernel) rfl
theorem zk585 : (Jvm.Cond.sameMethod "[Ljava/lang/Object;" "java/lang/Object" "getClass" "()Ljava/lang/Class;") ∈ zB := zkm 585 (by decide +kernel) rfl
theorem zk586 : (Jvm.Cond.selects "[Ljava/lang/Object;" ({ cls := "java/lang/Object", name := "getClass", desc := "()Ljava/lang/Class;" } : Jvm.MethodName) ({ cls := "java/lang/Object", name := "getClass", desc := "()Ljava/lang/Class;" } : Jvm.MethodName)) ∈ zB := zkm 586 (by decide +kernel) rfl
theorem ks_Z_forgetReached : Cond.selects "ZoneHeap" y_Z_forgetReached y_Z_forgetReached ∈ zB := zks 0 (by decide +kernel) rfl
theorem ks_Z_reach : Cond.selects "ZoneHeap" y_Z_reach y_Z_reach ∈ zB := zks 1 (by decide +kernel) rfl
theorem ks_Z_ledToBy : Cond.selects "ZoneHeap" y_Z_ledToBy y_Z_ledToBy ∈ zB := zks 2 (by decide +kernel) rfl
theorem ks_Z_standingAt : Cond.selects "ZoneHeap" y_Z_standingAt y_Z_standingAt ∈ zB := zks 3 (by decide +kernel) rfl
theorem ks_Z_liveHaving : Cond.selects "ZoneHeap" y_Z_liveHaving y_Z_liveHaving ∈ zB := zks 4 (by decide +kernel) rfl
theorem ks_B_has : Cond.selects "ZoneHeap$Block" y_B_has y_B_has ∈ zB := zks 5 (by decide +kernel) rfl
theorem ks_Z_reachFromWordsOf : Cond.selects "ZoneHeap" y_Z_reachFromWordsOf y_Z_reachFromWordsOf ∈ zB := zks 6 (by decide +kernel) rfl
theorem ks_Z_wordAt : Cond.selects "ZoneHeap" y_Z_wordAt y_Z_wordAt ∈ zB := zks 7 (by decide +kernel) rfl
theorem ks_Z_noteLost : Cond.selects "ZoneHeap" y_Z_noteLost y_Z_noteLost ∈ zB := zks 8 (by decide +kernel) rfl
theorem ks_Z_make : Cond.selects "ZoneHeap" y_Z_make y_Z_make ∈ zB := zks 10 (by decide +kernel) rfl
theorem ks_Z_firstRoomFor : Cond.selects "ZoneHeap" y_Z_firstRoomFor y_Z_firstRoomFor ∈ zB := zks 11 (by decide +kernel) rfl
theorem ks_Z_setTaker : Cond.selects "ZoneHeap" y_Z_setTaker y_Z_setTaker ∈ zB := zks 12 (by decide +kernel) rfl
theorem ks_Z_liveStandingAt : Cond.selects "ZoneHeap" y_Z_liveStandingAt y_Z_liveStandingAt ∈ zB := zks 13 (by decide +kernel) rfl
theorem ks_Z_giveBack : Cond.selects "ZoneHeap" y_Z_giveBack y_Z_giveBack ∈ zB := zks 14 (by decide +kernel) rfl
theorem ks_A_add2 : Cond.selects "java/util/ArrayList" y_A_add2 y_A_add2 ∈ zB := zks 15 (by decide +kernel) rfl
theorem ks_A_grow : Cond.selects "java/util/ArrayList" y_A_grow y_A_grow ∈ zB := zks 16 (by decide +kernel) rfl
theorem ks_A_grow2 : Cond.selects "java/util/ArrayList" y_A_grow2 y_A_grow2 ∈ zB := zks 17 (by decide +kernel) rfl
theorem ks_Z_dropOldestKept : Cond.selects "ZoneHeap" y_Z_dropOldestKept y_Z_dropOldestKept ∈ zB := zks 18 (by decide +kernel) rfl
theorem ks_A_fastRemove : Cond.selects "java/util/ArrayList" y_A_fastRemove y_A_fastRemove ∈ zB := zks 19 (by decide +kernel) rfl
theorem ks_Z_isTaken : Cond.selects "ZoneHeap" y_Z_isTaken y_Z_isTaken ∈ zB := zks 20 (by decide +kernel) rfl
theorem ks_Z_refuseWrongWord : Cond.selects "ZoneHeap" y_Z_refuseWrongWord y_Z_refuseWrongWord ∈ zB := zks 21 (by decide +kernel) rfl
theorem ks_M_fails : Cond.selects "ZoneHeapModel" y_M_fails y_M_fails ∈ zB := zks 22 (by decide +kernel) rfl
theorem ks_M_make : Cond.selects "ZoneHeapModel" y_M_make y_M_make ∈ zB := zks 23 (by decide +kernel) rfl
theorem ks_M_room : Cond.selects "ZoneHeapModel" y_M_room y_M_room ∈ zB := zks 24 (by decide +kernel) rfl
theorem ks_M_at : Cond.selects "ZoneHeapModel" y_M_at y_M_at ∈ zB := zks 25 (by decide +kernel) rfl
theorem ks_M_give : Cond.selects "ZoneHeapModel" y_M_give y_M_give ∈ zB := zks 26 (by decide +kernel) rfl
theorem ks_M_kept : Cond.selects "ZoneHeapModel" y_M_kept y_M_kept ∈ zB := zks 27 (by decide +kernel) rfl
theorem ks_M_of : Cond.selects "ZoneHeapModel" y_M_of y_M_of ∈ zB := zks 28 (by decide +kernel) rfl
theorem ks_M_bad : Cond.selects "ZoneHeapModel" y_M_bad y_M_bad ∈ zB := zks 29 (by decide +kernel) rfl
theorem ks_M_word : Cond.selects "ZoneHeapModel" y_M_word y_M_word ∈ zB := zks 30 (by decide +kernel) rfl
theorem ks_M_touch : Cond.selects "ZoneHeapModel" y_M_touch y_M_touch ∈ zB := zks 31 (by decide +kernel) rfl
theorem ks_M_leads : Cond.selects "ZoneHeapModel" y_M_leads y_M_leads ∈ zB := zks 32 (by decide +kernel) rfl
end
