def zB : List Cond := lw_tbl.filter goodWord
theorem zkm2 {w : Cond} (h : w ∈ tables_1) (hg : goodWord w = true) : w ∈ zB := List.mem_filter.mpr ⟨List.mem_append_right _ h, hg⟩
theorem zkm {w : Cond} (i : Nat) (h : tables_1[i]? = some w) (hg : goodWord w = true) : w ∈ zB := zkm2 (List.mem_of_getElem? h) hg
theorem zks {w : Cond} (i : Nat) (h : (k2_sels lw_privs)[i]? = some w) (hg : goodWord w = true) : w ∈ zB := List.mem_filter.mpr ⟨List.mem_append_left _ (List.mem_of_getElem? h), hg⟩
theorem zB_good {w : Cond} (h : w ∈ zB) : (w.onTables && w.keeps) = true ∨ ∃ ty, w = .arrayClass ty := good_of_word (List.mem_filter.mp h).2
theorem zB_tbl {w : Cond} (h : w ∈ zB) : w ∈ lw_tbl := (List.mem_filter.mp h).1
abbrev RZ : String := "ZoneHeap"
def TZ : u_T := fun k => match k with
  | 0 => ("ZoneHeap", "octets", "[B", true)
  | 1 => ("ZoneHeap", "takers", "[LZoneHeap$Block;", true)
  | 2 => ("ZoneHeap", "keptBlocks", "Ljava/util/ArrayList;", true)
  | 3 => ("ZoneHeap", "keptOctets", "I", false)
  | 4 => ("ZoneHeap", "liveBlocks", "I", false)
  | 5 => ("ZoneHeap", "liveOctets", "I", false)
  | 6 => ("ZoneHeap", "madeBlocks", "I", false)
  | 7 => ("ZoneHeap", "reachedBlocks", "[LZoneHeap$Block;", true)
  | 8 => ("ZoneHeap", "reachedCount", "I", false)
  | 9 => ("ZoneHeap", "lostStarts", "[I", true)
  | _ => ("ZoneHeap", "lostCount", "I", false)
def tyZ : Nat → FieldType := fun k => match k with
  | 0 => .array .byte
  | 1 => .array (.object "ZoneHeap$Block")
  | 2 => .object "java/util/ArrayList"
  | 3 => .int
  | 4 => .int
  | 5 => .int
  | 6 => .int
  | 7 => .array (.object "ZoneHeap$Block")
  | 8 => .int
  | 9 => .array .int
  | _ => .int
theorem nmZ : ∀ a, a < 11 → ∀ b, b < 11 → a ≠ b → (TZ a).2.1 ≠ (TZ b).2.1 := by decide +kernel
theorem okZ : ∀ k, k < 11 → parseFieldDescriptor (TZ k).2.2.1 = some (tyZ k) := by decide +kernel
theorem inZ : ∀ w ∈ u_ws RZ TZ 11, w ∈ zB := by
  have h : ∀ w ∈ u_ws RZ TZ 11, w ∈ tables_1 ∧ goodWord w = true := by decide +kernel
  exact fun w hw => zkm2 (h w hw).1 (h w hw).2
abbrev RB : String := "ZoneHeap$Block"
def TB : u_T := fun k => match k with
  | 0 => ("ZoneHeap$Block", "start", "I", true)
  | 1 => ("ZoneHeap$Block", "size", "I", true)
  | 2 => ("ZoneHeap$Block", "kept", "Z", false)
  | _ => ("ZoneHeap$Block", "reached", "Z", false)
def tyB : Nat → FieldType := fun k => match k with
  | 0 => .int
  | 1 => .int
  | 2 => .boolean
  | _ => .boolean
theorem nmB : ∀ a, a < 4 → ∀ b, b < 4 → a ≠ b → (TB a).2.1 ≠ (TB b).2.1 := by decide +kernel
theorem okB : ∀ k, k < 4 → parseFieldDescriptor (TB k).2.2.1 = some (tyB k) := by decide +kernel
theorem inB : ∀ w ∈ u_ws RB TB 4, w ∈ zB := by
  have h : ∀ w ∈ u_ws RB TB 4, w ∈ tables_1 ∧ goodWord w = true := by decide +kernel
  exact fun w hw => zkm2 (h w hw).1 (h w hw).2
abbrev RM : String := "ZoneHeapModel"
def TM : u_T := fun k => match k with
  | 0 => ("ZoneHeapModel", "err", "I", false)
  | 1 => ("ZoneHeapModel", "octet", "[I", true)
  | 2 => ("ZoneHeapModel", "place", "[I", true)
  | 3 => ("ZoneHeapModel", "size", "[I", true)
  | 4 => ("ZoneHeapModel", "state", "[I", true)
  | 5 => ("ZoneHeapModel", "since", "[I", true)
  | 6 => ("ZoneHeapModel", "reached", "[Z", true)
  | 7 => ("ZoneHeapModel", "found", "[I", true)
  | 8 => ("ZoneHeapModel", "many", "I", false)
  | 9 => ("ZoneHeapModel", "made", "I", false)
  | 10 => ("ZoneHeapModel", "backs", "I", false)
  | _ => ("ZoneHeapModel", "lostMany", "I", false)
def tyM : Nat → FieldType := fun k => match k with
  | 0 => .int
  | 1 => .array .int
  | 2 => .array .int
  | 3 => .array .int
  | 4 => .array .int
  | 5 => .array .int
  | 6 => .array .boolean
  | 7 => .array .int
  | 8 => .int
  | 9 => .int
  | 10 => .int
  | _ => .int
theorem nmM : ∀ a, a < 12 → ∀ b, b < 12 → a ≠ b → (TM a).2.1 ≠ (TM b).2.1 := by decide +kernel
theorem okM : ∀ k, k < 12 → parseFieldDescriptor (TM k).2.2.1 = some (tyM k) := by decide +kernel
theorem inM : ∀ w ∈ u_ws RM TM 12, w ∈ zB := by
  have h : ∀ w ∈ u_ws RM TM 12, w ∈ tables_1 ∧ goodWord w = true := by decide +kernel
  exact fun w hw => zkm2 (h w hw).1 (h w hw).2
abbrev RA : String := "java/util/ArrayList"
def TA : u_T := fun k => match k with
  | 0 => ("java/util/AbstractList", "modCount", "I", false)
  | 1 => ("java/util/ArrayList", "elementData", "[Ljava/lang/Object;", false)
  | _ => ("java/util/ArrayList", "size", "I", false)
def tyA : Nat → FieldType := fun k => match k with
  | 0 => .int
  | 1 => .array (.object "java/lang/Object")
  | _ => .int
theorem nmA : ∀ a, a < 3 → ∀ b, b < 3 → a ≠ b → (TA a).2.1 ≠ (TA b).2.1 := by decide +kernel
theorem okA : ∀ k, k < 3 → parseFieldDescriptor (TA k).2.2.1 = some (tyA k) := by decide +kernel
theorem inA : ∀ w ∈ u_ws RA TA 3, w ∈ zB := by
  have h : ∀ w ∈ u_ws RA TA 3, w ∈ tables_1 ∧ goodWord w = true := by decide +kernel
  exact fun w hw => zkm2 (h w hw).1 (h w hw).2
abbrev zcl : List vw_C := [(RZ, TZ, 11), (RB, TB, 4), (RM, TM, 12), (RA, TA, 3)]
abbrev c_Z_init : ByteArray := prog_1_method_1_code
abbrev y_Z_init : MethodName := ⟨"ZoneHeap", "<init>", "()V"⟩
theorem kc_Z_init : Cond.code y_Z_init c_Z_init 1 none ∈ zB := zkm 23 (by decide +kernel) rfl
def w_Z_init : List Cond := Cond.code y_Z_init c_Z_init 1 none :: zB
abbrev c_O_init : ByteArray := object_method_1_code
abbrev y_O_init : MethodName := ⟨"java/lang/Object", "<init>", "()V"⟩
theorem kc_O_init : Cond.code y_O_init c_O_init 1 none ∈ zB := zkm 26 (by decide +kernel) rfl
def w_O_init : List Cond := Cond.code y_O_init c_O_init 1 none :: zB
abbrev c_A_init : ByteArray := prog_19_method_2_code
abbrev y_A_init : MethodName := ⟨"java/util/ArrayList", "<init>", "()V"⟩
theorem kc_A_init : Cond.code y_A_init c_A_init 1 none ∈ zB := zkm 33 (by decide +kernel) rfl
def w_A_init : List Cond := Cond.code y_A_init c_A_init 1 none :: zB
abbrev c_Al_init : ByteArray := prog_18_method_1_code
abbrev y_Al_init : MethodName := ⟨"java/util/AbstractList", "<init>", "()V"⟩
theorem kc_Al_init : Cond.code y_Al_init c_Al_init 1 none ∈ zB := zkm 36 (by decide +kernel) rfl
def w_Al_init : List Cond := Cond.code y_Al_init c_Al_init 1 none :: zB
abbrev c_Ac_init : ByteArray := prog_17_method_1_code
abbrev y_Ac_init : MethodName := ⟨"java/util/AbstractCollection", "<init>", "()V"⟩
theorem kc_Ac_init : Cond.code y_Ac_init c_Ac_init 1 none ∈ zB := zkm 39 (by decide +kernel) rfl
def w_Ac_init : List Cond := Cond.code y_Ac_init c_Ac_init 1 none :: zB
abbrev c_Z_lost : ByteArray := prog_1_method_9_code
abbrev y_Z_lost : MethodName := ⟨"ZoneHeap", "lost", "(II)I"⟩
theorem kc_Z_lost : Cond.code y_Z_lost c_Z_lost 4 (some .int) ∈ zB := zkm 94 (by decide +kernel) rfl
def w_Z_lost : List Cond := Cond.code y_Z_lost c_Z_lost 4 (some .int) :: zB
abbrev c_Z_forgetReached : ByteArray := prog_1_method_28_code
abbrev y_Z_forgetReached : MethodName := ⟨"ZoneHeap", "forgetReached", "()V"⟩
theorem kc_Z_forgetReached : Cond.code y_Z_forgetReached c_Z_forgetReached 2 none ∈ zB := zkm 98 (by decide +kernel) rfl
def w_Z_forgetReached : List Cond := Cond.code y_Z_forgetReached c_Z_forgetReached 2 none :: zB
abbrev c_Z_reach : ByteArray := prog_1_method_29_code
abbrev y_Z_reach : MethodName := ⟨"ZoneHeap", "reach", "(I)V"⟩
theorem kc_Z_reach : Cond.code y_Z_reach c_Z_reach 3 none ∈ zB := zkm 102 (by decide +kernel) rfl
def w_Z_reach : List Cond := Cond.code y_Z_reach c_Z_reach 3 none :: zB
abbrev c_Z_ledToBy : ByteArray := prog_1_method_21_code
abbrev y_Z_ledToBy : MethodName := ⟨"ZoneHeap", "ledToBy", "(I)LZoneHeap$Block;"⟩
theorem kc_Z_ledToBy : Cond.code y_Z_ledToBy c_Z_ledToBy 3 (some (.object "ZoneHeap$Block")) ∈ zB := zkm 106 (by decide +kernel) rfl
def w_Z_ledToBy : List Cond := Cond.code y_Z_ledToBy c_Z_ledToBy 3 (some (.object "ZoneHeap$Block")) :: zB
abbrev c_Z_standingAt : ByteArray := prog_1_method_18_code
abbrev y_Z_standingAt : MethodName := ⟨"ZoneHeap", "standingAt", "(I)LZoneHeap$Block;"⟩
theorem kc_Z_standingAt : Cond.code y_Z_standingAt c_Z_standingAt 3 (some (.object "ZoneHeap$Block")) ∈ zB := zkm 110 (by decide +kernel) rfl
def w_Z_standingAt : List Cond := Cond.code y_Z_standingAt c_Z_standingAt 3 (some (.object "ZoneHeap$Block")) :: zB
abbrev c_Z_isOctet : ByteArray := prog_1_method_15_code
abbrev y_Z_isOctet : MethodName := ⟨"ZoneHeap", "isOctet", "(I)Z"⟩
theorem kc_Z_isOctet : Cond.code y_Z_isOctet c_Z_isOctet 1 (some .boolean) ∈ zB := zkm 113 (by decide +kernel) rfl
def w_Z_isOctet : List Cond := Cond.code y_Z_isOctet c_Z_isOctet 1 (some .boolean) :: zB
abbrev c_Z_liveHaving : ByteArray := prog_1_method_20_code
abbrev y_Z_liveHaving : MethodName := ⟨"ZoneHeap", "liveHaving", "(I)LZoneHeap$Block;"⟩
theorem kc_Z_liveHaving : Cond.code y_Z_liveHaving c_Z_liveHaving 3 (some (.object "ZoneHeap$Block")) ∈ zB := zkm 117 (by decide +kernel) rfl
def w_Z_liveHaving : List Cond := Cond.code y_Z_liveHaving c_Z_liveHaving 3 (some (.object "ZoneHeap$Block")) :: zB
abbrev c_B_has : ByteArray := prog_2_method_2_code
abbrev y_B_has : MethodName := ⟨"ZoneHeap$Block", "has", "(I)Z"⟩
theorem kc_B_has : Cond.code y_B_has c_B_has 2 (some .boolean) ∈ zB := zkm 122 (by decide +kernel) rfl
def w_B_has : List Cond := Cond.code y_B_has c_B_has 2 (some .boolean) :: zB
abbrev c_Z_reachFromWordsOf : ByteArray := prog_1_method_30_code
abbrev y_Z_reachFromWordsOf : MethodName := ⟨"ZoneHeap", "reachFromWordsOf", "(LZoneHeap$Block;)V"⟩
theorem kc_Z_reachFromWordsOf : Cond.code y_Z_reachFromWordsOf c_Z_reachFromWordsOf 3 none ∈ zB := zkm 126 (by decide +kernel) rfl
def w_Z_reachFromWordsOf : List Cond := Cond.code y_Z_reachFromWordsOf c_Z_reachFromWordsOf 3 none :: zB
abbrev c_Z_wordAt : ByteArray := prog_1_method_17_code
abbrev y_Z_wordAt : MethodName := ⟨"ZoneHeap", "wordAt", "(I)I"⟩
theorem kc_Z_wordAt : Cond.code y_Z_wordAt c_Z_wordAt 4 (some .int) ∈ zB := zkm 130 (by decide +kernel) rfl
def w_Z_wordAt : List Cond := Cond.code y_Z_wordAt c_Z_wordAt 4 (some .int) :: zB
abbrev c_Z_noteLost : ByteArray := prog_1_method_31_code
abbrev y_Z_noteLost : MethodName := ⟨"ZoneHeap", "noteLost", "()V"⟩
theorem kc_Z_noteLost : Cond.code y_Z_noteLost c_Z_noteLost 3 none ∈ zB := zkm 134 (by decide +kernel) rfl
def w_Z_noteLost : List Cond := Cond.code y_Z_noteLost c_Z_noteLost 3 none :: zB
abbrev c_L_get : ByteArray := method_3_code
abbrev y_L_get : MethodName := ⟨"ZoneHeapLaw", "get", "(LZoneHeap;I[J)I"⟩
theorem kc_L_get : Cond.codeWith y_L_get c_L_get 4 (some .int) [(0, 9, 12, 13)] ∈ zB := zkm 137 (by decide +kernel) rfl
def w_L_get : List Cond := Cond.codeWith y_L_get c_L_get 4 (some .int) [(0, 9, 12, 13)] :: zB
abbrev c_Z_get : ByteArray := prog_1_method_2_code
abbrev y_Z_get : MethodName := ⟨"ZoneHeap", "get", "(I)I"⟩
theorem kc_Z_get : Cond.code y_Z_get c_Z_get 3 (some .int) ∈ zB := zkm 142 (by decide +kernel) rfl
def w_Z_get : List Cond := Cond.code y_Z_get c_Z_get 3 (some .int) :: zB
abbrev c_Z_refuseWrongSize : ByteArray := prog_1_method_12_code
abbrev y_Z_refuseWrongSize : MethodName := ⟨"ZoneHeap", "refuseWrongSize", "(I)V"⟩
theorem kc_Z_refuseWrongSize : Cond.code y_Z_refuseWrongSize c_Z_refuseWrongSize 1 none ∈ zB := zkm 145 (by decide +kernel) rfl
def w_Z_refuseWrongSize : List Cond := Cond.code y_Z_refuseWrongSize c_Z_refuseWrongSize 1 none :: zB
abbrev c_Z_make : ByteArray := prog_1_method_22_code
abbrev y_Z_make : MethodName := ⟨"ZoneHeap", "make", "(I)LZoneHeap$Block;"⟩
theorem kc_Z_make : Cond.code y_Z_make c_Z_make 4 (some (.object "ZoneHeap$Block")) ∈ zB := zkm 216 (by decide +kernel) rfl
def w_Z_make : List Cond := Cond.code y_Z_make c_Z_make 4 (some (.object "ZoneHeap$Block")) :: zB
abbrev c_Z_cellsFor : ByteArray := prog_1_method_23_code
abbrev y_Z_cellsFor : MethodName := ⟨"ZoneHeap", "cellsFor", "(I)I"⟩
theorem kc_Z_cellsFor : Cond.code y_Z_cellsFor c_Z_cellsFor 1 (some .int) ∈ zB := zkm 219 (by decide +kernel) rfl
def w_Z_cellsFor : List Cond := Cond.code y_Z_cellsFor c_Z_cellsFor 1 (some .int) :: zB
abbrev c_Mt_max : ByteArray := prog_12_method_65_code
abbrev y_Mt_max : MethodName := ⟨"java/lang/Math", "max", "(II)I"⟩
theorem kc_Mt_max : Cond.code y_Mt_max c_Mt_max 2 (some .int) ∈ zB := zkm 222 (by decide +kernel) rfl
def w_Mt_max : List Cond := Cond.code y_Mt_max c_Mt_max 2 (some .int) :: zB
abbrev c_Z_firstRoomFor : ByteArray := prog_1_method_24_code
abbrev y_Z_firstRoomFor : MethodName := ⟨"ZoneHeap", "firstRoomFor", "(I)I"⟩
theorem kc_Z_firstRoomFor : Cond.code y_Z_firstRoomFor c_Z_firstRoomFor 4 (some .int) ∈ zB := zkm 226 (by decide +kernel) rfl
def w_Z_firstRoomFor : List Cond := Cond.code y_Z_firstRoomFor c_Z_firstRoomFor 4 (some .int) :: zB
abbrev c_B_init : ByteArray := prog_2_method_1_code
abbrev y_B_init : MethodName := ⟨"ZoneHeap$Block", "<init>", "(II)V"⟩
theorem kc_B_init : Cond.code y_B_init c_B_init 3 none ∈ zB := zkm 229 (by decide +kernel) rfl
def w_B_init : List Cond := Cond.code y_B_init c_B_init 3 none :: zB
abbrev c_Z_setTaker : ByteArray := prog_1_method_25_code
abbrev y_Z_setTaker : MethodName := ⟨"ZoneHeap", "setTaker", "(LZoneHeap$Block;LZoneHeap$Block;)V"⟩
theorem kc_Z_setTaker : Cond.code y_Z_setTaker c_Z_setTaker 6 none ∈ zB := zkm 251 (by decide +kernel) rfl
def w_Z_setTaker : List Cond := Cond.code y_Z_setTaker c_Z_setTaker 6 none :: zB
abbrev c_L_back : ByteArray := method_4_code
abbrev y_L_back : MethodName := ⟨"ZoneHeapLaw", "back", "(LZoneHeap;I[J)I"⟩
theorem kc_L_back : Cond.codeWith y_L_back c_L_back 4 (some .int) [(0, 9, 12, 13), (0, 9, 15, 18)] ∈ zB := zkm 254 (by decide +kernel) rfl
def w_L_back : List Cond := Cond.codeWith y_L_back c_L_back 4 (some .int) [(0, 9, 12, 13), (0, 9, 15, 18)] :: zB
abbrev c_Z_back : ByteArray := prog_1_method_3_code
abbrev y_Z_back : MethodName := ⟨"ZoneHeap", "back", "(I)I"⟩
theorem kc_Z_back : Cond.code y_Z_back c_Z_back 3 (some .int) ∈ zB := zkm 259 (by decide +kernel) rfl
def w_Z_back : List Cond := Cond.code y_Z_back c_Z_back 3 (some .int) :: zB
abbrev c_Z_liveStandingAt : ByteArray := prog_1_method_19_code
abbrev y_Z_liveStandingAt : MethodName := ⟨"ZoneHeap", "liveStandingAt", "(I)LZoneHeap$Block;"⟩
theorem kc_Z_liveStandingAt : Cond.code y_Z_liveStandingAt c_Z_liveStandingAt 3 (some (.object "ZoneHeap$Block")) ∈ zB := zkm 263 (by decide +kernel) rfl
def w_Z_liveStandingAt : List Cond := Cond.code y_Z_liveStandingAt c_Z_liveStandingAt 3 (some (.object "ZoneHeap$Block")) :: zB
abbrev c_Z_giveBack : ByteArray := prog_1_method_26_code
abbrev y_Z_giveBack : MethodName := ⟨"ZoneHeap", "giveBack", "(LZoneHeap$Block;)V"⟩
theorem kc_Z_giveBack : Cond.code y_Z_giveBack c_Z_giveBack 3 none ∈ zB := zkm 284 (by decide +kernel) rfl
def w_Z_giveBack : List Cond := Cond.code y_Z_giveBack c_Z_giveBack 3 none :: zB
abbrev c_A_add : ByteArray := prog_19_method_25_code
abbrev y_A_add : MethodName := ⟨"java/util/ArrayList", "add", "(Ljava/lang/Object;)Z"⟩
theorem kc_A_add : Cond.code y_A_add c_A_add 2 (some .boolean) ∈ zB := zkm 288 (by decide +kernel) rfl
def w_A_add : List Cond := Cond.code y_A_add c_A_add 2 (some .boolean) :: zB
abbrev c_A_add2 : ByteArray := prog_19_method_24_code
abbrev y_A_add2 : MethodName := ⟨"java/util/ArrayList", "add", "(Ljava/lang/Object;[Ljava/lang/Object;I)V"⟩
theorem kc_A_add2 : Cond.code y_A_add2 c_A_add2 4 none ∈ zB := zkm 292 (by decide +kernel) rfl
def w_A_add2 : List Cond := Cond.code y_A_add2 c_A_add2 4 none :: zB
abbrev c_A_grow : ByteArray := prog_19_method_7_code
abbrev y_A_grow : MethodName := ⟨"java/util/ArrayList", "grow", "()[Ljava/lang/Object;"⟩
theorem kc_A_grow : Cond.code y_A_grow c_A_grow 1 (some (.array (.object "java/lang/Object"))) ∈ zB := zkm 296 (by decide +kernel) rfl
def w_A_grow : List Cond := Cond.code y_A_grow c_A_grow 1 (some (.array (.object "java/lang/Object"))) :: zB
abbrev c_A_grow2 : ByteArray := prog_19_method_6_code
abbrev y_A_grow2 : MethodName := ⟨"java/util/ArrayList", "grow", "(I)[Ljava/lang/Object;"⟩
theorem kc_A_grow2 : Cond.code y_A_grow2 c_A_grow2 4 (some (.array (.object "java/lang/Object"))) ∈ zB := zkm 300 (by decide +kernel) rfl
def w_A_grow2 : List Cond := Cond.code y_A_grow2 c_A_grow2 4 (some (.array (.object "java/lang/Object"))) :: zB
abbrev c_Su_newLength : ByteArray := prog_26_method_27_code
abbrev y_Su_newLength : MethodName := ⟨"jdk/internal/util/ArraysSupport", "newLength", "(III)I"⟩
theorem kc_Su_newLength : Cond.code y_Su_newLength c_Su_newLength 4 (some .int) ∈ zB := zkm 303 (by decide +kernel) rfl
def w_Su_newLength : List Cond := Cond.code y_Su_newLength c_Su_newLength 4 (some .int) :: zB
abbrev c_Su_hugeLength : ByteArray := prog_26_method_28_code
abbrev y_Su_hugeLength : MethodName := ⟨"jdk/internal/util/ArraysSupport", "hugeLength", "(II)I"⟩
theorem kc_Su_hugeLength : Cond.code y_Su_hugeLength c_Su_hugeLength 3 (some .int) ∈ zB := zkm 308 (by decide +kernel) rfl
def w_Su_hugeLength : List Cond := Cond.code y_Su_hugeLength c_Su_hugeLength 3 (some .int) :: zB
abbrev c_As_copyOf : ByteArray := prog_20_method_119_code
abbrev y_As_copyOf : MethodName := ⟨"java/util/Arrays", "copyOf", "([Ljava/lang/Object;I)[Ljava/lang/Object;"⟩
theorem kc_As_copyOf : Cond.code y_As_copyOf c_As_copyOf 2 (some (.array (.object "java/lang/Object"))) ∈ zB := zkm 311 (by decide +kernel) rfl
def w_As_copyOf : List Cond := Cond.code y_As_copyOf c_As_copyOf 2 (some (.array (.object "java/lang/Object"))) :: zB
abbrev c_As_copyOf2 : ByteArray := prog_20_method_120_code
abbrev y_As_copyOf2 : MethodName := ⟨"java/util/Arrays", "copyOf", "([Ljava/lang/Object;ILjava/lang/Class;)[Ljava/lang/Object;"⟩
theorem kc_As_copyOf2 : Cond.code y_As_copyOf2 c_As_copyOf2 4 (some (.array (.object "java/lang/Object"))) ∈ zB := zkm 325 (by decide +kernel) rfl
def w_As_copyOf2 : List Cond := Cond.code y_As_copyOf2 c_As_copyOf2 4 (some (.array (.object "java/lang/Object"))) :: zB
abbrev c_Mt_min : ByteArray := prog_12_method_69_code
abbrev y_Mt_min : MethodName := ⟨"java/lang/Math", "min", "(II)I"⟩
theorem kc_Mt_min : Cond.code y_Mt_min c_Mt_min 2 (some .int) ∈ zB := zkm 331 (by decide +kernel) rfl
def w_Mt_min : List Cond := Cond.code y_Mt_min c_Mt_min 2 (some .int) :: zB
abbrev c_A_size : ByteArray := prog_19_method_8_code
abbrev y_A_size : MethodName := ⟨"java/util/ArrayList", "size", "()I"⟩
theorem kc_A_size : Cond.code y_A_size c_A_size 1 (some .int) ∈ zB := zkm 340 (by decide +kernel) rfl
def w_A_size : List Cond := Cond.code y_A_size c_A_size 1 (some .int) :: zB
abbrev c_Z_dropOldestKept : ByteArray := prog_1_method_27_code
abbrev y_Z_dropOldestKept : MethodName := ⟨"ZoneHeap", "dropOldestKept", "()V"⟩
theorem kc_Z_dropOldestKept : Cond.code y_Z_dropOldestKept c_Z_dropOldestKept 2 none ∈ zB := zkm 344 (by decide +kernel) rfl
def w_Z_dropOldestKept : List Cond := Cond.code y_Z_dropOldestKept c_Z_dropOldestKept 2 none :: zB
abbrev c_A_isEmpty : ByteArray := prog_19_method_9_code
abbrev y_A_isEmpty : MethodName := ⟨"java/util/ArrayList", "isEmpty", "()Z"⟩
theorem kc_A_isEmpty : Cond.code y_A_isEmpty c_A_isEmpty 1 (some .boolean) ∈ zB := zkm 348 (by decide +kernel) rfl
def w_A_isEmpty : List Cond := Cond.code y_A_isEmpty c_A_isEmpty 1 (some .boolean) :: zB
abbrev c_A_remove : ByteArray := prog_19_method_29_code
abbrev y_A_remove : MethodName := ⟨"java/util/ArrayList", "remove", "(I)Ljava/lang/Object;"⟩
theorem kc_A_remove : Cond.code y_A_remove c_A_remove 4 (some (.object "java/lang/Object")) ∈ zB := zkm 352 (by decide +kernel) rfl
def w_A_remove : List Cond := Cond.code y_A_remove c_A_remove 4 (some (.object "java/lang/Object")) :: zB
abbrev c_Ob_checkIndex : ByteArray := prog_23_method_17_code
abbrev y_Ob_checkIndex : MethodName := ⟨"java/util/Objects", "checkIndex", "(II)I"⟩
theorem kc_Ob_checkIndex : Cond.code y_Ob_checkIndex c_Ob_checkIndex 2 (some .int) ∈ zB := zkm 355 (by decide +kernel) rfl
def w_Ob_checkIndex : List Cond := Cond.code y_Ob_checkIndex c_Ob_checkIndex 2 (some .int) :: zB
abbrev c_Pc_checkIndex : ByteArray := prog_27_method_11_code
abbrev y_Pc_checkIndex : MethodName := ⟨"jdk/internal/util/Preconditions", "checkIndex", "(IILjava/util/function/BiFunction;)I"⟩
theorem kc_Pc_checkIndex : Cond.code y_Pc_checkIndex c_Pc_checkIndex 3 (some .int) ∈ zB := zkm 358 (by decide +kernel) rfl
def w_Pc_checkIndex : List Cond := Cond.code y_Pc_checkIndex c_Pc_checkIndex 3 (some .int) :: zB
abbrev c_A_fastRemove : ByteArray := prog_19_method_39_code
abbrev y_A_fastRemove : MethodName := ⟨"java/util/ArrayList", "fastRemove", "([Ljava/lang/Object;I)V"⟩
theorem kc_A_fastRemove : Cond.code y_A_fastRemove c_A_fastRemove 4 none ∈ zB := zkm 362 (by decide +kernel) rfl
def w_A_fastRemove : List Cond := Cond.code y_A_fastRemove c_A_fastRemove 4 none :: zB
abbrev c_L_again : ByteArray := method_5_code
abbrev y_L_again : MethodName := ⟨"ZoneHeapLaw", "again", "(LZoneHeap;II[J)I"⟩
theorem kc_L_again : Cond.codeWith y_L_again c_L_again 5 (some .int) [(0, 10, 13, 13), (0, 10, 17, 18)] ∈ zB := zkm 366 (by decide +kernel) rfl
def w_L_again : List Cond := Cond.codeWith y_L_again c_L_again 5 (some .int) [(0, 10, 13, 13), (0, 10, 17, 18)] :: zB
abbrev c_Z_again : ByteArray := prog_1_method_4_code
abbrev y_Z_again : MethodName := ⟨"ZoneHeap", "again", "(II)I"⟩
theorem kc_Z_again : Cond.code y_Z_again c_Z_again 5 (some .int) ∈ zB := zkm 370 (by decide +kernel) rfl
def w_Z_again : List Cond := Cond.code y_Z_again c_Z_again 5 (some .int) :: zB
abbrev c_L_kind : ByteArray := method_6_code
abbrev y_L_kind : MethodName := ⟨"ZoneHeapLaw", "kind", "(LZoneHeap;I[J)I"⟩
theorem kc_L_kind : Cond.codeWith y_L_kind c_L_kind 4 (some .int) [(0, 9, 12, 27)] ∈ zB := zkm 375 (by decide +kernel) rfl
def w_L_kind : List Cond := Cond.codeWith y_L_kind c_L_kind 4 (some .int) [(0, 9, 12, 27)] :: zB
abbrev c_Z_kind : ByteArray := prog_1_method_5_code
abbrev y_Z_kind : MethodName := ⟨"ZoneHeap", "kind", "(I)I"⟩
theorem kc_Z_kind : Cond.code y_Z_kind c_Z_kind 4 (some .int) ∈ zB := zkm 380 (by decide +kernel) rfl
def w_Z_kind : List Cond := Cond.code y_Z_kind c_Z_kind 4 (some .int) :: zB
abbrev c_Z_refuseWrongOctet : ByteArray := prog_1_method_13_code
abbrev y_Z_refuseWrongOctet : MethodName := ⟨"ZoneHeap", "refuseWrongOctet", "(I)V"⟩
theorem kc_Z_refuseWrongOctet : Cond.code y_Z_refuseWrongOctet c_Z_refuseWrongOctet 1 none ∈ zB := zkm 383 (by decide +kernel) rfl
def w_Z_refuseWrongOctet : List Cond := Cond.code y_Z_refuseWrongOctet c_Z_refuseWrongOctet 1 none :: zB
abbrev c_Z_isTaken : ByteArray := prog_1_method_16_code
abbrev y_Z_isTaken : MethodName := ⟨"ZoneHeap", "isTaken", "(I)Z"⟩
theorem kc_Z_isTaken : Cond.code y_Z_isTaken c_Z_isTaken 2 (some .boolean) ∈ zB := zkm 403 (by decide +kernel) rfl
def w_Z_isTaken : List Cond := Cond.code y_Z_isTaken c_Z_isTaken 2 (some .boolean) :: zB
abbrev c_L_block : ByteArray := method_7_code
abbrev y_L_block : MethodName := ⟨"ZoneHeapLaw", "block", "(LZoneHeap;I[J)I"⟩
theorem kc_L_block : Cond.codeWith y_L_block c_L_block 4 (some .int) [(0, 9, 12, 27)] ∈ zB := zkm 406 (by decide +kernel) rfl
def w_L_block : List Cond := Cond.codeWith y_L_block c_L_block 4 (some .int) [(0, 9, 12, 27)] :: zB
abbrev c_Z_block : ByteArray := prog_1_method_6_code
abbrev y_Z_block : MethodName := ⟨"ZoneHeap", "block", "(I)I"⟩
theorem kc_Z_block : Cond.code y_Z_block c_Z_block 3 (some .int) ∈ zB := zkm 410 (by decide +kernel) rfl
def w_Z_block : List Cond := Cond.code y_Z_block c_Z_block 3 (some .int) :: zB
abbrev c_L_write : ByteArray := method_8_code
abbrev y_L_write : MethodName := ⟨"ZoneHeapLaw", "write", "(LZoneHeap;II)I"⟩
theorem kc_L_write : Cond.codeWith y_L_write c_L_write 4 (some .int) [(0, 6, 9, 27), (0, 6, 12, 18)] ∈ zB := zkm 413 (by decide +kernel) rfl
def w_L_write : List Cond := Cond.codeWith y_L_write c_L_write 4 (some .int) [(0, 6, 9, 27), (0, 6, 12, 18)] :: zB
abbrev c_Z_write : ByteArray := prog_1_method_7_code
abbrev y_Z_write : MethodName := ⟨"ZoneHeap", "write", "(II)V"⟩
theorem kc_Z_write : Cond.code y_Z_write c_Z_write 4 none ∈ zB := zkm 417 (by decide +kernel) rfl
def w_Z_write : List Cond := Cond.code y_Z_write c_Z_write 4 none :: zB
abbrev c_Z_refuseWrongWord : ByteArray := prog_1_method_14_code
abbrev y_Z_refuseWrongWord : MethodName := ⟨"ZoneHeap", "refuseWrongWord", "(I)V"⟩
theorem kc_Z_refuseWrongWord : Cond.code y_Z_refuseWrongWord c_Z_refuseWrongWord 3 none ∈ zB := zkm 421 (by decide +kernel) rfl
def w_Z_refuseWrongWord : List Cond := Cond.code y_Z_refuseWrongWord c_Z_refuseWrongWord 3 none :: zB
abbrev c_L_read : ByteArray := method_9_code
abbrev y_L_read : MethodName := ⟨"ZoneHeapLaw", "read", "(LZoneHeap;I[J)I"⟩
theorem kc_L_read : Cond.codeWith y_L_read c_L_read 4 (some .int) [(0, 9, 12, 27), (0, 9, 15, 18)] ∈ zB := zkm 426 (by decide +kernel) rfl
def w_L_read : List Cond := Cond.codeWith y_L_read c_L_read 4 (some .int) [(0, 9, 12, 27), (0, 9, 15, 18)] :: zB
abbrev c_Z_read : ByteArray := prog_1_method_8_code
abbrev y_Z_read : MethodName := ⟨"ZoneHeap", "read", "(I)I"⟩
theorem kc_Z_read : Cond.code y_Z_read c_Z_read 2 (some .int) ∈ zB := zkm 430 (by decide +kernel) rfl
def w_Z_read : List Cond := Cond.code y_Z_read c_Z_read 2 (some .int) :: zB
abbrev c_L_lostAt : ByteArray := method_10_code
abbrev y_L_lostAt : MethodName := ⟨"ZoneHeapLaw", "lostAt", "(LZoneHeap;I[J)I"⟩
theorem kc_L_lostAt : Cond.codeWith y_L_lostAt c_L_lostAt 4 (some .int) [(0, 9, 12, 27)] ∈ zB := zkm 433 (by decide +kernel) rfl
def w_L_lostAt : List Cond := Cond.codeWith y_L_lostAt c_L_lostAt 4 (some .int) [(0, 9, 12, 27)] :: zB
abbrev c_Z_lostAt : ByteArray := prog_1_method_10_code
abbrev y_Z_lostAt : MethodName := ⟨"ZoneHeap", "lostAt", "(I)I"⟩
theorem kc_Z_lostAt : Cond.code y_Z_lostAt c_Z_lostAt 2 (some .int) ∈ zB := zkm 437 (by decide +kernel) rfl
def w_Z_lostAt : List Cond := Cond.code y_Z_lostAt c_Z_lostAt 2 (some .int) :: zB
abbrev c_L_count : ByteArray := method_11_code
abbrev y_L_count : MethodName := ⟨"ZoneHeapLaw", "count", "(LZoneHeap;I[J)I"⟩
theorem kc_L_count : Cond.codeWith y_L_count c_L_count 4 (some .int) [(0, 9, 12, 13)] ∈ zB := zkm 441 (by decide +kernel) rfl
def w_L_count : List Cond := Cond.codeWith y_L_count c_L_count 4 (some .int) [(0, 9, 12, 13)] :: zB
abbrev c_Z_count : ByteArray := prog_1_method_11_code
abbrev y_Z_count : MethodName := ⟨"ZoneHeap", "count", "(I)I"⟩
theorem kc_Z_count : Cond.code y_Z_count c_Z_count 2 (some .int) ∈ zB := zkm 445 (by decide +kernel) rfl
def w_Z_count : List Cond := Cond.code y_Z_count c_Z_count 2 (some .int) :: zB
abbrev c_M_init : ByteArray := prog_4_method_1_code
abbrev y_M_init : MethodName := ⟨"ZoneHeapModel", "<init>", "()V"⟩
theorem kc_M_init : Cond.code y_M_init c_M_init 1 none ∈ zB := zkm 451 (by decide +kernel) rfl
def w_M_init : List Cond := Cond.code y_M_init c_M_init 1 none :: zB
abbrev c_M_thrown : ByteArray := prog_4_method_2_code
abbrev y_M_thrown : MethodName := ⟨"ZoneHeapModel", "thrown", "()I"⟩
theorem kc_M_thrown : Cond.code y_M_thrown c_M_thrown 1 (some .int) ∈ zB := zkm 494 (by decide +kernel) rfl
def w_M_thrown : List Cond := Cond.code y_M_thrown c_M_thrown 1 (some .int) :: zB
abbrev c_M_get : ByteArray := prog_4_method_10_code
abbrev y_M_get : MethodName := ⟨"ZoneHeapModel", "get", "(I)I"⟩
theorem kc_M_get : Cond.code y_M_get c_M_get 2 (some .int) ∈ zB := zkm 498 (by decide +kernel) rfl
def w_M_get : List Cond := Cond.code y_M_get c_M_get 2 (some .int) :: zB
abbrev c_M_fails : ByteArray := prog_4_method_3_code
abbrev y_M_fails : MethodName := ⟨"ZoneHeapModel", "fails", "(ZI)Z"⟩
theorem kc_M_fails : Cond.code y_M_fails c_M_fails 3 (some .boolean) ∈ zB := zkm 502 (by decide +kernel) rfl
def w_M_fails : List Cond := Cond.code y_M_fails c_M_fails 3 (some .boolean) :: zB
abbrev c_M_make : ByteArray := prog_4_method_6_code
abbrev y_M_make : MethodName := ⟨"ZoneHeapModel", "make", "(I)I"⟩
theorem kc_M_make : Cond.code y_M_make c_M_make 3 (some .int) ∈ zB := zkm 506 (by decide +kernel) rfl
def w_M_make : List Cond := Cond.code y_M_make c_M_make 3 (some .int) :: zB
abbrev c_M_room : ByteArray := prog_4_method_5_code
abbrev y_M_room : MethodName := ⟨"ZoneHeapModel", "room", "(I)I"⟩
theorem kc_M_room : Cond.code y_M_room c_M_room 5 (some .int) ∈ zB := zkm 510 (by decide +kernel) rfl
def w_M_room : List Cond := Cond.code y_M_room c_M_room 5 (some .int) :: zB
abbrev c_M_taken : ByteArray := prog_4_method_4_code
abbrev y_M_taken : MethodName := ⟨"ZoneHeapModel", "taken", "(I)I"⟩
theorem kc_M_taken : Cond.code y_M_taken c_M_taken 1 (some .int) ∈ zB := zkm 513 (by decide +kernel) rfl
def w_M_taken : List Cond := Cond.code y_M_taken c_M_taken 1 (some .int) :: zB
abbrev c_M_back : ByteArray := prog_4_method_11_code
abbrev y_M_back : MethodName := ⟨"ZoneHeapModel", "back", "(I)I"⟩
theorem kc_M_back : Cond.code y_M_back c_M_back 4 (some .int) ∈ zB := zkm 517 (by decide +kernel) rfl
def w_M_back : List Cond := Cond.code y_M_back c_M_back 4 (some .int) :: zB
abbrev c_M_at : ByteArray := prog_4_method_7_code
abbrev y_M_at : MethodName := ⟨"ZoneHeapModel", "at", "(II)I"⟩
theorem kc_M_at : Cond.code y_M_at c_M_at 4 (some .int) ∈ zB := zkm 521 (by decide +kernel) rfl
def w_M_at : List Cond := Cond.code y_M_at c_M_at 4 (some .int) :: zB
abbrev c_M_give : ByteArray := prog_4_method_9_code
abbrev y_M_give : MethodName := ⟨"ZoneHeapModel", "give", "(I)V"⟩
theorem kc_M_give : Cond.code y_M_give c_M_give 4 none ∈ zB := zkm 525 (by decide +kernel) rfl
def w_M_give : List Cond := Cond.code y_M_give c_M_give 4 none :: zB
abbrev c_M_kept : ByteArray := prog_4_method_8_code
abbrev y_M_kept : MethodName := ⟨"ZoneHeapModel", "kept", "()I"⟩
theorem kc_M_kept : Cond.code y_M_kept c_M_kept 3 (some .int) ∈ zB := zkm 529 (by decide +kernel) rfl
def w_M_kept : List Cond := Cond.code y_M_kept c_M_kept 3 (some .int) :: zB
abbrev c_M_again : ByteArray := prog_4_method_12_code
abbrev y_M_again : MethodName := ⟨"ZoneHeapModel", "again", "(II)I"⟩
theorem kc_M_again : Cond.code y_M_again c_M_again 6 (some .int) ∈ zB := zkm 533 (by decide +kernel) rfl
def w_M_again : List Cond := Cond.code y_M_again c_M_again 6 (some .int) :: zB
abbrev c_M_kind : ByteArray := prog_4_method_14_code
abbrev y_M_kind : MethodName := ⟨"ZoneHeapModel", "kind", "(I)I"⟩
theorem kc_M_kind : Cond.code y_M_kind c_M_kind 3 (some .int) ∈ zB := zkm 537 (by decide +kernel) rfl
def w_M_kind : List Cond := Cond.code y_M_kind c_M_kind 3 (some .int) :: zB
abbrev c_M_of : ByteArray := prog_4_method_13_code
abbrev y_M_of : MethodName := ⟨"ZoneHeapModel", "of", "(II)I"⟩
theorem kc_M_of : Cond.code y_M_of c_M_of 4 (some .int) ∈ zB := zkm 541 (by decide +kernel) rfl
def w_M_of : List Cond := Cond.code y_M_of c_M_of 4 (some .int) :: zB
abbrev c_M_block : ByteArray := prog_4_method_15_code
abbrev y_M_block : MethodName := ⟨"ZoneHeapModel", "block", "(I)I"⟩
theorem kc_M_block : Cond.code y_M_block c_M_block 3 (some .int) ∈ zB := zkm 545 (by decide +kernel) rfl
def w_M_block : List Cond := Cond.code y_M_block c_M_block 3 (some .int) :: zB
abbrev c_M_write : ByteArray := prog_4_method_18_code
abbrev y_M_write : MethodName := ⟨"ZoneHeapModel", "write", "(II)V"⟩
theorem kc_M_write : Cond.code y_M_write c_M_write 4 none ∈ zB := zkm 549 (by decide +kernel) rfl
def w_M_write : List Cond := Cond.code y_M_write c_M_write 4 none :: zB
abbrev c_M_bad : ByteArray := prog_4_method_16_code
abbrev y_M_bad : MethodName := ⟨"ZoneHeapModel", "bad", "(I)Z"⟩
theorem kc_M_bad : Cond.code y_M_bad c_M_bad 3 (some .boolean) ∈ zB := zkm 553 (by decide +kernel) rfl
def w_M_bad : List Cond := Cond.code y_M_bad c_M_bad 3 (some .boolean) :: zB
abbrev c_M_read : ByteArray := prog_4_method_19_code
abbrev y_M_read : MethodName := ⟨"ZoneHeapModel", "read", "(I)I"⟩
theorem kc_M_read : Cond.code y_M_read c_M_read 2 (some .int) ∈ zB := zkm 557 (by decide +kernel) rfl
def w_M_read : List Cond := Cond.code y_M_read c_M_read 2 (some .int) :: zB
abbrev c_M_word : ByteArray := prog_4_method_17_code
abbrev y_M_word : MethodName := ⟨"ZoneHeapModel", "word", "(I)I"⟩
theorem kc_M_word : Cond.code y_M_word c_M_word 2 (some .int) ∈ zB := zkm 561 (by decide +kernel) rfl
def w_M_word : List Cond := Cond.code y_M_word c_M_word 2 (some .int) :: zB
abbrev c_M_lost : ByteArray := prog_4_method_22_code
abbrev y_M_lost : MethodName := ⟨"ZoneHeapModel", "lost", "(II)I"⟩
theorem kc_M_lost : Cond.code y_M_lost c_M_lost 6 (some .int) ∈ zB := zkm 565 (by decide +kernel) rfl
def w_M_lost : List Cond := Cond.code y_M_lost c_M_lost 6 (some .int) :: zB
abbrev c_M_touch : ByteArray := prog_4_method_21_code
abbrev y_M_touch : MethodName := ⟨"ZoneHeapModel", "touch", "(I)Z"⟩
theorem kc_M_touch : Cond.code y_M_touch c_M_touch 3 (some .boolean) ∈ zB := zkm 569 (by decide +kernel) rfl
def w_M_touch : List Cond := Cond.code y_M_touch c_M_touch 3 (some .boolean) :: zB
abbrev c_M_leads : ByteArray := prog_4_method_20_code
abbrev y_M_leads : MethodName := ⟨"ZoneHeapModel", "leads", "(I)I"⟩
theorem kc_M_leads : Cond.code y_M_leads c_M_leads 3 (some .int) ∈ zB := zkm 573 (by decide +kernel) rfl
def w_M_leads : List Cond := Cond.code y_M_leads c_M_leads 3 (some .int) :: zB
abbrev c_M_lostAt : ByteArray := prog_4_method_23_code
abbrev y_M_lostAt : MethodName := ⟨"ZoneHeapModel", "lostAt", "(I)I"⟩
theorem kc_M_lostAt : Cond.code y_M_lostAt c_M_lostAt 2 (some .int) ∈ zB := zkm 577 (by decide +kernel) rfl
def w_M_lostAt : List Cond := Cond.code y_M_lostAt c_M_lostAt 2 (some .int) :: zB
abbrev c_M_count : ByteArray := prog_4_method_24_code
abbrev y_M_count : MethodName := ⟨"ZoneHeapModel", "count", "(I)I"⟩
theorem kc_M_count : Cond.code y_M_count c_M_count 5 (some .int) ∈ zB := zkm 581 (by decide +kernel) rfl
def w_M_count : List Cond := Cond.code y_M_count c_M_count 5 (some .int) :: zB
abbrev c_L_law : ByteArray := code
abbrev y_L_law : MethodName := ⟨"ZoneHeapLaw", "law", "([I)Z"⟩
theorem zk0 : (Jvm.Cond.initialized "ZoneHeapLaw") ∈ zB := zkm 0 (by decide +kernel) rfl
theorem zk1 : (Jvm.Cond.initialized "ZoneHeap") ∈ zB := zkm 1 (by decide +kernel) rfl
theorem zk2 : (Jvm.Cond.initialized "java/util/AbstractCollection") ∈ zB := zkm 2 (by decide +kernel) rfl
theorem zk3 : (Jvm.Cond.initialized "java/util/AbstractList") ∈ zB := zkm 3 (by decide +kernel) rfl
theorem zk4 : (Jvm.Cond.initialized "java/util/ArrayList") ∈ zB := zkm 4 (by decide +kernel) rfl
theorem zk5 : (Jvm.Cond.initialized "ZoneHeapModel") ∈ zB := zkm 5 (by decide +kernel) rfl
theorem zk6 : (Jvm.Cond.initialized "java/lang/Throwable") ∈ zB := zkm 6 (by decide +kernel) rfl
theorem zk7 : (Jvm.Cond.initialized "java/lang/Exception") ∈ zB := zkm 7 (by decide +kernel) rfl
theorem zk8 : (Jvm.Cond.initialized "java/lang/RuntimeException") ∈ zB := zkm 8 (by decide +kernel) rfl
theorem zk9 : (Jvm.Cond.initialized "java/lang/IllegalArgumentException") ∈ zB := zkm 9 (by decide +kernel) rfl
theorem zk10 : (Jvm.Cond.initialized "java/lang/Math") ∈ zB := zkm 10 (by decide +kernel) rfl
theorem zk11 : (Jvm.Cond.initialized "ZoneHeap$Block") ∈ zB := zkm 11 (by decide +kernel) rfl
theorem zk12 : (Jvm.Cond.initialized "java/lang/IllegalStateException") ∈ zB := zkm 12 (by decide +kernel) rfl
theorem zk13 : (Jvm.Cond.initialized "jdk/internal/util/ArraysSupport") ∈ zB := zkm 13 (by decide +kernel) rfl
theorem zk14 : (Jvm.Cond.initialized "java/util/Arrays") ∈ zB := zkm 14 (by decide +kernel) rfl
theorem zk15 : (Jvm.Cond.initialized "java/lang/System") ∈ zB := zkm 15 (by decide +kernel) rfl
theorem zk16 : (Jvm.Cond.initialized "java/util/Objects") ∈ zB := zkm 16 (by decide +kernel) rfl
theorem zk17 : (Jvm.Cond.initialized "jdk/internal/util/Preconditions") ∈ zB := zkm 17 (by decide +kernel) rfl
theorem zk18 : (Jvm.Cond.initialized "java/lang/IndexOutOfBoundsException") ∈ zB := zkm 18 (by decide +kernel) rfl
theorem zk19 : (Jvm.Cond.classLink "ZoneHeapLaw" (8 : Nat) "ZoneHeap") ∈ zB := zkm 19 (by decide +kernel) rfl
theorem zk20 : (Jvm.Cond.instantiable "ZoneHeap" (11 : Nat)) ∈ zB := zkm 20 (by decide +kernel) rfl
theorem zk21 : (Jvm.Cond.methodLink "ZoneHeapLaw" (45 : Nat) ({ cls := "ZoneHeap", name := "<init>", desc := "()V" } : Jvm.MethodName)) ∈ zB := zkm 21 (by decide +kernel) rfl
theorem zk22 : (Jvm.Cond.instanceMethod ({ cls := "ZoneHeap", name := "<init>", desc := "()V" } : Jvm.MethodName)) ∈ zB := zkm 22 (by decide +kernel) rfl
theorem zk24 : (Jvm.Cond.methodLink "ZoneHeap" (3 : Nat) ({ cls := "java/lang/Object", name := "<init>", desc := "()V" } : Jvm.MethodName)) ∈ zB := zkm 24 (by decide +kernel) rfl
theorem zk25 : (Jvm.Cond.instanceMethod ({ cls := "java/lang/Object", name := "<init>", desc := "()V" } : Jvm.MethodName)) ∈ zB := zkm 25 (by decide +kernel) rfl
theorem zk27 : (Jvm.Cond.classLink "ZoneHeap" (13 : Nat) "ZoneHeap$Block") ∈ zB := zkm 27 (by decide +kernel) rfl
theorem zk29 : (Jvm.Cond.classLink "ZoneHeap" (19 : Nat) "java/util/ArrayList") ∈ zB := zkm 29 (by decide +kernel) rfl
theorem zk30 : (Jvm.Cond.instantiable "java/util/ArrayList" (3 : Nat)) ∈ zB := zkm 30 (by decide +kernel) rfl
theorem zk31 : (Jvm.Cond.methodLink "ZoneHeap" (21 : Nat) ({ cls := "java/util/ArrayList", name := "<init>", desc := "()V" } : Jvm.MethodName)) ∈ zB := zkm 31 (by decide +kernel) rfl
theorem zk32 : (Jvm.Cond.instanceMethod ({ cls := "java/util/ArrayList", name := "<init>", desc := "()V" } : Jvm.MethodName)) ∈ zB := zkm 32 (by decide +kernel) rfl
theorem zk34 : (Jvm.Cond.methodLink "java/util/ArrayList" (1 : Nat) ({ cls := "java/util/AbstractList", name := "<init>", desc := "()V" } : Jvm.MethodName)) ∈ zB := zkm 34 (by decide +kernel) rfl
theorem zk35 : (Jvm.Cond.instanceMethod ({ cls := "java/util/AbstractList", name := "<init>", desc := "()V" } : Jvm.MethodName)) ∈ zB := zkm 35 (by decide +kernel) rfl
theorem zk37 : (Jvm.Cond.methodLink "java/util/AbstractList" (1 : Nat) ({ cls := "java/util/AbstractCollection", name := "<init>", desc := "()V" } : Jvm.MethodName)) ∈ zB := zkm 37 (by decide +kernel) rfl
theorem zk38 : (Jvm.Cond.instanceMethod ({ cls := "java/util/AbstractCollection", name := "<init>", desc := "()V" } : Jvm.MethodName)) ∈ zB := zkm 38 (by decide +kernel) rfl
theorem zk40 : (Jvm.Cond.methodLink "java/util/AbstractCollection" (1 : Nat) ({ cls := "java/lang/Object", name := "<init>", desc := "()V" } : Jvm.MethodName)) ∈ zB := zkm 40 (by decide +kernel) rfl
theorem zk41 : (Jvm.Cond.fieldLink "java/util/ArrayList" (39 : Nat) "java/util/ArrayList" "DEFAULTCAPACITY_EMPTY_ELEMENTDATA" "[Ljava/lang/Object;") ∈ zB := zkm 41 (by decide +kernel) rfl
theorem zk43 : (Jvm.Cond.fieldLink "java/util/ArrayList" (9 : Nat) "java/util/ArrayList" "elementData" "[Ljava/lang/Object;") ∈ zB := zkm 43 (by decide +kernel) rfl
theorem zk44 : (Jvm.Cond.fieldLink "java/util/ArrayList" (48 : Nat) "java/util/ArrayList" "size" "I") ∈ zB := zkm 44 (by decide +kernel) rfl
theorem zk45 : (Jvm.Cond.fieldLink "java/util/AbstractList" (7 : Nat) "java/util/AbstractList" "modCount" "I") ∈ zB := zkm 45 (by decide +kernel) rfl
theorem zk46 : (Jvm.Cond.fieldLink "java/util/ArrayList" (63 : Nat) "java/util/ArrayList" "modCount" "I") ∈ zB := zkm 46 (by decide +kernel) rfl
theorem zk47 : (Jvm.Cond.sameField "java/util/ArrayList" "java/util/AbstractList" "modCount" "I") ∈ zB := zkm 47 (by decide +kernel) rfl
theorem zk55 : (Jvm.Cond.arrayClass Jvm.ClassFile.FieldType.byte) ∈ zB := zkm 55 (by decide +kernel) rfl
theorem zk56 : (Jvm.Cond.fieldLink "ZoneHeap" (9 : Nat) "ZoneHeap" "octets" "[B") ∈ zB := zkm 56 (by decide +kernel) rfl
theorem zk57 : (Jvm.Cond.fieldLink "ZoneHeap" (15 : Nat) "ZoneHeap" "takers" "[LZoneHeap$Block;") ∈ zB := zkm 57 (by decide +kernel) rfl
theorem zk58 : (Jvm.Cond.fieldLink "ZoneHeap" (22 : Nat) "ZoneHeap" "keptBlocks" "Ljava/util/ArrayList;") ∈ zB := zkm 58 (by decide +kernel) rfl
theorem zk59 : (Jvm.Cond.fieldLink "ZoneHeap" (26 : Nat) "ZoneHeap" "keptOctets" "I") ∈ zB := zkm 59 (by decide +kernel) rfl
theorem zk60 : (Jvm.Cond.fieldLink "ZoneHeap" (30 : Nat) "ZoneHeap" "liveBlocks" "I") ∈ zB := zkm 60 (by decide +kernel) rfl
theorem zk61 : (Jvm.Cond.fieldLink "ZoneHeap" (33 : Nat) "ZoneHeap" "liveOctets" "I") ∈ zB := zkm 61 (by decide +kernel) rfl
theorem zk62 : (Jvm.Cond.fieldLink "ZoneHeap" (36 : Nat) "ZoneHeap" "madeBlocks" "I") ∈ zB := zkm 62 (by decide +kernel) rfl
theorem zk63 : (Jvm.Cond.fieldLink "ZoneHeap" (39 : Nat) "ZoneHeap" "reachedBlocks" "[LZoneHeap$Block;") ∈ zB := zkm 63 (by decide +kernel) rfl
theorem zk64 : (Jvm.Cond.fieldLink "ZoneHeap" (42 : Nat) "ZoneHeap" "reachedCount" "I") ∈ zB := zkm 64 (by decide +kernel) rfl
theorem zk65 : (Jvm.Cond.fieldLink "ZoneHeap" (45 : Nat) "ZoneHeap" "lostStarts" "[I") ∈ zB := zkm 65 (by decide +kernel) rfl
theorem zk66 : (Jvm.Cond.fieldLink "ZoneHeap" (49 : Nat) "ZoneHeap" "lostCount" "I") ∈ zB := zkm 66 (by decide +kernel) rfl
theorem zk90 : (Jvm.Cond.arrayClass Jvm.ClassFile.FieldType.int) ∈ zB := zkm 90 (by decide +kernel) rfl
theorem zk91 : (Jvm.Cond.methodLink "ZoneHeapLaw" (79 : Nat) ({ cls := "ZoneHeap", name := "lost", desc := "(II)I" } : Jvm.MethodName)) ∈ zB := zkm 91 (by decide +kernel) rfl
theorem zk92 : (Jvm.Cond.instanceMethod ({ cls := "ZoneHeap", name := "lost", desc := "(II)I" } : Jvm.MethodName)) ∈ zB := zkm 92 (by decide +kernel) rfl
theorem zk93 : (Jvm.Cond.selects "ZoneHeap" ({ cls := "ZoneHeap", name := "lost", desc := "(II)I" } : Jvm.MethodName) ({ cls := "ZoneHeap", name := "lost", desc := "(II)I" } : Jvm.MethodName)) ∈ zB := zkm 93 (by decide +kernel) rfl
theorem zk95 : (Jvm.Cond.methodLink "ZoneHeap" (109 : Nat) ({ cls := "ZoneHeap", name := "forgetReached", desc := "()V" } : Jvm.MethodName)) ∈ zB := zkm 95 (by decide +kernel) rfl
theorem zk97 : (Jvm.Cond.instanceMethod ({ cls := "ZoneHeap", name := "forgetReached", desc := "()V" } : Jvm.MethodName)) ∈ zB := zkm 97 (by decide +kernel) rfl
theorem zk99 : (Jvm.Cond.methodLink "ZoneHeap" (112 : Nat) ({ cls := "ZoneHeap", name := "reach", desc := "(I)V" } : Jvm.MethodName)) ∈ zB := zkm 99 (by decide +kernel) rfl
theorem zk101 : (Jvm.Cond.instanceMethod ({ cls := "ZoneHeap", name := "reach", desc := "(I)V" } : Jvm.MethodName)) ∈ zB := zkm 101 (by decide +kernel) rfl
theorem zk103 : (Jvm.Cond.methodLink "ZoneHeap" (191 : Nat) ({ cls := "ZoneHeap", name := "ledToBy", desc := "(I)LZoneHeap$Block;" } : Jvm.MethodName)) ∈ zB := zkm 103 (by decide +kernel) rfl
theorem zk105 : (Jvm.Cond.instanceMethod ({ cls := "ZoneHeap", name := "ledToBy", desc := "(I)LZoneHeap$Block;" } : Jvm.MethodName)) ∈ zB := zkm 105 (by decide +kernel) rfl
theorem zk107 : (Jvm.Cond.methodLink "ZoneHeap" (150 : Nat) ({ cls := "ZoneHeap", name := "standingAt", desc := "(I)LZoneHeap$Block;" } : Jvm.MethodName)) ∈ zB := zkm 107 (by decide +kernel) rfl
theorem zk109 : (Jvm.Cond.instanceMethod ({ cls := "ZoneHeap", name := "standingAt", desc := "(I)LZoneHeap$Block;" } : Jvm.MethodName)) ∈ zB := zkm 109 (by decide +kernel) rfl
theorem zk111 : (Jvm.Cond.methodLink "ZoneHeap" (138 : Nat) ({ cls := "ZoneHeap", name := "isOctet", desc := "(I)Z" } : Jvm.MethodName)) ∈ zB := zkm 111 (by decide +kernel) rfl
theorem zk112 : (Jvm.Cond.static ({ cls := "ZoneHeap", name := "isOctet", desc := "(I)Z" } : Jvm.MethodName)) ∈ zB := zkm 112 (by decide +kernel) rfl
theorem zk114 : (Jvm.Cond.methodLink "ZoneHeap" (99 : Nat) ({ cls := "ZoneHeap", name := "liveHaving", desc := "(I)LZoneHeap$Block;" } : Jvm.MethodName)) ∈ zB := zkm 114 (by decide +kernel) rfl
theorem zk116 : (Jvm.Cond.instanceMethod ({ cls := "ZoneHeap", name := "liveHaving", desc := "(I)LZoneHeap$Block;" } : Jvm.MethodName)) ∈ zB := zkm 116 (by decide +kernel) rfl
theorem zk120 : (Jvm.Cond.instanceMethod ({ cls := "ZoneHeap$Block", name := "has", desc := "(I)Z" } : Jvm.MethodName)) ∈ zB := zkm 120 (by decide +kernel) rfl
theorem zk121 : (Jvm.Cond.instantiable "ZoneHeap$Block" (4 : Nat)) ∈ zB := zkm 121 (by decide +kernel) rfl
theorem zk123 : (Jvm.Cond.methodLink "ZoneHeap" (115 : Nat) ({ cls := "ZoneHeap", name := "reachFromWordsOf", desc := "(LZoneHeap$Block;)V" } : Jvm.MethodName)) ∈ zB := zkm 123 (by decide +kernel) rfl
theorem zk125 : (Jvm.Cond.instanceMethod ({ cls := "ZoneHeap", name := "reachFromWordsOf", desc := "(LZoneHeap$Block;)V" } : Jvm.MethodName)) ∈ zB := zkm 125 (by decide +kernel) rfl
theorem zk127 : (Jvm.Cond.methodLink "ZoneHeap" (105 : Nat) ({ cls := "ZoneHeap", name := "wordAt", desc := "(I)I" } : Jvm.MethodName)) ∈ zB := zkm 127 (by decide +kernel) rfl
theorem zk129 : (Jvm.Cond.instanceMethod ({ cls := "ZoneHeap", name := "wordAt", desc := "(I)I" } : Jvm.MethodName)) ∈ zB := zkm 129 (by decide +kernel) rfl
theorem zk131 : (Jvm.Cond.methodLink "ZoneHeap" (118 : Nat) ({ cls := "ZoneHeap", name := "noteLost", desc := "()V" } : Jvm.MethodName)) ∈ zB := zkm 131 (by decide +kernel) rfl
theorem zk133 : (Jvm.Cond.instanceMethod ({ cls := "ZoneHeap", name := "noteLost", desc := "()V" } : Jvm.MethodName)) ∈ zB := zkm 133 (by decide +kernel) rfl
theorem zk135 : (Jvm.Cond.methodLink "ZoneHeapLaw" (49 : Nat) ({ cls := "ZoneHeapLaw", name := "get", desc := "(LZoneHeap;I[J)I" } : Jvm.MethodName)) ∈ zB := zkm 135 (by decide +kernel) rfl
theorem zk136 : (Jvm.Cond.static ({ cls := "ZoneHeapLaw", name := "get", desc := "(LZoneHeap;I[J)I" } : Jvm.MethodName)) ∈ zB := zkm 136 (by decide +kernel) rfl
theorem zk138 : (Jvm.Cond.classLink "ZoneHeapLaw" (13 : Nat) "java/lang/IllegalArgumentException") ∈ zB := zkm 138 (by decide +kernel) rfl
theorem zk139 : (Jvm.Cond.methodLink "ZoneHeapLaw" (7 : Nat) ({ cls := "ZoneHeap", name := "get", desc := "(I)I" } : Jvm.MethodName)) ∈ zB := zkm 139 (by decide +kernel) rfl
theorem zk140 : (Jvm.Cond.instanceMethod ({ cls := "ZoneHeap", name := "get", desc := "(I)I" } : Jvm.MethodName)) ∈ zB := zkm 140 (by decide +kernel) rfl
theorem zk141 : (Jvm.Cond.selects "ZoneHeap" ({ cls := "ZoneHeap", name := "get", desc := "(I)I" } : Jvm.MethodName) ({ cls := "ZoneHeap", name := "get", desc := "(I)I" } : Jvm.MethodName)) ∈ zB := zkm 141 (by decide +kernel) rfl
theorem zk143 : (Jvm.Cond.methodLink "ZoneHeap" (52 : Nat) ({ cls := "ZoneHeap", name := "refuseWrongSize", desc := "(I)V" } : Jvm.MethodName)) ∈ zB := zkm 143 (by decide +kernel) rfl
theorem zk144 : (Jvm.Cond.static ({ cls := "ZoneHeap", name := "refuseWrongSize", desc := "(I)V" } : Jvm.MethodName)) ∈ zB := zkm 144 (by decide +kernel) rfl
theorem zk146 : (Jvm.Cond.classLink "ZoneHeap" (131 : Nat) "java/lang/IllegalArgumentException") ∈ zB := zkm 146 (by decide +kernel) rfl
theorem zk147 : (Jvm.Cond.instantiable "java/lang/IllegalArgumentException" (6 : Nat)) ∈ zB := zkm 147 (by decide +kernel) rfl
theorem zk155 : (Jvm.Cond.selects "java/lang/IllegalArgumentException" ({ cls := "java/lang/Throwable", name := "fillInStackTrace", desc := "(I)Ljava/lang/Throwable;" } : Jvm.MethodName) ({ cls := "java/lang/Throwable", name := "fillInStackTrace", desc := "(I)Ljava/lang/Throwable;" } : Jvm.MethodName)) ∈ zB := zkm 155 (by decide +kernel) rfl
theorem zk156 : (Jvm.Cond.selects "java/lang/IllegalArgumentException" ({ cls := "java/lang/Throwable", name := "fillInStackTrace", desc := "()Ljava/lang/Throwable;" } : Jvm.MethodName) ({ cls := "java/lang/Throwable", name := "fillInStackTrace", desc := "()Ljava/lang/Throwable;" } : Jvm.MethodName)) ∈ zB := zkm 156 (by decide +kernel) rfl
theorem zk167 : (Jvm.Cond.fieldLink "java/lang/Throwable" (198 : Nat) "java/lang/Throwable" "backtrace" "Ljava/lang/Object;") ∈ zB := zkm 167 (by decide +kernel) rfl
theorem zk169 : (Jvm.Cond.instanceMethod ({ cls := "java/lang/Throwable", name := "<init>", desc := "()V" } : Jvm.MethodName)) ∈ zB := zkm 169 (by decide +kernel) rfl
theorem zk171 : (Jvm.Cond.methodLink "java/lang/Throwable" (1 : Nat) ({ cls := "java/lang/Object", name := "<init>", desc := "()V" } : Jvm.MethodName)) ∈ zB := zkm 171 (by decide +kernel) rfl
theorem zk172 : (Jvm.Cond.fieldLink "java/lang/Throwable" (13 : Nat) "java/lang/Throwable" "UNASSIGNED_STACK" "[Ljava/lang/StackTraceElement;") ∈ zB := zkm 172 (by decide +kernel) rfl
theorem zk174 : (Jvm.Cond.fieldLink "java/lang/Throwable" (20 : Nat) "java/lang/Throwable" "SUPPRESSED_SENTINEL" "Ljava/util/List;") ∈ zB := zkm 174 (by decide +kernel) rfl
theorem zk176 : (Jvm.Cond.methodLink "java/lang/Throwable" (27 : Nat) ({ cls := "java/lang/Throwable", name := "fillInStackTrace", desc := "()Ljava/lang/Throwable;" } : Jvm.MethodName)) ∈ zB := zkm 176 (by decide +kernel) rfl
theorem zk177 : (Jvm.Cond.instanceMethod ({ cls := "java/lang/Throwable", name := "fillInStackTrace", desc := "()Ljava/lang/Throwable;" } : Jvm.MethodName)) ∈ zB := zkm 177 (by decide +kernel) rfl
theorem zk178 : (Jvm.Cond.sameMethod "java/lang/Throwable" "java/lang/Throwable" "fillInStackTrace" "()Ljava/lang/Throwable;") ∈ zB := zkm 178 (by decide +kernel) rfl
theorem zk179 : (Jvm.Cond.selects "java/lang/IllegalStateException" ({ cls := "java/lang/Throwable", name := "fillInStackTrace", desc := "()Ljava/lang/Throwable;" } : Jvm.MethodName) ({ cls := "java/lang/Throwable", name := "fillInStackTrace", desc := "()Ljava/lang/Throwable;" } : Jvm.MethodName)) ∈ zB := zkm 179 (by decide +kernel) rfl
theorem zk180 : (Jvm.Cond.selects "java/lang/IndexOutOfBoundsException" ({ cls := "java/lang/Throwable", name := "fillInStackTrace", desc := "()Ljava/lang/Throwable;" } : Jvm.MethodName) ({ cls := "java/lang/Throwable", name := "fillInStackTrace", desc := "()Ljava/lang/Throwable;" } : Jvm.MethodName)) ∈ zB := zkm 180 (by decide +kernel) rfl
theorem zk182 : (Jvm.Cond.methodLink "java/lang/Throwable" (202 : Nat) ({ cls := "java/lang/Throwable", name := "fillInStackTrace", desc := "(I)Ljava/lang/Throwable;" } : Jvm.MethodName)) ∈ zB := zkm 182 (by decide +kernel) rfl
theorem zk184 : (Jvm.Cond.instanceMethod ({ cls := "java/lang/Throwable", name := "fillInStackTrace", desc := "(I)Ljava/lang/Throwable;" } : Jvm.MethodName)) ∈ zB := zkm 184 (by decide +kernel) rfl
theorem zk185 : (Jvm.Cond.instantiable "java/lang/Throwable" (6 : Nat)) ∈ zB := zkm 185 (by decide +kernel) rfl
theorem zk186 : (Jvm.Cond.native ({ cls := "java/lang/Throwable", name := "fillInStackTrace", desc := "(I)Ljava/lang/Throwable;" } : Jvm.MethodName)) ∈ zB := zkm 186 (by decide +kernel) rfl
theorem zk188 : (Jvm.Cond.methodLink "ZoneHeap" (135 : Nat) ({ cls := "java/lang/IllegalArgumentException", name := "<init>", desc := "(Ljava/lang/String;)V" } : Jvm.MethodName)) ∈ zB := zkm 188 (by decide +kernel) rfl
theorem zk189 : (Jvm.Cond.instanceMethod ({ cls := "java/lang/IllegalArgumentException", name := "<init>", desc := "(Ljava/lang/String;)V" } : Jvm.MethodName)) ∈ zB := zkm 189 (by decide +kernel) rfl
theorem zk191 : (Jvm.Cond.methodLink "java/lang/IllegalArgumentException" (7 : Nat) ({ cls := "java/lang/RuntimeException", name := "<init>", desc := "(Ljava/lang/String;)V" } : Jvm.MethodName)) ∈ zB := zkm 191 (by decide +kernel) rfl
theorem zk192 : (Jvm.Cond.instanceMethod ({ cls := "java/lang/RuntimeException", name := "<init>", desc := "(Ljava/lang/String;)V" } : Jvm.MethodName)) ∈ zB := zkm 192 (by decide +kernel) rfl
theorem zk194 : (Jvm.Cond.methodLink "java/lang/RuntimeException" (7 : Nat) ({ cls := "java/lang/Exception", name := "<init>", desc := "(Ljava/lang/String;)V" } : Jvm.MethodName)) ∈ zB := zkm 194 (by decide +kernel) rfl
theorem zk195 : (Jvm.Cond.instanceMethod ({ cls := "java/lang/Exception", name := "<init>", desc := "(Ljava/lang/String;)V" } : Jvm.MethodName)) ∈ zB := zkm 195 (by decide +kernel) rfl
theorem zk197 : (Jvm.Cond.methodLink "java/lang/Exception" (7 : Nat) ({ cls := "java/lang/Throwable", name := "<init>", desc := "(Ljava/lang/String;)V" } : Jvm.MethodName)) ∈ zB := zkm 197 (by decide +kernel) rfl
theorem zk198 : (Jvm.Cond.instanceMethod ({ cls := "java/lang/Throwable", name := "<init>", desc := "(Ljava/lang/String;)V" } : Jvm.MethodName)) ∈ zB := zkm 198 (by decide +kernel) rfl
theorem zk200 : (Jvm.Cond.fieldLink "java/lang/Throwable" (198 : Nat) "java/lang/Throwable" "backtrace" "Ljava/lang/Object;") ∈ zB := zkm 200 (by decide +kernel) rfl
theorem zk201 : (Jvm.Cond.fieldLink "java/lang/Throwable" (31 : Nat) "java/lang/Throwable" "detailMessage" "Ljava/lang/String;") ∈ zB := zkm 201 (by decide +kernel) rfl
theorem zk202 : (Jvm.Cond.fieldLink "java/lang/Throwable" (7 : Nat) "java/lang/Throwable" "cause" "Ljava/lang/Throwable;") ∈ zB := zkm 202 (by decide +kernel) rfl
theorem zk203 : (Jvm.Cond.fieldLink "java/lang/Throwable" (17 : Nat) "java/lang/Throwable" "stackTrace" "[Ljava/lang/StackTraceElement;") ∈ zB := zkm 203 (by decide +kernel) rfl
theorem zk204 : (Jvm.Cond.fieldLink "java/lang/Throwable" (24 : Nat) "java/lang/Throwable" "suppressedExceptions" "Ljava/util/List;") ∈ zB := zkm 204 (by decide +kernel) rfl
theorem zk213 : (Jvm.Cond.methodLink "ZoneHeap" (56 : Nat) ({ cls := "ZoneHeap", name := "make", desc := "(I)LZoneHeap$Block;" } : Jvm.MethodName)) ∈ zB := zkm 213 (by decide +kernel) rfl
theorem zk215 : (Jvm.Cond.instanceMethod ({ cls := "ZoneHeap", name := "make", desc := "(I)LZoneHeap$Block;" } : Jvm.MethodName)) ∈ zB := zkm 215 (by decide +kernel) rfl
theorem zk217 : (Jvm.Cond.methodLink "ZoneHeap" (157 : Nat) ({ cls := "ZoneHeap", name := "cellsFor", desc := "(I)I" } : Jvm.MethodName)) ∈ zB := zkm 217 (by decide +kernel) rfl
theorem zk218 : (Jvm.Cond.static ({ cls := "ZoneHeap", name := "cellsFor", desc := "(I)I" } : Jvm.MethodName)) ∈ zB := zkm 218 (by decide +kernel) rfl
theorem zk220 : (Jvm.Cond.methodLink "ZoneHeap" (170 : Nat) ({ cls := "java/lang/Math", name := "max", desc := "(II)I" } : Jvm.MethodName)) ∈ zB := zkm 220 (by decide +kernel) rfl
theorem zk221 : (Jvm.Cond.static ({ cls := "java/lang/Math", name := "max", desc := "(II)I" } : Jvm.MethodName)) ∈ zB := zkm 221 (by decide +kernel) rfl
theorem zk223 : (Jvm.Cond.methodLink "ZoneHeap" (160 : Nat) ({ cls := "ZoneHeap", name := "firstRoomFor", desc := "(I)I" } : Jvm.MethodName)) ∈ zB := zkm 223 (by decide +kernel) rfl
theorem zk225 : (Jvm.Cond.instanceMethod ({ cls := "ZoneHeap", name := "firstRoomFor", desc := "(I)I" } : Jvm.MethodName)) ∈ zB := zkm 225 (by decide +kernel) rfl
theorem zk228 : (Jvm.Cond.instanceMethod ({ cls := "ZoneHeap$Block", name := "<init>", desc := "(II)V" } : Jvm.MethodName)) ∈ zB := zkm 228 (by decide +kernel) rfl
theorem zk230 : (Jvm.Cond.methodLink "ZoneHeap$Block" (1 : Nat) ({ cls := "java/lang/Object", name := "<init>", desc := "()V" } : Jvm.MethodName)) ∈ zB := zkm 230 (by decide +kernel) rfl
theorem zk231 : (Jvm.Cond.fieldLink "ZoneHeap$Block" (16 : Nat) "ZoneHeap$Block" "start" "I") ∈ zB := zkm 231 (by decide +kernel) rfl
theorem zk233 : (Jvm.Cond.fieldLink "ZoneHeap$Block" (20 : Nat) "ZoneHeap$Block" "size" "I") ∈ zB := zkm 233 (by decide +kernel) rfl
theorem zk235 : (Jvm.Cond.fieldLink "ZoneHeap$Block" (7 : Nat) "ZoneHeap$Block" "kept" "Z") ∈ zB := zkm 235 (by decide +kernel) rfl
theorem zk237 : (Jvm.Cond.fieldLink "ZoneHeap$Block" (13 : Nat) "ZoneHeap$Block" "reached" "Z") ∈ zB := zkm 237 (by decide +kernel) rfl
theorem zk248 : (Jvm.Cond.methodLink "ZoneHeap" (166 : Nat) ({ cls := "ZoneHeap", name := "setTaker", desc := "(LZoneHeap$Block;LZoneHeap$Block;)V" } : Jvm.MethodName)) ∈ zB := zkm 248 (by decide +kernel) rfl
theorem zk250 : (Jvm.Cond.instanceMethod ({ cls := "ZoneHeap", name := "setTaker", desc := "(LZoneHeap$Block;LZoneHeap$Block;)V" } : Jvm.MethodName)) ∈ zB := zkm 250 (by decide +kernel) rfl
theorem zk252 : (Jvm.Cond.methodLink "ZoneHeapLaw" (59 : Nat) ({ cls := "ZoneHeapLaw", name := "back", desc := "(LZoneHeap;I[J)I" } : Jvm.MethodName)) ∈ zB := zkm 252 (by decide +kernel) rfl
theorem zk253 : (Jvm.Cond.static ({ cls := "ZoneHeapLaw", name := "back", desc := "(LZoneHeap;I[J)I" } : Jvm.MethodName)) ∈ zB := zkm 253 (by decide +kernel) rfl
theorem zk255 : (Jvm.Cond.classLink "ZoneHeapLaw" (18 : Nat) "java/lang/IllegalStateException") ∈ zB := zkm 255 (by decide +kernel) rfl
theorem zk256 : (Jvm.Cond.methodLink "ZoneHeapLaw" (15 : Nat) ({ cls := "ZoneHeap", name := "back", desc := "(I)I" } : Jvm.MethodName)) ∈ zB := zkm 256 (by decide +kernel) rfl
theorem zk257 : (Jvm.Cond.instanceMethod ({ cls := "ZoneHeap", name := "back", desc := "(I)I" } : Jvm.MethodName)) ∈ zB := zkm 257 (by decide +kernel) rfl
theorem zk258 : (Jvm.Cond.selects "ZoneHeap" ({ cls := "ZoneHeap", name := "back", desc := "(I)I" } : Jvm.MethodName) ({ cls := "ZoneHeap", name := "back", desc := "(I)I" } : Jvm.MethodName)) ∈ zB := zkm 258 (by decide +kernel) rfl
theorem zk260 : (Jvm.Cond.methodLink "ZoneHeap" (63 : Nat) ({ cls := "ZoneHeap", name := "liveStandingAt", desc := "(I)LZoneHeap$Block;" } : Jvm.MethodName)) ∈ zB := zkm 260 (by decide +kernel) rfl
theorem zk262 : (Jvm.Cond.instanceMethod ({ cls := "ZoneHeap", name := "liveStandingAt", desc := "(I)LZoneHeap$Block;" } : Jvm.MethodName)) ∈ zB := zkm 262 (by decide +kernel) rfl
theorem zk265 : (Jvm.Cond.classLink "ZoneHeap" (145 : Nat) "java/lang/IllegalStateException") ∈ zB := zkm 265 (by decide +kernel) rfl
theorem zk266 : (Jvm.Cond.instantiable "java/lang/IllegalStateException" (6 : Nat)) ∈ zB := zkm 266 (by decide +kernel) rfl
theorem zk268 : (Jvm.Cond.selects "java/lang/IllegalStateException" ({ cls := "java/lang/Throwable", name := "fillInStackTrace", desc := "(I)Ljava/lang/Throwable;" } : Jvm.MethodName) ({ cls := "java/lang/Throwable", name := "fillInStackTrace", desc := "(I)Ljava/lang/Throwable;" } : Jvm.MethodName)) ∈ zB := zkm 268 (by decide +kernel) rfl
theorem zk275 : (Jvm.Cond.methodLink "ZoneHeap" (149 : Nat) ({ cls := "java/lang/IllegalStateException", name := "<init>", desc := "(Ljava/lang/String;)V" } : Jvm.MethodName)) ∈ zB := zkm 275 (by decide +kernel) rfl
theorem zk276 : (Jvm.Cond.instanceMethod ({ cls := "java/lang/IllegalStateException", name := "<init>", desc := "(Ljava/lang/String;)V" } : Jvm.MethodName)) ∈ zB := zkm 276 (by decide +kernel) rfl
theorem zk278 : (Jvm.Cond.methodLink "java/lang/IllegalStateException" (7 : Nat) ({ cls := "java/lang/RuntimeException", name := "<init>", desc := "(Ljava/lang/String;)V" } : Jvm.MethodName)) ∈ zB := zkm 278 (by decide +kernel) rfl
theorem zk281 : (Jvm.Cond.methodLink "ZoneHeap" (66 : Nat) ({ cls := "ZoneHeap", name := "giveBack", desc := "(LZoneHeap$Block;)V" } : Jvm.MethodName)) ∈ zB := zkm 281 (by decide +kernel) rfl
theorem zk283 : (Jvm.Cond.instanceMethod ({ cls := "ZoneHeap", name := "giveBack", desc := "(LZoneHeap$Block;)V" } : Jvm.MethodName)) ∈ zB := zkm 283 (by decide +kernel) rfl
theorem zk285 : (Jvm.Cond.methodLink "ZoneHeap" (173 : Nat) ({ cls := "java/util/ArrayList", name := "add", desc := "(Ljava/lang/Object;)Z" } : Jvm.MethodName)) ∈ zB := zkm 285 (by decide +kernel) rfl
theorem zk286 : (Jvm.Cond.instanceMethod ({ cls := "java/util/ArrayList", name := "add", desc := "(Ljava/lang/Object;)Z" } : Jvm.MethodName)) ∈ zB := zkm 286 (by decide +kernel) rfl
theorem zk287 : (Jvm.Cond.selects "java/util/ArrayList" ({ cls := "java/util/ArrayList", name := "add", desc := "(Ljava/lang/Object;)Z" } : Jvm.MethodName) ({ cls := "java/util/ArrayList", name := "add", desc := "(Ljava/lang/Object;)Z" } : Jvm.MethodName)) ∈ zB := zkm 287 (by decide +kernel) rfl
theorem zk289 : (Jvm.Cond.methodLink "java/util/ArrayList" (131 : Nat) ({ cls := "java/util/ArrayList", name := "add", desc := "(Ljava/lang/Object;[Ljava/lang/Object;I)V" } : Jvm.MethodName)) ∈ zB := zkm 289 (by decide +kernel) rfl
theorem zk291 : (Jvm.Cond.instanceMethod ({ cls := "java/util/ArrayList", name := "add", desc := "(Ljava/lang/Object;[Ljava/lang/Object;I)V" } : Jvm.MethodName)) ∈ zB := zkm 291 (by decide +kernel) rfl
theorem zk293 : (Jvm.Cond.methodLink "java/util/ArrayList" (129 : Nat) ({ cls := "java/util/ArrayList", name := "grow", desc := "()[Ljava/lang/Object;" } : Jvm.MethodName)) ∈ zB := zkm 293 (by decide +kernel) rfl
theorem zk295 : (Jvm.Cond.instanceMethod ({ cls := "java/util/ArrayList", name := "grow", desc := "()[Ljava/lang/Object;" } : Jvm.MethodName)) ∈ zB := zkm 295 (by decide +kernel) rfl
theorem zk297 : (Jvm.Cond.methodLink "java/util/ArrayList" (69 : Nat) ({ cls := "java/util/ArrayList", name := "grow", desc := "(I)[Ljava/lang/Object;" } : Jvm.MethodName)) ∈ zB := zkm 297 (by decide +kernel) rfl
theorem zk299 : (Jvm.Cond.instanceMethod ({ cls := "java/util/ArrayList", name := "grow", desc := "(I)[Ljava/lang/Object;" } : Jvm.MethodName)) ∈ zB := zkm 299 (by decide +kernel) rfl
theorem zk301 : (Jvm.Cond.methodLink "java/util/ArrayList" (73 : Nat) ({ cls := "jdk/internal/util/ArraysSupport", name := "newLength", desc := "(III)I" } : Jvm.MethodName)) ∈ zB := zkm 301 (by decide +kernel) rfl
theorem zk302 : (Jvm.Cond.static ({ cls := "jdk/internal/util/ArraysSupport", name := "newLength", desc := "(III)I" } : Jvm.MethodName)) ∈ zB := zkm 302 (by decide +kernel) rfl
theorem zk304 : (Jvm.Cond.methodLink "jdk/internal/util/ArraysSupport" (194 : Nat) ({ cls := "java/lang/Math", name := "max", desc := "(II)I" } : Jvm.MethodName)) ∈ zB := zkm 304 (by decide +kernel) rfl
theorem zk305 : (Jvm.Cond.constant "jdk/internal/util/ArraysSupport" (200 : Nat) (2147483639 : Int32)) ∈ zB := zkm 305 (by decide +kernel) rfl
theorem zk306 : (Jvm.Cond.methodLink "jdk/internal/util/ArraysSupport" (201 : Nat) ({ cls := "jdk/internal/util/ArraysSupport", name := "hugeLength", desc := "(II)I" } : Jvm.MethodName)) ∈ zB := zkm 306 (by decide +kernel) rfl
theorem zk307 : (Jvm.Cond.static ({ cls := "jdk/internal/util/ArraysSupport", name := "hugeLength", desc := "(II)I" } : Jvm.MethodName)) ∈ zB := zkm 307 (by decide +kernel) rfl
theorem zk309 : (Jvm.Cond.methodLink "java/util/ArrayList" (66 : Nat) ({ cls := "java/util/Arrays", name := "copyOf", desc := "([Ljava/lang/Object;I)[Ljava/lang/Object;" } : Jvm.MethodName)) ∈ zB := zkm 309 (by decide +kernel) rfl
theorem zk310 : (Jvm.Cond.static ({ cls := "java/util/Arrays", name := "copyOf", desc := "([Ljava/lang/Object;I)[Ljava/lang/Object;" } : Jvm.MethodName)) ∈ zB := zkm 310 (by decide +kernel) rfl
theorem zk312 : (Jvm.Cond.methodLink "java/util/Arrays" (86 : Nat) ({ cls := "java/lang/Object", name := "getClass", desc := "()Ljava/lang/Class;" } : Jvm.MethodName)) ∈ zB := zkm 312 (by decide +kernel) rfl
theorem zk313 : (Jvm.Cond.instanceMethod ({ cls := "java/lang/Object", name := "getClass", desc := "()Ljava/lang/Class;" } : Jvm.MethodName)) ∈ zB := zkm 313 (by decide +kernel) rfl
theorem zk314 : (Jvm.Cond.sameMethod "java/lang/Object" "java/lang/Object" "getClass" "()Ljava/lang/Class;") ∈ zB := zkm 314 (by decide +kernel) rfl
theorem zk315 : (Jvm.Cond.selects "ZoneHeap" ({ cls := "java/lang/Object", name := "getClass", desc := "()Ljava/lang/Class;" } : Jvm.MethodName) ({ cls := "java/lang/Object", name := "getClass", desc := "()Ljava/lang/Class;" } : Jvm.MethodName)) ∈ zB := zkm 315 (by decide +kernel) rfl
theorem zk316 : (Jvm.Cond.selects "ZoneHeap$Block" ({ cls := "java/lang/Object", name := "getClass", desc := "()Ljava/lang/Class;" } : Jvm.MethodName) ({ cls := "java/lang/Object", name := "getClass", desc := "()Ljava/lang/Class;" } : Jvm.MethodName)) ∈ zB := zkm 316 (by decide +kernel) rfl
theorem zk317 : (Jvm.Cond.selects "ZoneHeapModel" ({ cls := "java/lang/Object", name := "getClass", desc := "()Ljava/lang/Class;" } : Jvm.MethodName) ({ cls := "java/lang/Object", name := "getClass", desc := "()Ljava/lang/Class;" } : Jvm.MethodName)) ∈ zB := zkm 317 (by decide +kernel) rfl
theorem zk318 : (Jvm.Cond.selects "java/lang/IllegalArgumentException" ({ cls := "java/lang/Object", name := "getClass", desc := "()Ljava/lang/Class;" } : Jvm.MethodName) ({ cls := "java/lang/Object", name := "getClass", desc := "()Ljava/lang/Class;" } : Jvm.MethodName)) ∈ zB := zkm 318 (by decide +kernel) rfl
theorem zk319 : (Jvm.Cond.selects "java/lang/IllegalStateException" ({ cls := "java/lang/Object", name := "getClass", desc := "()Ljava/lang/Class;" } : Jvm.MethodName) ({ cls := "java/lang/Object", name := "getClass", desc := "()Ljava/lang/Class;" } : Jvm.MethodName)) ∈ zB := zkm 319 (by decide +kernel) rfl
theorem zk320 : (Jvm.Cond.selects "java/lang/IndexOutOfBoundsException" ({ cls := "java/lang/Object", name := "getClass", desc := "()Ljava/lang/Class;" } : Jvm.MethodName) ({ cls := "java/lang/Object", name := "getClass", desc := "()Ljava/lang/Class;" } : Jvm.MethodName)) ∈ zB := zkm 320 (by decide +kernel) rfl
theorem zk321 : (Jvm.Cond.selects "java/util/ArrayList" ({ cls := "java/lang/Object", name := "getClass", desc := "()Ljava/lang/Class;" } : Jvm.MethodName) ({ cls := "java/lang/Object", name := "getClass", desc := "()Ljava/lang/Class;" } : Jvm.MethodName)) ∈ zB := zkm 321 (by decide +kernel) rfl
theorem zk322 : (Jvm.Cond.native ({ cls := "java/lang/Object", name := "getClass", desc := "()Ljava/lang/Class;" } : Jvm.MethodName)) ∈ zB := zkm 322 (by decide +kernel) rfl
theorem zk323 : (Jvm.Cond.methodLink "java/util/Arrays" (300 : Nat) ({ cls := "java/util/Arrays", name := "copyOf", desc := "([Ljava/lang/Object;ILjava/lang/Class;)[Ljava/lang/Object;" } : Jvm.MethodName)) ∈ zB := zkm 323 (by decide +kernel) rfl
theorem zk324 : (Jvm.Cond.static ({ cls := "java/util/Arrays", name := "copyOf", desc := "([Ljava/lang/Object;ILjava/lang/Class;)[Ljava/lang/Object;" } : Jvm.MethodName)) ∈ zB := zkm 324 (by decide +kernel) rfl
theorem zk326 : (Jvm.Cond.classLink "java/util/Arrays" (110 : Nat) "[Ljava/lang/Object;") ∈ zB := zkm 326 (by decide +kernel) rfl
theorem zk328 : (Jvm.Cond.classLink "java/util/Arrays" (2 : Nat) "java/lang/Object") ∈ zB := zkm 328 (by decide +kernel) rfl
theorem zk329 : (Jvm.Cond.methodLink "java/util/Arrays" (304 : Nat) ({ cls := "java/lang/Math", name := "min", desc := "(II)I" } : Jvm.MethodName)) ∈ zB := zkm 329 (by decide +kernel) rfl
theorem zk330 : (Jvm.Cond.static ({ cls := "java/lang/Math", name := "min", desc := "(II)I" } : Jvm.MethodName)) ∈ zB := zkm 330 (by decide +kernel) rfl
theorem zk332 : (Jvm.Cond.methodLink "java/util/Arrays" (150 : Nat) ({ cls := "java/lang/System", name := "arraycopy", desc := "(Ljava/lang/Object;ILjava/lang/Object;II)V" } : Jvm.MethodName)) ∈ zB := zkm 332 (by decide +kernel) rfl
theorem zk333 : (Jvm.Cond.static ({ cls := "java/lang/System", name := "arraycopy", desc := "(Ljava/lang/Object;ILjava/lang/Object;II)V" } : Jvm.MethodName)) ∈ zB := zkm 333 (by decide +kernel) rfl
theorem zk334 : (Jvm.Cond.native ({ cls := "java/lang/System", name := "arraycopy", desc := "(Ljava/lang/Object;ILjava/lang/Object;II)V" } : Jvm.MethodName)) ∈ zB := zkm 334 (by decide +kernel) rfl
theorem zk335 : (Jvm.Cond.methodLink "java/util/ArrayList" (79 : Nat) ({ cls := "java/lang/Math", name := "max", desc := "(II)I" } : Jvm.MethodName)) ∈ zB := zkm 335 (by decide +kernel) rfl
theorem zk336 : (Jvm.Cond.classLink "java/util/ArrayList" (7 : Nat) "java/lang/Object") ∈ zB := zkm 336 (by decide +kernel) rfl
theorem zk337 : (Jvm.Cond.methodLink "ZoneHeap" (128 : Nat) ({ cls := "java/util/ArrayList", name := "size", desc := "()I" } : Jvm.MethodName)) ∈ zB := zkm 337 (by decide +kernel) rfl
theorem zk338 : (Jvm.Cond.instanceMethod ({ cls := "java/util/ArrayList", name := "size", desc := "()I" } : Jvm.MethodName)) ∈ zB := zkm 338 (by decide +kernel) rfl
theorem zk339 : (Jvm.Cond.selects "java/util/ArrayList" ({ cls := "java/util/ArrayList", name := "size", desc := "()I" } : Jvm.MethodName) ({ cls := "java/util/ArrayList", name := "size", desc := "()I" } : Jvm.MethodName)) ∈ zB := zkm 339 (by decide +kernel) rfl
theorem zk341 : (Jvm.Cond.methodLink "ZoneHeap" (177 : Nat) ({ cls := "ZoneHeap", name := "dropOldestKept", desc := "()V" } : Jvm.MethodName)) ∈ zB := zkm 341 (by decide +kernel) rfl
theorem zk343 : (Jvm.Cond.instanceMethod ({ cls := "ZoneHeap", name := "dropOldestKept", desc := "()V" } : Jvm.MethodName)) ∈ zB := zkm 343 (by decide +kernel) rfl
theorem zk345 : (Jvm.Cond.methodLink "ZoneHeap" (180 : Nat) ({ cls := "java/util/ArrayList", name := "isEmpty", desc := "()Z" } : Jvm.MethodName)) ∈ zB := zkm 345 (by decide +kernel) rfl
theorem zk346 : (Jvm.Cond.instanceMethod ({ cls := "java/util/ArrayList", name := "isEmpty", desc := "()Z" } : Jvm.MethodName)) ∈ zB := zkm 346 (by decide +kernel) rfl
theorem zk347 : (Jvm.Cond.selects "java/util/ArrayList" ({ cls := "java/util/ArrayList", name := "isEmpty", desc := "()Z" } : Jvm.MethodName) ({ cls := "java/util/ArrayList", name := "isEmpty", desc := "()Z" } : Jvm.MethodName)) ∈ zB := zkm 347 (by decide +kernel) rfl
theorem zk349 : (Jvm.Cond.methodLink "ZoneHeap" (184 : Nat) ({ cls := "java/util/ArrayList", name := "remove", desc := "(I)Ljava/lang/Object;" } : Jvm.MethodName)) ∈ zB := zkm 349 (by decide +kernel) rfl
theorem zk350 : (Jvm.Cond.instanceMethod ({ cls := "java/util/ArrayList", name := "remove", desc := "(I)Ljava/lang/Object;" } : Jvm.MethodName)) ∈ zB := zkm 350 (by decide +kernel) rfl
theorem zk351 : (Jvm.Cond.selects "java/util/ArrayList" ({ cls := "java/util/ArrayList", name := "remove", desc := "(I)Ljava/lang/Object;" } : Jvm.MethodName) ({ cls := "java/util/ArrayList", name := "remove", desc := "(I)Ljava/lang/Object;" } : Jvm.MethodName)) ∈ zB := zkm 351 (by decide +kernel) rfl
theorem zk353 : (Jvm.Cond.methodLink "java/util/ArrayList" (118 : Nat) ({ cls := "java/util/Objects", name := "checkIndex", desc := "(II)I" } : Jvm.MethodName)) ∈ zB := zkm 353 (by decide +kernel) rfl
theorem zk354 : (Jvm.Cond.static ({ cls := "java/util/Objects", name := "checkIndex", desc := "(II)I" } : Jvm.MethodName)) ∈ zB := zkm 354 (by decide +kernel) rfl
theorem zk356 : (Jvm.Cond.methodLink "java/util/Objects" (105 : Nat) ({ cls := "jdk/internal/util/Preconditions", name := "checkIndex", desc := "(IILjava/util/function/BiFunction;)I" } : Jvm.MethodName)) ∈ zB := zkm 356 (by decide +kernel) rfl
theorem zk357 : (Jvm.Cond.static ({ cls := "jdk/internal/util/Preconditions", name := "checkIndex", desc := "(IILjava/util/function/BiFunction;)I" } : Jvm.MethodName)) ∈ zB := zkm 357 (by decide +kernel) rfl
theorem zk359 : (Jvm.Cond.methodLink "java/util/ArrayList" (144 : Nat) ({ cls := "java/util/ArrayList", name := "fastRemove", desc := "([Ljava/lang/Object;I)V" } : Jvm.MethodName)) ∈ zB := zkm 359 (by decide +kernel) rfl
theorem zk361 : (Jvm.Cond.instanceMethod ({ cls := "java/util/ArrayList", name := "fastRemove", desc := "([Ljava/lang/Object;I)V" } : Jvm.MethodName)) ∈ zB := zkm 361 (by decide +kernel) rfl
theorem zk363 : (Jvm.Cond.methodLink "java/util/ArrayList" (112 : Nat) ({ cls := "java/lang/System", name := "arraycopy", desc := "(Ljava/lang/Object;ILjava/lang/Object;II)V" } : Jvm.MethodName)) ∈ zB := zkm 363 (by decide +kernel) rfl
theorem zk364 : (Jvm.Cond.methodLink "ZoneHeapLaw" (62 : Nat) ({ cls := "ZoneHeapLaw", name := "again", desc := "(LZoneHeap;II[J)I" } : Jvm.MethodName)) ∈ zB := zkm 364 (by decide +kernel) rfl
theorem zk365 : (Jvm.Cond.static ({ cls := "ZoneHeapLaw", name := "again", desc := "(LZoneHeap;II[J)I" } : Jvm.MethodName)) ∈ zB := zkm 365 (by decide +kernel) rfl
theorem zk367 : (Jvm.Cond.methodLink "ZoneHeapLaw" (20 : Nat) ({ cls := "ZoneHeap", name := "again", desc := "(II)I" } : Jvm.MethodName)) ∈ zB := zkm 367 (by decide +kernel) rfl
theorem zk368 : (Jvm.Cond.instanceMethod ({ cls := "ZoneHeap", name := "again", desc := "(II)I" } : Jvm.MethodName)) ∈ zB := zkm 368 (by decide +kernel) rfl
theorem zk369 : (Jvm.Cond.selects "ZoneHeap" ({ cls := "ZoneHeap", name := "again", desc := "(II)I" } : Jvm.MethodName) ({ cls := "ZoneHeap", name := "again", desc := "(II)I" } : Jvm.MethodName)) ∈ zB := zkm 369 (by decide +kernel) rfl
theorem zk371 : (Jvm.Cond.methodLink "ZoneHeap" (73 : Nat) ({ cls := "java/lang/Math", name := "min", desc := "(II)I" } : Jvm.MethodName)) ∈ zB := zkm 371 (by decide +kernel) rfl
theorem zk372 : (Jvm.Cond.methodLink "ZoneHeap" (79 : Nat) ({ cls := "java/lang/System", name := "arraycopy", desc := "(Ljava/lang/Object;ILjava/lang/Object;II)V" } : Jvm.MethodName)) ∈ zB := zkm 372 (by decide +kernel) rfl
theorem zk373 : (Jvm.Cond.methodLink "ZoneHeapLaw" (66 : Nat) ({ cls := "ZoneHeapLaw", name := "kind", desc := "(LZoneHeap;I[J)I" } : Jvm.MethodName)) ∈ zB := zkm 373 (by decide +kernel) rfl
theorem zk374 : (Jvm.Cond.static ({ cls := "ZoneHeapLaw", name := "kind", desc := "(LZoneHeap;I[J)I" } : Jvm.MethodName)) ∈ zB := zkm 374 (by decide +kernel) rfl
theorem zk376 : (Jvm.Cond.classLink "ZoneHeapLaw" (27 : Nat) "java/lang/IndexOutOfBoundsException") ∈ zB := zkm 376 (by decide +kernel) rfl
theorem zk377 : (Jvm.Cond.methodLink "ZoneHeapLaw" (24 : Nat) ({ cls := "ZoneHeap", name := "kind", desc := "(I)I" } : Jvm.MethodName)) ∈ zB := zkm 377 (by decide +kernel) rfl
theorem zk378 : (Jvm.Cond.instanceMethod ({ cls := "ZoneHeap", name := "kind", desc := "(I)I" } : Jvm.MethodName)) ∈ zB := zkm 378 (by decide +kernel) rfl
theorem zk379 : (Jvm.Cond.selects "ZoneHeap" ({ cls := "ZoneHeap", name := "kind", desc := "(I)I" } : Jvm.MethodName) ({ cls := "ZoneHeap", name := "kind", desc := "(I)I" } : Jvm.MethodName)) ∈ zB := zkm 379 (by decide +kernel) rfl
theorem zk381 : (Jvm.Cond.methodLink "ZoneHeap" (85 : Nat) ({ cls := "ZoneHeap", name := "refuseWrongOctet", desc := "(I)V" } : Jvm.MethodName)) ∈ zB := zkm 381 (by decide +kernel) rfl
theorem zk382 : (Jvm.Cond.static ({ cls := "ZoneHeap", name := "refuseWrongOctet", desc := "(I)V" } : Jvm.MethodName)) ∈ zB := zkm 382 (by decide +kernel) rfl
theorem zk384 : (Jvm.Cond.classLink "ZoneHeap" (121 : Nat) "java/lang/IndexOutOfBoundsException") ∈ zB := zkm 384 (by decide +kernel) rfl
theorem zk385 : (Jvm.Cond.instantiable "java/lang/IndexOutOfBoundsException" (6 : Nat)) ∈ zB := zkm 385 (by decide +kernel) rfl
theorem zk387 : (Jvm.Cond.selects "java/lang/IndexOutOfBoundsException" ({ cls := "java/lang/Throwable", name := "fillInStackTrace", desc := "(I)Ljava/lang/Throwable;" } : Jvm.MethodName) ({ cls := "java/lang/Throwable", name := "fillInStackTrace", desc := "(I)Ljava/lang/Throwable;" } : Jvm.MethodName)) ∈ zB := zkm 387 (by decide +kernel) rfl
theorem zk394 : (Jvm.Cond.methodLink "ZoneHeap" (125 : Nat) ({ cls := "java/lang/IndexOutOfBoundsException", name := "<init>", desc := "(Ljava/lang/String;)V" } : Jvm.MethodName)) ∈ zB := zkm 394 (by decide +kernel) rfl
theorem zk395 : (Jvm.Cond.instanceMethod ({ cls := "java/lang/IndexOutOfBoundsException", name := "<init>", desc := "(Ljava/lang/String;)V" } : Jvm.MethodName)) ∈ zB := zkm 395 (by decide +kernel) rfl
theorem zk397 : (Jvm.Cond.methodLink "java/lang/IndexOutOfBoundsException" (7 : Nat) ({ cls := "java/lang/RuntimeException", name := "<init>", desc := "(Ljava/lang/String;)V" } : Jvm.MethodName)) ∈ zB := zkm 397 (by decide +kernel) rfl
theorem zk400 : (Jvm.Cond.methodLink "ZoneHeap" (88 : Nat) ({ cls := "ZoneHeap", name := "isTaken", desc := "(I)Z" } : Jvm.MethodName)) ∈ zB := zkm 400 (by decide +kernel) rfl
theorem zk402 : (Jvm.Cond.instanceMethod ({ cls := "ZoneHeap", name := "isTaken", desc := "(I)Z" } : Jvm.MethodName)) ∈ zB := zkm 402 (by decide +kernel) rfl
theorem zk404 : (Jvm.Cond.methodLink "ZoneHeapLaw" (69 : Nat) ({ cls := "ZoneHeapLaw", name := "block", desc := "(LZoneHeap;I[J)I" } : Jvm.MethodName)) ∈ zB := zkm 404 (by decide +kernel) rfl
theorem zk405 : (Jvm.Cond.static ({ cls := "ZoneHeapLaw", name := "block", desc := "(LZoneHeap;I[J)I" } : Jvm.MethodName)) ∈ zB := zkm 405 (by decide +kernel) rfl
theorem zk407 : (Jvm.Cond.methodLink "ZoneHeapLaw" (29 : Nat) ({ cls := "ZoneHeap", name := "block", desc := "(I)I" } : Jvm.MethodName)) ∈ zB := zkm 407 (by decide +kernel) rfl
theorem zk408 : (Jvm.Cond.instanceMethod ({ cls := "ZoneHeap", name := "block", desc := "(I)I" } : Jvm.MethodName)) ∈ zB := zkm 408 (by decide +kernel) rfl
theorem zk409 : (Jvm.Cond.selects "ZoneHeap" ({ cls := "ZoneHeap", name := "block", desc := "(I)I" } : Jvm.MethodName) ({ cls := "ZoneHeap", name := "block", desc := "(I)I" } : Jvm.MethodName)) ∈ zB := zkm 409 (by decide +kernel) rfl
theorem zk411 : (Jvm.Cond.methodLink "ZoneHeapLaw" (72 : Nat) ({ cls := "ZoneHeapLaw", name := "write", desc := "(LZoneHeap;II)I" } : Jvm.MethodName)) ∈ zB := zkm 411 (by decide +kernel) rfl
theorem zk412 : (Jvm.Cond.static ({ cls := "ZoneHeapLaw", name := "write", desc := "(LZoneHeap;II)I" } : Jvm.MethodName)) ∈ zB := zkm 412 (by decide +kernel) rfl
theorem zk414 : (Jvm.Cond.methodLink "ZoneHeapLaw" (32 : Nat) ({ cls := "ZoneHeap", name := "write", desc := "(II)V" } : Jvm.MethodName)) ∈ zB := zkm 414 (by decide +kernel) rfl
theorem zk415 : (Jvm.Cond.instanceMethod ({ cls := "ZoneHeap", name := "write", desc := "(II)V" } : Jvm.MethodName)) ∈ zB := zkm 415 (by decide +kernel) rfl
theorem zk416 : (Jvm.Cond.selects "ZoneHeap" ({ cls := "ZoneHeap", name := "write", desc := "(II)V" } : Jvm.MethodName) ({ cls := "ZoneHeap", name := "write", desc := "(II)V" } : Jvm.MethodName)) ∈ zB := zkm 416 (by decide +kernel) rfl
theorem zk418 : (Jvm.Cond.methodLink "ZoneHeap" (102 : Nat) ({ cls := "ZoneHeap", name := "refuseWrongWord", desc := "(I)V" } : Jvm.MethodName)) ∈ zB := zkm 418 (by decide +kernel) rfl
theorem zk420 : (Jvm.Cond.instanceMethod ({ cls := "ZoneHeap", name := "refuseWrongWord", desc := "(I)V" } : Jvm.MethodName)) ∈ zB := zkm 420 (by decide +kernel) rfl
theorem zk424 : (Jvm.Cond.methodLink "ZoneHeapLaw" (76 : Nat) ({ cls := "ZoneHeapLaw", name := "read", desc := "(LZoneHeap;I[J)I" } : Jvm.MethodName)) ∈ zB := zkm 424 (by decide +kernel) rfl
theorem zk425 : (Jvm.Cond.static ({ cls := "ZoneHeapLaw", name := "read", desc := "(LZoneHeap;I[J)I" } : Jvm.MethodName)) ∈ zB := zkm 425 (by decide +kernel) rfl
theorem zk427 : (Jvm.Cond.methodLink "ZoneHeapLaw" (36 : Nat) ({ cls := "ZoneHeap", name := "read", desc := "(I)I" } : Jvm.MethodName)) ∈ zB := zkm 427 (by decide +kernel) rfl
theorem zk428 : (Jvm.Cond.instanceMethod ({ cls := "ZoneHeap", name := "read", desc := "(I)I" } : Jvm.MethodName)) ∈ zB := zkm 428 (by decide +kernel) rfl
theorem zk429 : (Jvm.Cond.selects "ZoneHeap" ({ cls := "ZoneHeap", name := "read", desc := "(I)I" } : Jvm.MethodName) ({ cls := "ZoneHeap", name := "read", desc := "(I)I" } : Jvm.MethodName)) ∈ zB := zkm 429 (by decide +kernel) rfl
theorem zk431 : (Jvm.Cond.methodLink "ZoneHeapLaw" (83 : Nat) ({ cls := "ZoneHeapLaw", name := "lostAt", desc := "(LZoneHeap;I[J)I" } : Jvm.MethodName)) ∈ zB := zkm 431 (by decide +kernel) rfl
theorem zk432 : (Jvm.Cond.static ({ cls := "ZoneHeapLaw", name := "lostAt", desc := "(LZoneHeap;I[J)I" } : Jvm.MethodName)) ∈ zB := zkm 432 (by decide +kernel) rfl
theorem zk434 : (Jvm.Cond.methodLink "ZoneHeapLaw" (39 : Nat) ({ cls := "ZoneHeap", name := "lostAt", desc := "(I)I" } : Jvm.MethodName)) ∈ zB := zkm 434 (by decide +kernel) rfl
theorem zk435 : (Jvm.Cond.instanceMethod ({ cls := "ZoneHeap", name := "lostAt", desc := "(I)I" } : Jvm.MethodName)) ∈ zB := zkm 435 (by decide +kernel) rfl
theorem zk436 : (Jvm.Cond.selects "ZoneHeap" ({ cls := "ZoneHeap", name := "lostAt", desc := "(I)I" } : Jvm.MethodName) ({ cls := "ZoneHeap", name := "lostAt", desc := "(I)I" } : Jvm.MethodName)) ∈ zB := zkm 436 (by decide +kernel) rfl
theorem zk439 : (Jvm.Cond.methodLink "ZoneHeapLaw" (86 : Nat) ({ cls := "ZoneHeapLaw", name := "count", desc := "(LZoneHeap;I[J)I" } : Jvm.MethodName)) ∈ zB := zkm 439 (by decide +kernel) rfl
theorem zk440 : (Jvm.Cond.static ({ cls := "ZoneHeapLaw", name := "count", desc := "(LZoneHeap;I[J)I" } : Jvm.MethodName)) ∈ zB := zkm 440 (by decide +kernel) rfl
theorem zk442 : (Jvm.Cond.methodLink "ZoneHeapLaw" (42 : Nat) ({ cls := "ZoneHeap", name := "count", desc := "(I)I" } : Jvm.MethodName)) ∈ zB := zkm 442 (by decide +kernel) rfl
theorem zk443 : (Jvm.Cond.instanceMethod ({ cls := "ZoneHeap", name := "count", desc := "(I)I" } : Jvm.MethodName)) ∈ zB := zkm 443 (by decide +kernel) rfl
theorem zk444 : (Jvm.Cond.selects "ZoneHeap" ({ cls := "ZoneHeap", name := "count", desc := "(I)I" } : Jvm.MethodName) ({ cls := "ZoneHeap", name := "count", desc := "(I)I" } : Jvm.MethodName)) ∈ zB := zkm 444 (by decide +kernel) rfl
theorem zk447 : (Jvm.Cond.classLink "ZoneHeapLaw" (46 : Nat) "ZoneHeapModel") ∈ zB := zkm 447 (by decide +kernel) rfl
theorem zk448 : (Jvm.Cond.instantiable "ZoneHeapModel" (12 : Nat)) ∈ zB := zkm 448 (by decide +kernel) rfl
theorem zk449 : (Jvm.Cond.methodLink "ZoneHeapLaw" (48 : Nat) ({ cls := "ZoneHeapModel", name := "<init>", desc := "()V" } : Jvm.MethodName)) ∈ zB := zkm 449 (by decide +kernel) rfl
theorem zk450 : (Jvm.Cond.instanceMethod ({ cls := "ZoneHeapModel", name := "<init>", desc := "()V" } : Jvm.MethodName)) ∈ zB := zkm 450 (by decide +kernel) rfl
theorem zk452 : (Jvm.Cond.methodLink "ZoneHeapModel" (1 : Nat) ({ cls := "java/lang/Object", name := "<init>", desc := "()V" } : Jvm.MethodName)) ∈ zB := zkm 452 (by decide +kernel) rfl
theorem zk453 : (Jvm.Cond.fieldLink "ZoneHeapModel" (32 : Nat) "ZoneHeapModel" "err" "I") ∈ zB := zkm 453 (by decide +kernel) rfl
theorem zk454 : (Jvm.Cond.fieldLink "ZoneHeapModel" (7 : Nat) "ZoneHeapModel" "octet" "[I") ∈ zB := zkm 454 (by decide +kernel) rfl
theorem zk455 : (Jvm.Cond.fieldLink "ZoneHeapModel" (13 : Nat) "ZoneHeapModel" "place" "[I") ∈ zB := zkm 455 (by decide +kernel) rfl
theorem zk456 : (Jvm.Cond.fieldLink "ZoneHeapModel" (16 : Nat) "ZoneHeapModel" "size" "[I") ∈ zB := zkm 456 (by decide +kernel) rfl
theorem zk457 : (Jvm.Cond.fieldLink "ZoneHeapModel" (19 : Nat) "ZoneHeapModel" "state" "[I") ∈ zB := zkm 457 (by decide +kernel) rfl
theorem zk458 : (Jvm.Cond.fieldLink "ZoneHeapModel" (22 : Nat) "ZoneHeapModel" "since" "[I") ∈ zB := zkm 458 (by decide +kernel) rfl
theorem zk459 : (Jvm.Cond.fieldLink "ZoneHeapModel" (25 : Nat) "ZoneHeapModel" "reached" "[Z") ∈ zB := zkm 459 (by decide +kernel) rfl
theorem zk460 : (Jvm.Cond.fieldLink "ZoneHeapModel" (29 : Nat) "ZoneHeapModel" "found" "[I") ∈ zB := zkm 460 (by decide +kernel) rfl
theorem zk461 : (Jvm.Cond.fieldLink "ZoneHeapModel" (40 : Nat) "ZoneHeapModel" "many" "I") ∈ zB := zkm 461 (by decide +kernel) rfl
theorem zk462 : (Jvm.Cond.fieldLink "ZoneHeapModel" (46 : Nat) "ZoneHeapModel" "made" "I") ∈ zB := zkm 462 (by decide +kernel) rfl
theorem zk463 : (Jvm.Cond.fieldLink "ZoneHeapModel" (49 : Nat) "ZoneHeapModel" "backs" "I") ∈ zB := zkm 463 (by decide +kernel) rfl
theorem zk464 : (Jvm.Cond.fieldLink "ZoneHeapModel" (87 : Nat) "ZoneHeapModel" "lostMany" "I") ∈ zB := zkm 464 (by decide +kernel) rfl
theorem zk490 : (Jvm.Cond.arrayClass Jvm.ClassFile.FieldType.boolean) ∈ zB := zkm 490 (by decide +kernel) rfl
theorem zk491 : (Jvm.Cond.methodLink "ZoneHeapLaw" (55 : Nat) ({ cls := "ZoneHeapModel", name := "thrown", desc := "()I" } : Jvm.MethodName)) ∈ zB := zkm 491 (by decide +kernel) rfl
theorem zk492 : (Jvm.Cond.instanceMethod ({ cls := "ZoneHeapModel", name := "thrown", desc := "()I" } : Jvm.MethodName)) ∈ zB := zkm 492 (by decide +kernel) rfl
theorem zk493 : (Jvm.Cond.selects "ZoneHeapModel" ({ cls := "ZoneHeapModel", name := "thrown", desc := "()I" } : Jvm.MethodName) ({ cls := "ZoneHeapModel", name := "thrown", desc := "()I" } : Jvm.MethodName)) ∈ zB := zkm 493 (by decide +kernel) rfl
theorem zk495 : (Jvm.Cond.methodLink "ZoneHeapLaw" (54 : Nat) ({ cls := "ZoneHeapModel", name := "get", desc := "(I)I" } : Jvm.MethodName)) ∈ zB := zkm 495 (by decide +kernel) rfl
theorem zk496 : (Jvm.Cond.instanceMethod ({ cls := "ZoneHeapModel", name := "get", desc := "(I)I" } : Jvm.MethodName)) ∈ zB := zkm 496 (by decide +kernel) rfl
theorem zk497 : (Jvm.Cond.selects "ZoneHeapModel" ({ cls := "ZoneHeapModel", name := "get", desc := "(I)I" } : Jvm.MethodName) ({ cls := "ZoneHeapModel", name := "get", desc := "(I)I" } : Jvm.MethodName)) ∈ zB := zkm 497 (by decide +kernel) rfl
theorem zk499 : (Jvm.Cond.methodLink "ZoneHeapModel" (56 : Nat) ({ cls := "ZoneHeapModel", name := "fails", desc := "(ZI)Z" } : Jvm.MethodName)) ∈ zB := zkm 499 (by decide +kernel) rfl
theorem zk501 : (Jvm.Cond.instanceMethod ({ cls := "ZoneHeapModel", name := "fails", desc := "(ZI)Z" } : Jvm.MethodName)) ∈ zB := zkm 501 (by decide +kernel) rfl
theorem zk503 : (Jvm.Cond.methodLink "ZoneHeapModel" (60 : Nat) ({ cls := "ZoneHeapModel", name := "make", desc := "(I)I" } : Jvm.MethodName)) ∈ zB := zkm 503 (by decide +kernel) rfl
theorem zk505 : (Jvm.Cond.instanceMethod ({ cls := "ZoneHeapModel", name := "make", desc := "(I)I" } : Jvm.MethodName)) ∈ zB := zkm 505 (by decide +kernel) rfl
theorem zk507 : (Jvm.Cond.methodLink "ZoneHeapModel" (43 : Nat) ({ cls := "ZoneHeapModel", name := "room", desc := "(I)I" } : Jvm.MethodName)) ∈ zB := zkm 507 (by decide +kernel) rfl
theorem zk509 : (Jvm.Cond.instanceMethod ({ cls := "ZoneHeapModel", name := "room", desc := "(I)I" } : Jvm.MethodName)) ∈ zB := zkm 509 (by decide +kernel) rfl
theorem zk511 : (Jvm.Cond.methodLink "ZoneHeapModel" (36 : Nat) ({ cls := "ZoneHeapModel", name := "taken", desc := "(I)I" } : Jvm.MethodName)) ∈ zB := zkm 511 (by decide +kernel) rfl
theorem zk512 : (Jvm.Cond.static ({ cls := "ZoneHeapModel", name := "taken", desc := "(I)I" } : Jvm.MethodName)) ∈ zB := zkm 512 (by decide +kernel) rfl
theorem zk514 : (Jvm.Cond.methodLink "ZoneHeapLaw" (61 : Nat) ({ cls := "ZoneHeapModel", name := "back", desc := "(I)I" } : Jvm.MethodName)) ∈ zB := zkm 514 (by decide +kernel) rfl
theorem zk515 : (Jvm.Cond.instanceMethod ({ cls := "ZoneHeapModel", name := "back", desc := "(I)I" } : Jvm.MethodName)) ∈ zB := zkm 515 (by decide +kernel) rfl
theorem zk516 : (Jvm.Cond.selects "ZoneHeapModel" ({ cls := "ZoneHeapModel", name := "back", desc := "(I)I" } : Jvm.MethodName) ({ cls := "ZoneHeapModel", name := "back", desc := "(I)I" } : Jvm.MethodName)) ∈ zB := zkm 516 (by decide +kernel) rfl
theorem zk518 : (Jvm.Cond.methodLink "ZoneHeapModel" (63 : Nat) ({ cls := "ZoneHeapModel", name := "at", desc := "(II)I" } : Jvm.MethodName)) ∈ zB := zkm 518 (by decide +kernel) rfl
theorem zk520 : (Jvm.Cond.instanceMethod ({ cls := "ZoneHeapModel", name := "at", desc := "(II)I" } : Jvm.MethodName)) ∈ zB := zkm 520 (by decide +kernel) rfl
theorem zk522 : (Jvm.Cond.methodLink "ZoneHeapModel" (67 : Nat) ({ cls := "ZoneHeapModel", name := "give", desc := "(I)V" } : Jvm.MethodName)) ∈ zB := zkm 522 (by decide +kernel) rfl
theorem zk524 : (Jvm.Cond.instanceMethod ({ cls := "ZoneHeapModel", name := "give", desc := "(I)V" } : Jvm.MethodName)) ∈ zB := zkm 524 (by decide +kernel) rfl
theorem zk526 : (Jvm.Cond.methodLink "ZoneHeapModel" (52 : Nat) ({ cls := "ZoneHeapModel", name := "kept", desc := "()I" } : Jvm.MethodName)) ∈ zB := zkm 526 (by decide +kernel) rfl
theorem zk528 : (Jvm.Cond.instanceMethod ({ cls := "ZoneHeapModel", name := "kept", desc := "()I" } : Jvm.MethodName)) ∈ zB := zkm 528 (by decide +kernel) rfl
theorem zk530 : (Jvm.Cond.methodLink "ZoneHeapLaw" (65 : Nat) ({ cls := "ZoneHeapModel", name := "again", desc := "(II)I" } : Jvm.MethodName)) ∈ zB := zkm 530 (by decide +kernel) rfl
theorem zk531 : (Jvm.Cond.instanceMethod ({ cls := "ZoneHeapModel", name := "again", desc := "(II)I" } : Jvm.MethodName)) ∈ zB := zkm 531 (by decide +kernel) rfl
theorem zk532 : (Jvm.Cond.selects "ZoneHeapModel" ({ cls := "ZoneHeapModel", name := "again", desc := "(II)I" } : Jvm.MethodName) ({ cls := "ZoneHeapModel", name := "again", desc := "(II)I" } : Jvm.MethodName)) ∈ zB := zkm 532 (by decide +kernel) rfl
theorem zk534 : (Jvm.Cond.methodLink "ZoneHeapLaw" (68 : Nat) ({ cls := "ZoneHeapModel", name := "kind", desc := "(I)I" } : Jvm.MethodName)) ∈ zB := zkm 534 (by decide +kernel) rfl
theorem zk535 : (Jvm.Cond.instanceMethod ({ cls := "ZoneHeapModel", name := "kind", desc := "(I)I" } : Jvm.MethodName)) ∈ zB := zkm 535 (by decide +kernel) rfl
theorem zk536 : (Jvm.Cond.selects "ZoneHeapModel" ({ cls := "ZoneHeapModel", name := "kind", desc := "(I)I" } : Jvm.MethodName) ({ cls := "ZoneHeapModel", name := "kind", desc := "(I)I" } : Jvm.MethodName)) ∈ zB := zkm 536 (by decide +kernel) rfl
theorem zk538 : (Jvm.Cond.methodLink "ZoneHeapModel" (71 : Nat) ({ cls := "ZoneHeapModel", name := "of", desc := "(II)I" } : Jvm.MethodName)) ∈ zB := zkm 538 (by decide +kernel) rfl
theorem zk540 : (Jvm.Cond.instanceMethod ({ cls := "ZoneHeapModel", name := "of", desc := "(II)I" } : Jvm.MethodName)) ∈ zB := zkm 540 (by decide +kernel) rfl
theorem zk542 : (Jvm.Cond.methodLink "ZoneHeapLaw" (71 : Nat) ({ cls := "ZoneHeapModel", name := "block", desc := "(I)I" } : Jvm.MethodName)) ∈ zB := zkm 542 (by decide +kernel) rfl
theorem zk543 : (Jvm.Cond.instanceMethod ({ cls := "ZoneHeapModel", name := "block", desc := "(I)I" } : Jvm.MethodName)) ∈ zB := zkm 543 (by decide +kernel) rfl
theorem zk544 : (Jvm.Cond.selects "ZoneHeapModel" ({ cls := "ZoneHeapModel", name := "block", desc := "(I)I" } : Jvm.MethodName) ({ cls := "ZoneHeapModel", name := "block", desc := "(I)I" } : Jvm.MethodName)) ∈ zB := zkm 544 (by decide +kernel) rfl
theorem zk546 : (Jvm.Cond.methodLink "ZoneHeapLaw" (75 : Nat) ({ cls := "ZoneHeapModel", name := "write", desc := "(II)V" } : Jvm.MethodName)) ∈ zB := zkm 546 (by decide +kernel) rfl
theorem zk547 : (Jvm.Cond.instanceMethod ({ cls := "ZoneHeapModel", name := "write", desc := "(II)V" } : Jvm.MethodName)) ∈ zB := zkm 547 (by decide +kernel) rfl
theorem zk548 : (Jvm.Cond.selects "ZoneHeapModel" ({ cls := "ZoneHeapModel", name := "write", desc := "(II)V" } : Jvm.MethodName) ({ cls := "ZoneHeapModel", name := "write", desc := "(II)V" } : Jvm.MethodName)) ∈ zB := zkm 548 (by decide +kernel) rfl
theorem zk550 : (Jvm.Cond.methodLink "ZoneHeapModel" (74 : Nat) ({ cls := "ZoneHeapModel", name := "bad", desc := "(I)Z" } : Jvm.MethodName)) ∈ zB := zkm 550 (by decide +kernel) rfl
theorem zk552 : (Jvm.Cond.instanceMethod ({ cls := "ZoneHeapModel", name := "bad", desc := "(I)Z" } : Jvm.MethodName)) ∈ zB := zkm 552 (by decide +kernel) rfl
theorem zk554 : (Jvm.Cond.methodLink "ZoneHeapLaw" (78 : Nat) ({ cls := "ZoneHeapModel", name := "read", desc := "(I)I" } : Jvm.MethodName)) ∈ zB := zkm 554 (by decide +kernel) rfl
theorem zk555 : (Jvm.Cond.instanceMethod ({ cls := "ZoneHeapModel", name := "read", desc := "(I)I" } : Jvm.MethodName)) ∈ zB := zkm 555 (by decide +kernel) rfl
theorem zk556 : (Jvm.Cond.selects "ZoneHeapModel" ({ cls := "ZoneHeapModel", name := "read", desc := "(I)I" } : Jvm.MethodName) ({ cls := "ZoneHeapModel", name := "read", desc := "(I)I" } : Jvm.MethodName)) ∈ zB := zkm 556 (by decide +kernel) rfl
theorem zk558 : (Jvm.Cond.methodLink "ZoneHeapModel" (78 : Nat) ({ cls := "ZoneHeapModel", name := "word", desc := "(I)I" } : Jvm.MethodName)) ∈ zB := zkm 558 (by decide +kernel) rfl
theorem zk560 : (Jvm.Cond.instanceMethod ({ cls := "ZoneHeapModel", name := "word", desc := "(I)I" } : Jvm.MethodName)) ∈ zB := zkm 560 (by decide +kernel) rfl
theorem zk562 : (Jvm.Cond.methodLink "ZoneHeapLaw" (82 : Nat) ({ cls := "ZoneHeapModel", name := "lost", desc := "(II)I" } : Jvm.MethodName)) ∈ zB := zkm 562 (by decide +kernel) rfl
theorem zk563 : (Jvm.Cond.instanceMethod ({ cls := "ZoneHeapModel", name := "lost", desc := "(II)I" } : Jvm.MethodName)) ∈ zB := zkm 563 (by decide +kernel) rfl
theorem zk564 : (Jvm.Cond.selects "ZoneHeapModel" ({ cls := "ZoneHeapModel", name := "lost", desc := "(II)I" } : Jvm.MethodName) ({ cls := "ZoneHeapModel", name := "lost", desc := "(II)I" } : Jvm.MethodName)) ∈ zB := zkm 564 (by decide +kernel) rfl
theorem zk566 : (Jvm.Cond.methodLink "ZoneHeapModel" (84 : Nat) ({ cls := "ZoneHeapModel", name := "touch", desc := "(I)Z" } : Jvm.MethodName)) ∈ zB := zkm 566 (by decide +kernel) rfl
theorem zk568 : (Jvm.Cond.instanceMethod ({ cls := "ZoneHeapModel", name := "touch", desc := "(I)Z" } : Jvm.MethodName)) ∈ zB := zkm 568 (by decide +kernel) rfl
theorem zk570 : (Jvm.Cond.methodLink "ZoneHeapModel" (81 : Nat) ({ cls := "ZoneHeapModel", name := "leads", desc := "(I)I" } : Jvm.MethodName)) ∈ zB := zkm 570 (by decide +kernel) rfl
theorem zk572 : (Jvm.Cond.instanceMethod ({ cls := "ZoneHeapModel", name := "leads", desc := "(I)I" } : Jvm.MethodName)) ∈ zB := zkm 572 (by decide +kernel) rfl
theorem zk574 : (Jvm.Cond.methodLink "ZoneHeapLaw" (85 : Nat) ({ cls := "ZoneHeapModel", name := "lostAt", desc := "(I)I" } : Jvm.MethodName)) ∈ zB := zkm 574 (by decide +kernel) rfl
theorem zk575 : (Jvm.Cond.instanceMethod ({ cls := "ZoneHeapModel", name := "lostAt", desc := "(I)I" } : Jvm.MethodName)) ∈ zB := zkm 575 (by decide +kernel) rfl
theorem zk576 : (Jvm.Cond.selects "ZoneHeapModel" ({ cls := "ZoneHeapModel", name := "lostAt", desc := "(I)I" } : Jvm.MethodName) ({ cls := "ZoneHeapModel", name := "lostAt", desc := "(I)I" } : Jvm.MethodName)) ∈ zB := zkm 576 (by decide +kernel) rfl
theorem zk578 : (Jvm.Cond.methodLink "ZoneHeapLaw" (88 : Nat) ({ cls := "ZoneHeapModel", name := "count", desc := "(I)I" } : Jvm.MethodName)) ∈ zB := zkm 578 (by decide +kernel) rfl
theorem zk579 : (Jvm.Cond.instanceMethod ({ cls := "ZoneHeapModel", name := "count", desc := "(I)I" } : Jvm.MethodName)) ∈ zB := zkm 579 (by decide +kernel) rfl
theorem zk580 : (Jvm.Cond.selects "ZoneHeapModel" ({ cls := "ZoneHeapModel", name := "count", desc := "(I)I" } : Jvm.MethodName) ({ cls := "ZoneHeapModel", name := "count", desc := "(I)I" } : Jvm.MethodName)) ∈ zB := zkm 580 (by decide +kernel) rfl
theorem zk582 : (Jvm.Cond.arrayClass Jvm.ClassFile.FieldType.long) ∈ zB := zkm 582 (by decide +kernel) rfl
theorem zk583 : (Jvm.Cond.sameMethod "java/lang/Throwable" "java/lang/Throwable" "fillInStackTrace" "(I)Ljava/lang/Throwable;") ∈ zB := zkm 583 (by decide +kernel) rfl
theorem zk585 : (Jvm.Cond.sameMethod "[Ljava/lang/Object;" "java/lang/Object" "getClass" "()Ljava/lang/Class;") ∈ zB := zkm 585 (by decide +kernel) rfl
theorem zk586 : (Jvm.Cond.selects "[Ljava/lang/Object;" ({ cls := "java/lang/Object", name := "getClass", desc := "()Ljava/lang/Class;" } : Jvm.MethodName) ({ cls := "java/lang/Object", name := "getClass", desc := "()Ljava/lang/Class;" } : Jvm.MethodName)) ∈ zB := zkm 586 (by decide +kernel) rfl
theorem ks_Z_forgetReached : Cond.selects "ZoneHeap" y_Z_forgetReached y_Z_forgetReached ∈ zB := zks 0 (by decide +kernel) rfl
theorem ks_Z_reach : Cond.selects "ZoneHeap" y_Z_reach y_Z_reach ∈ zB := zks 1 (by decide +kernel) rfl
theorem ks_Z_ledToBy : Cond.selects "ZoneHeap" y_Z_ledToBy y_Z_ledToBy ∈ zB := zks 2 (by decide +kernel) rfl
theorem ks_Z_standingAt : Cond.selects "ZoneHeap" y_Z_standingAt y_Z_standingAt ∈ zB := zks 3 (by decide +kernel) rfl
theorem ks_Z_liveHaving : Cond.selects "ZoneHeap" y_Z_liveHaving y_Z_liveHaving ∈ zB := zks 4 (by decide +kernel) rfl
theorem ks_B_has : Cond.selects "ZoneHeap$Block" y_B_has y_B_has ∈ zB := zks 5 (by decide +kernel) rfl
theorem ks_Z_reachFromWordsOf : Cond.selects "ZoneHeap" y_Z_reachFromWordsOf y_Z_reachFromWordsOf ∈ zB := zks 6 (by decide +kernel) rfl
theorem ks_Z_wordAt : Cond.selects "ZoneHeap" y_Z_wordAt y_Z_wordAt ∈ zB := zks 7 (by decide +kernel) rfl
theorem ks_Z_noteLost : Cond.selects "ZoneHeap" y_Z_noteLost y_Z_noteLost ∈ zB := zks 8 (by decide +kernel) rfl
theorem ks_Z_make : Cond.selects "ZoneHeap" y_Z_make y_Z_make ∈ zB := zks 10 (by decide +kernel) rfl
theorem ks_Z_firstRoomFor : Cond.selects "ZoneHeap" y_Z_firstRoomFor y_Z_firstRoomFor ∈ zB := zks 11 (by decide +kernel) rfl
theorem ks_Z_setTaker : Cond.selects "ZoneHeap" y_Z_setTaker y_Z_setTaker ∈ zB := zks 12 (by decide +kernel) rfl
theorem ks_Z_liveStandingAt : Cond.selects "ZoneHeap" y_Z_liveStandingAt y_Z_liveStandingAt ∈ zB := zks 13 (by decide +kernel) rfl
theorem ks_Z_giveBack : Cond.selects "ZoneHeap" y_Z_giveBack y_Z_giveBack ∈ zB := zks 14 (by decide +kernel) rfl
theorem ks_A_add2 : Cond.selects "java/util/ArrayList" y_A_add2 y_A_add2 ∈ zB := zks 15 (by decide +kernel) rfl
theorem ks_A_grow : Cond.selects "java/util/ArrayList" y_A_grow y_A_grow ∈ zB := zks 16 (by decide +kernel) rfl
theorem ks_A_grow2 : Cond.selects "java/util/ArrayList" y_A_grow2 y_A_grow2 ∈ zB := zks 17 (by decide +kernel) rfl
theorem ks_Z_dropOldestKept : Cond.selects "ZoneHeap" y_Z_dropOldestKept y_Z_dropOldestKept ∈ zB := zks 18 (by decide +kernel) rfl
theorem ks_A_fastRemove : Cond.selects "java/util/ArrayList" y_A_fastRemove y_A_fastRemove ∈ zB := zks 19 (by decide +kernel) rfl
theorem ks_Z_isTaken : Cond.selects "ZoneHeap" y_Z_isTaken y_Z_isTaken ∈ zB := zks 20 (by decide +kernel) rfl
theorem ks_Z_refuseWrongWord : Cond.selects "ZoneHeap" y_Z_refuseWrongWord y_Z_refuseWrongWord ∈ zB := zks 21 (by decide +kernel) rfl
theorem ks_M_fails : Cond.selects "ZoneHeapModel" y_M_fails y_M_fails ∈ zB := zks 22 (by decide +kernel) rfl
theorem ks_M_make : Cond.selects "ZoneHeapModel" y_M_make y_M_make ∈ zB := zks 23 (by decide +kernel) rfl
theorem ks_M_room : Cond.selects "ZoneHeapModel" y_M_room y_M_room ∈ zB := zks 24 (by decide +kernel) rfl
theorem ks_M_at : Cond.selects "ZoneHeapModel" y_M_at y_M_at ∈ zB := zks 25 (by decide +kernel) rfl
theorem ks_M_give : Cond.selects "ZoneHeapModel" y_M_give y_M_give ∈ zB := zks 26 (by decide +kernel) rfl
theorem ks_M_kept : Cond.selects "ZoneHeapModel" y_M_kept y_M_kept ∈ zB := zks 27 (by decide +kernel) rfl
theorem ks_M_of : Cond.selects "ZoneHeapModel" y_M_of y_M_of ∈ zB := zks 28 (by decide +kernel) rfl
theorem ks_M_bad : Cond.selects "ZoneHeapModel" y_M_bad y_M_bad ∈ zB := zks 29 (by decide +kernel) rfl
theorem ks_M_word : Cond.selects "ZoneHeapModel" y_M_word y_M_word ∈ zB := zks 30 (by decide +kernel) rfl
theorem ks_M_touch : Cond.selects "ZoneHeapModel" y_M_touch y_M_touch ∈ zB := zks 31 (by decide +kernel) rfl
theorem ks_M_leads : Cond.selects "ZoneHeapModel" y_M_leads y_M_leads ∈ zB := zks 32 (by decide +kernel) rfl
