-- ===== PART A: goes FIRST, ahead of the names: the tables' words, and 'selects' of the private methods out of them =====
/-- a private method of a class that the tables say can be made, by its rows of tables_1 -/
def lw_okq (q : MethodName × Nat) : Prop := (q.1.cls ≠ "java/lang/invoke/MethodHandle" ∧ q.1.cls ≠ "java/lang/invoke/VarHandle") ∧ Cond.instantiable q.1.cls q.2 ∈ tables_1 ∧ Cond.privateMethod q.1 ∈ tables_1 ∧ Cond.instanceMethod q.1 ∈ tables_1
theorem lw_p0 : lw_okq (⟨"java/lang/Throwable", "fillInStackTrace", "(I)Ljava/lang/Throwable;"⟩, 6) := ⟨⟨by decide +kernel, by decide +kernel⟩, List.mem_of_getElem? (i := 353) (by decide +kernel), List.mem_of_getElem? (i := 351) (by decide +kernel), List.mem_of_getElem? (i := 352) (by decide +kernel)⟩
theorem lw_p1 : lw_okq (⟨"ClassificationYard$History", "pastAt", "(I)LClassificationYard$Yard;"⟩, 5) := ⟨⟨by decide +kernel, by decide +kernel⟩, List.mem_of_getElem? (i := 179) (by decide +kernel), List.mem_of_getElem? (i := 450) (by decide +kernel), List.mem_of_getElem? (i := 451) (by decide +kernel)⟩
theorem lw_p2 : lw_okq (⟨"ClassificationYard$Network", "search", "(I)V"⟩, 6) := ⟨⟨by decide +kernel, by decide +kernel⟩, List.mem_of_getElem? (i := 57) (by decide +kernel), List.mem_of_getElem? (i := 540) (by decide +kernel), List.mem_of_getElem? (i := 541) (by decide +kernel)⟩
theorem lw_p3 : lw_okq (⟨"ClassificationYard$Cars", "pop", "(I)I"⟩, 12) := ⟨⟨by decide +kernel, by decide +kernel⟩, List.mem_of_getElem? (i := 86) (by decide +kernel), List.mem_of_getElem? (i := 574) (by decide +kernel), List.mem_of_getElem? (i := 575) (by decide +kernel)⟩
theorem lw_p4 : lw_okq (⟨"ClassificationYard$Cars", "push", "(II)V"⟩, 12) := ⟨⟨by decide +kernel, by decide +kernel⟩, List.mem_of_getElem? (i := 86) (by decide +kernel), List.mem_of_getElem? (i := 588) (by decide +kernel), List.mem_of_getElem? (i := 589) (by decide +kernel)⟩
theorem lw_p5 : lw_okq (⟨"ClassificationYard$Cars", "isTaken", "(I)Z"⟩, 12) := ⟨⟨by decide +kernel, by decide +kernel⟩, List.mem_of_getElem? (i := 86) (by decide +kernel), List.mem_of_getElem? (i := 610) (by decide +kernel), List.mem_of_getElem? (i := 611) (by decide +kernel)⟩
theorem lw_p6 : lw_okq (⟨"ClassificationYard$Cars", "listDestinations", "(I)I"⟩, 12) := ⟨⟨by decide +kernel, by decide +kernel⟩, List.mem_of_getElem? (i := 86) (by decide +kernel), List.mem_of_getElem? (i := 627) (by decide +kernel), List.mem_of_getElem? (i := 628) (by decide +kernel)⟩
theorem lw_p7 : lw_okq (⟨"ClassificationYard", "requireTrack", "(I)V"⟩, 7) := ⟨⟨by decide +kernel, by decide +kernel⟩, List.mem_of_getElem? (i := 32) (by decide +kernel), List.mem_of_getElem? (i := 647) (by decide +kernel), List.mem_of_getElem? (i := 648) (by decide +kernel)⟩
theorem lw_p8 : lw_okq (⟨"ClassificationYard$Yard", "rankOf", "(I)I"⟩, 8) := ⟨⟨by decide +kernel, by decide +kernel⟩, List.mem_of_getElem? (i := 40) (by decide +kernel), List.mem_of_getElem? (i := 697) (by decide +kernel), List.mem_of_getElem? (i := 698) (by decide +kernel)⟩
theorem lw_p9 : lw_okq (⟨"ClassificationYard$Yard", "ranksBefore", "(II)Z"⟩, 8) := ⟨⟨by decide +kernel, by decide +kernel⟩, List.mem_of_getElem? (i := 40) (by decide +kernel), List.mem_of_getElem? (i := 701) (by decide +kernel), List.mem_of_getElem? (i := 702) (by decide +kernel)⟩
theorem lw_p10 : lw_okq (⟨"ClassificationYard$Network", "fillMatrix", "()V"⟩, 6) := ⟨⟨by decide +kernel, by decide +kernel⟩, List.mem_of_getElem? (i := 57) (by decide +kernel), List.mem_of_getElem? (i := 723) (by decide +kernel), List.mem_of_getElem? (i := 724) (by decide +kernel)⟩
theorem lw_p11 : lw_okq (⟨"ClassificationYard$Network", "combineOver", "(II)V"⟩, 6) := ⟨⟨by decide +kernel, by decide +kernel⟩, List.mem_of_getElem? (i := 57) (by decide +kernel), List.mem_of_getElem? (i := 728) (by decide +kernel), List.mem_of_getElem? (i := 729) (by decide +kernel)⟩
theorem lw_p12 : lw_okq (⟨"ClassificationYard$Network", "nextTrack", "(I)I"⟩, 6) := ⟨⟨by decide +kernel, by decide +kernel⟩, List.mem_of_getElem? (i := 57) (by decide +kernel), List.mem_of_getElem? (i := 741) (by decide +kernel), List.mem_of_getElem? (i := 742) (by decide +kernel)⟩
theorem lw_p13 : lw_okq (⟨"ClassificationYard", "requireCar", "(I)I"⟩, 7) := ⟨⟨by decide +kernel, by decide +kernel⟩, List.mem_of_getElem? (i := 32) (by decide +kernel), List.mem_of_getElem? (i := 773) (by decide +kernel), List.mem_of_getElem? (i := 774) (by decide +kernel)⟩
theorem lw_p14 : lw_okq (⟨"ClassificationYard$Cars", "rankOf", "(I)I"⟩, 12) := ⟨⟨by decide +kernel, by decide +kernel⟩, List.mem_of_getElem? (i := 86) (by decide +kernel), List.mem_of_getElem? (i := 797) (by decide +kernel), List.mem_of_getElem? (i := 798) (by decide +kernel)⟩
theorem lw_p15 : lw_okq (⟨"ClassificationYard$Cars", "ranksBefore", "(II)Z"⟩, 12) := ⟨⟨by decide +kernel, by decide +kernel⟩, List.mem_of_getElem? (i := 86) (by decide +kernel), List.mem_of_getElem? (i := 801) (by decide +kernel), List.mem_of_getElem? (i := 802) (by decide +kernel)⟩
def lw_privs_1 : List (MethodName × Nat) := [(⟨"java/lang/Throwable", "fillInStackTrace", "(I)Ljava/lang/Throwable;"⟩, 6), (⟨"ClassificationYard$History", "pastAt", "(I)LClassificationYard$Yard;"⟩, 5), (⟨"ClassificationYard$Network", "search", "(I)V"⟩, 6), (⟨"ClassificationYard$Cars", "pop", "(I)I"⟩, 12), (⟨"ClassificationYard$Cars", "push", "(II)V"⟩, 12), (⟨"ClassificationYard$Cars", "isTaken", "(I)Z"⟩, 12), (⟨"ClassificationYard$Cars", "listDestinations", "(I)I"⟩, 12), (⟨"ClassificationYard", "requireTrack", "(I)V"⟩, 7), (⟨"ClassificationYard$Yard", "rankOf", "(I)I"⟩, 8), (⟨"ClassificationYard$Yard", "ranksBefore", "(II)Z"⟩, 8), (⟨"ClassificationYard$Network", "fillMatrix", "()V"⟩, 6), (⟨"ClassificationYard$Network", "combineOver", "(II)V"⟩, 6), (⟨"ClassificationYard$Network", "nextTrack", "(I)I"⟩, 6), (⟨"ClassificationYard", "requireCar", "(I)I"⟩, 7), (⟨"ClassificationYard$Cars", "rankOf", "(I)I"⟩, 12), (⟨"ClassificationYard$Cars", "ranksBefore", "(II)Z"⟩, 12)]
theorem lw_r1 : ∀ q ∈ lw_privs_1, lw_okq q := List.forall_mem_cons.mpr ⟨lw_p0, List.forall_mem_cons.mpr ⟨lw_p1, List.forall_mem_cons.mpr ⟨lw_p2, List.forall_mem_cons.mpr ⟨lw_p3, List.forall_mem_cons.mpr ⟨lw_p4, List.forall_mem_cons.mpr ⟨lw_p5, List.forall_mem_cons.mpr ⟨lw_p6, List.forall_mem_cons.mpr ⟨lw_p7, List.forall_mem_cons.mpr ⟨lw_p8, List.forall_mem_cons.mpr ⟨lw_p9, List.forall_mem_cons.mpr ⟨lw_p10, List.forall_mem_cons.mpr ⟨lw_p11, List.forall_mem_cons.mpr ⟨lw_p12, List.forall_mem_cons.mpr ⟨lw_p13, List.forall_mem_cons.mpr ⟨lw_p14, List.forall_mem_cons.mpr ⟨lw_p15, fun _ h => absurd h List.not_mem_nil⟩⟩⟩⟩⟩⟩⟩⟩⟩⟩⟩⟩⟩⟩⟩⟩
theorem lw_p16 : lw_okq (⟨"ClassificationYard$Program", "readCommand", "()Z"⟩, 7) := ⟨⟨by decide +kernel, by decide +kernel⟩, List.mem_of_getElem? (i := 207) (by decide +kernel), List.mem_of_getElem? (i := 878) (by decide +kernel), List.mem_of_getElem? (i := 879) (by decide +kernel)⟩
theorem lw_p17 : lw_okq (⟨"ClassificationYard$Program", "fits", "(Ljava/lang/String;I)Z"⟩, 7) := ⟨⟨by decide +kernel, by decide +kernel⟩, List.mem_of_getElem? (i := 207) (by decide +kernel), List.mem_of_getElem? (i := 892) (by decide +kernel), List.mem_of_getElem? (i := 893) (by decide +kernel)⟩
theorem lw_p18 : lw_okq (⟨"ClassificationYard$Program", "readPart", "(C)Z"⟩, 7) := ⟨⟨by decide +kernel, by decide +kernel⟩, List.mem_of_getElem? (i := 207) (by decide +kernel), List.mem_of_getElem? (i := 943) (by decide +kernel), List.mem_of_getElem? (i := 944) (by decide +kernel)⟩
theorem lw_p19 : lw_okq (⟨"ClassificationYard$Program", "readNumber", "(I)Z"⟩, 7) := ⟨⟨by decide +kernel, by decide +kernel⟩, List.mem_of_getElem? (i := 207) (by decide +kernel), List.mem_of_getElem? (i := 947) (by decide +kernel), List.mem_of_getElem? (i := 948) (by decide +kernel)⟩
theorem lw_p20 : lw_okq (⟨"ClassificationYard$Program", "signAt", "(I)I"⟩, 7) := ⟨⟨by decide +kernel, by decide +kernel⟩, List.mem_of_getElem? (i := 207) (by decide +kernel), List.mem_of_getElem? (i := 951) (by decide +kernel), List.mem_of_getElem? (i := 952) (by decide +kernel)⟩
theorem lw_p21 : lw_okq (⟨"ClassificationYard$Program", "readSign", "(C)Z"⟩, 7) := ⟨⟨by decide +kernel, by decide +kernel⟩, List.mem_of_getElem? (i := 207) (by decide +kernel), List.mem_of_getElem? (i := 959) (by decide +kernel), List.mem_of_getElem? (i := 960) (by decide +kernel)⟩
theorem lw_p22 : lw_okq (⟨"ClassificationYard", "faultOfCommand", "(I)I"⟩, 7) := ⟨⟨by decide +kernel, by decide +kernel⟩, List.mem_of_getElem? (i := 32) (by decide +kernel), List.mem_of_getElem? (i := 972) (by decide +kernel), List.mem_of_getElem? (i := 973) (by decide +kernel)⟩
theorem lw_p23 : lw_okq (⟨"ClassificationYard", "carryOut", "(I)V"⟩, 7) := ⟨⟨by decide +kernel, by decide +kernel⟩, List.mem_of_getElem? (i := 32) (by decide +kernel), List.mem_of_getElem? (i := 986) (by decide +kernel), List.mem_of_getElem? (i := 987) (by decide +kernel)⟩
theorem lw_p24 : lw_okq (⟨"ClassificationYard$Cars", "freeSlot", "()I"⟩, 12) := ⟨⟨by decide +kernel, by decide +kernel⟩, List.mem_of_getElem? (i := 86) (by decide +kernel), List.mem_of_getElem? (i := 994) (by decide +kernel), List.mem_of_getElem? (i := 995) (by decide +kernel)⟩
theorem lw_p25 : lw_okq (⟨"ClassificationYard", "writeCar", "(I)V"⟩, 7) := ⟨⟨by decide +kernel, by decide +kernel⟩, List.mem_of_getElem? (i := 32) (by decide +kernel), List.mem_of_getElem? (i := 1268) (by decide +kernel), List.mem_of_getElem? (i := 1269) (by decide +kernel)⟩
def lw_privs_2 : List (MethodName × Nat) := [(⟨"ClassificationYard$Program", "readCommand", "()Z"⟩, 7), (⟨"ClassificationYard$Program", "fits", "(Ljava/lang/String;I)Z"⟩, 7), (⟨"ClassificationYard$Program", "readPart", "(C)Z"⟩, 7), (⟨"ClassificationYard$Program", "readNumber", "(I)Z"⟩, 7), (⟨"ClassificationYard$Program", "signAt", "(I)I"⟩, 7), (⟨"ClassificationYard$Program", "readSign", "(C)Z"⟩, 7), (⟨"ClassificationYard", "faultOfCommand", "(I)I"⟩, 7), (⟨"ClassificationYard", "carryOut", "(I)V"⟩, 7), (⟨"ClassificationYard$Cars", "freeSlot", "()I"⟩, 12), (⟨"ClassificationYard", "writeCar", "(I)V"⟩, 7)]
theorem lw_r2 : ∀ q ∈ lw_privs_2, lw_okq q := List.forall_mem_cons.mpr ⟨lw_p16, List.forall_mem_cons.mpr ⟨lw_p17, List.forall_mem_cons.mpr ⟨lw_p18, List.forall_mem_cons.mpr ⟨lw_p19, List.forall_mem_cons.mpr ⟨lw_p20, List.forall_mem_cons.mpr ⟨lw_p21, List.forall_mem_cons.mpr ⟨lw_p22, List.forall_mem_cons.mpr ⟨lw_p23, List.forall_mem_cons.mpr ⟨lw_p24, List.forall_mem_cons.mpr ⟨lw_p25, fun _ h => absurd h List.not_mem_nil⟩⟩⟩⟩⟩⟩⟩⟩⟩⟩
def lw_privs : List (MethodName × Nat) := lw_privs_1 ++ (lw_privs_2)
def lw_tbl : List Cond := k2_sels lw_privs ++ tables_1
theorem lw_privs_ok : ∀ q ∈ lw_privs, lw_okq q := by
  show ∀ q ∈ lw_privs_1 ++ (lw_privs_2), lw_okq q
  exact List.forall_mem_append.mpr ⟨lw_r1, lw_r2⟩
/-- the streams that the claim lets the run draw from -/
abbrev lw_cs : List Choice := [Jvm.Choice.named "NaN.bits"]
theorem lw_bits : nanBits ∈ lw_cs := by first | decide | exact List.mem_cons_self | simp [lw_cs, nanBits]
def RX0 : String := "ClassificationYard$Cars"
def TX0 : u_T := fun k => match k with
  | 0 => ("ClassificationYard$Cars", "total", "I", false)
  | 1 => ("ClassificationYard$Cars", "lastNumber", "I", false)
  | 2 => ("ClassificationYard$Cars", "numbers", "LClassificationYard$Row;", true)
  | 3 => ("ClassificationYard$Cars", "destinations", "LClassificationYard$Row;", true)
  | 4 => ("ClassificationYard$Cars", "defects", "LClassificationYard$Row;", true)
  | 5 => ("ClassificationYard$Cars", "tracks", "LClassificationYard$Row;", true)
  | 6 => ("ClassificationYard$Cars", "places", "LClassificationYard$Row;", true)
  | 7 => ("ClassificationYard$Cars", "lengths", "LClassificationYard$Row;", true)
  | 8 => ("ClassificationYard$Cars", "weights", "LClassificationYard$Row;", true)
  | 9 => ("ClassificationYard$Cars", "heights", "LClassificationYard$Row;", true)
  | 10 => ("ClassificationYard$Cars", "used", "LClassificationYard$Row;", true)
  | _ => ("ClassificationYard$Cars", "order", "LClassificationYard$Row;", true)
def tyX0 : Nat → FieldType := fun k => match k with
  | 0 => .int
  | 1 => .int
  | 2 => .object "ClassificationYard$Row"
  | 3 => .object "ClassificationYard$Row"
  | 4 => .object "ClassificationYard$Row"
  | 5 => .object "ClassificationYard$Row"
  | 6 => .object "ClassificationYard$Row"
  | 7 => .object "ClassificationYard$Row"
  | 8 => .object "ClassificationYard$Row"
  | 9 => .object "ClassificationYard$Row"
  | 10 => .object "ClassificationYard$Row"
  | _ => .object "ClassificationYard$Row"
theorem nmX0 : ∀ a, a < 12 → ∀ b, b < 12 → a ≠ b → (TX0 a).2.1 ≠ (TX0 b).2.1 := by decide +kernel
theorem tyX0_ok : ∀ k, k < 12 → parseFieldDescriptor (TX0 k).2.2.1 = some (tyX0 k) := by decide +kernel
abbrev cX0_init : ByteArray := prog_2_method_1_code
def yX0_init : MethodName := ⟨RX0, "<init>", "()V"⟩
abbrev cX0_copy : ByteArray := prog_2_method_2_code
def yX0_copy : MethodName := ⟨RX0, "copy", "(LClassificationYard$Cars;)V"⟩
abbrev cX0_slotOf : ByteArray := prog_2_method_3_code
def yX0_slotOf : MethodName := ⟨RX0, "slotOf", "(I)I"⟩
abbrev cX0_slotAt : ByteArray := prog_2_method_4_code
def yX0_slotAt : MethodName := ⟨RX0, "slotAt", "(II)I"⟩
abbrev cX0_isTaken : ByteArray := prog_2_method_5_code
def yX0_isTaken : MethodName := ⟨RX0, "isTaken", "(I)Z"⟩
abbrev cX0_freeSlot : ByteArray := prog_2_method_6_code
def yX0_freeSlot : MethodName := ⟨RX0, "freeSlot", "()I"⟩
abbrev cX0_enter : ByteArray := prog_2_method_7_code
def yX0_enter : MethodName := ⟨RX0, "enter", "(IIIIZ)I"⟩
abbrev cX0_leave : ByteArray := prog_2_method_8_code
def yX0_leave : MethodName := ⟨RX0, "leave", "(I)I"⟩
abbrev cX0_moveLast : ByteArray := prog_2_method_9_code
def yX0_moveLast : MethodName := ⟨RX0, "moveLast", "(II)V"⟩
abbrev cX0_push : ByteArray := prog_2_method_10_code
def yX0_push : MethodName := ⟨RX0, "push", "(II)V"⟩
abbrev cX0_pop : ByteArray := prog_2_method_11_code
def yX0_pop : MethodName := ⟨RX0, "pop", "(I)I"⟩
abbrev cX0_mend : ByteArray := prog_2_method_12_code
def yX0_mend : MethodName := ⟨RX0, "mend", "(I)I"⟩
abbrev cX0_behind : ByteArray := prog_2_method_13_code
def yX0_behind : MethodName := ⟨RX0, "behind", "(I)I"⟩
abbrev cX0_weightOf : ByteArray := prog_2_method_14_code
def yX0_weightOf : MethodName := ⟨RX0, "weightOf", "(I)I"⟩
abbrev cX0_lengthOfLast : ByteArray := prog_2_method_15_code
def yX0_lengthOfLast : MethodName := ⟨RX0, "lengthOfLast", "(II)I"⟩
abbrev cX0_defectsOfLast : ByteArray := prog_2_method_16_code
def yX0_defectsOfLast : MethodName := ⟨RX0, "defectsOfLast", "(II)I"⟩
abbrev cX0_trainOf : ByteArray := prog_2_method_17_code
def yX0_trainOf : MethodName := ⟨RX0, "trainOf", "(I)I"⟩
abbrev cX0_listDestinations : ByteArray := prog_2_method_18_code
def yX0_listDestinations : MethodName := ⟨RX0, "listDestinations", "(I)I"⟩
abbrev cX0_neverIncrease : ByteArray := prog_2_method_19_code
def yX0_neverIncrease : MethodName := ⟨RX0, "neverIncrease", "(I)Z"⟩
abbrev cX0_pairsOutOfOrder : ByteArray := prog_2_method_20_code
def yX0_pairsOutOfOrder : MethodName := ⟨RX0, "pairsOutOfOrder", "(I)I"⟩
abbrev cX0_shiftsOfInsertion : ByteArray := prog_2_method_21_code
def yX0_shiftsOfInsertion : MethodName := ⟨RX0, "shiftsOfInsertion", "(I)I"⟩
abbrev cX0_bound : ByteArray := prog_2_method_22_code
def yX0_bound : MethodName := ⟨RX0, "bound", "(I)I"⟩
abbrev cX0_rankedSlot : ByteArray := prog_2_method_23_code
def yX0_rankedSlot : MethodName := ⟨RX0, "rankedSlot", "(I)I"⟩
abbrev cX0_rankOf : ByteArray := prog_2_method_24_code
def yX0_rankOf : MethodName := ⟨RX0, "rankOf", "(I)I"⟩
abbrev cX0_ranksBefore : ByteArray := prog_2_method_25_code
def yX0_ranksBefore : MethodName := ⟨RX0, "ranksBefore", "(II)Z"⟩
def RX1 : String := "ClassificationYard$History"
def TX1 : u_T := fun k => match k with
  | 0 => ("ClassificationYard$History", "past", "[LClassificationYard$Yard;", true)
  | 1 => ("ClassificationYard$History", "next", "I", false)
  | 2 => ("ClassificationYard$History", "depth", "I", false)
  | 3 => ("ClassificationYard$History", "kept", "LClassificationYard$Yard;", true)
  | _ => ("ClassificationYard$History", "isKept", "Z", false)
def tyX1 : Nat → FieldType := fun k => match k with
  | 0 => .array (.object "ClassificationYard$Yard")
  | 1 => .int
  | 2 => .int
  | 3 => .object "ClassificationYard$Yard"
  | _ => .boolean
theorem nmX1 : ∀ a, a < 5 → ∀ b, b < 5 → a ≠ b → (TX1 a).2.1 ≠ (TX1 b).2.1 := by decide +kernel
theorem tyX1_ok : ∀ k, k < 5 → parseFieldDescriptor (TX1 k).2.2.1 = some (tyX1 k) := by decide +kernel
abbrev cX1_init : ByteArray := prog_3_method_1_code
def yX1_init : MethodName := ⟨RX1, "<init>", "()V"⟩
abbrev cX1_remember : ByteArray := prog_3_method_2_code
def yX1_remember : MethodName := ⟨RX1, "remember", "(LClassificationYard$Yard;)V"⟩
abbrev cX1_takeLatest : ByteArray := prog_3_method_3_code
def yX1_takeLatest : MethodName := ⟨RX1, "takeLatest", "()LClassificationYard$Yard;"⟩
abbrev cX1_keep : ByteArray := prog_3_method_4_code
def yX1_keep : MethodName := ⟨RX1, "keep", "(LClassificationYard$Yard;)V"⟩
abbrev cX1_pastAt : ByteArray := prog_3_method_5_code
def yX1_pastAt : MethodName := ⟨RX1, "pastAt", "(I)LClassificationYard$Yard;"⟩
def RX2 : String := "ClassificationYard$Network"
def TX2 : u_T := fun k => match k with
  | 0 => ("ClassificationYard$Network", "size", "I", false)
  | 1 => ("ClassificationYard$Network", "connections", "I", false)
  | 2 => ("ClassificationYard$Network", "joints", "LClassificationYard$Row;", true)
  | 3 => ("ClassificationYard$Network", "steps", "LClassificationYard$Row;", true)
  | 4 => ("ClassificationYard$Network", "queue", "LClassificationYard$Row;", true)
  | _ => ("ClassificationYard$Network", "matrix", "LClassificationYard$Row;", true)
def tyX2 : Nat → FieldType := fun k => match k with
  | 0 => .int
  | 1 => .int
  | 2 => .object "ClassificationYard$Row"
  | 3 => .object "ClassificationYard$Row"
  | 4 => .object "ClassificationYard$Row"
  | _ => .object "ClassificationYard$Row"
theorem nmX2 : ∀ a, a < 6 → ∀ b, b < 6 → a ≠ b → (TX2 a).2.1 ≠ (TX2 b).2.1 := by decide +kernel
theorem tyX2_ok : ∀ k, k < 6 → parseFieldDescriptor (TX2 k).2.2.1 = some (tyX2 k) := by decide +kernel
abbrev cX2_init : ByteArray := prog_4_method_1_code
def yX2_init : MethodName := ⟨RX2, "<init>", "()V"⟩
abbrev cX2_copy : ByteArray := prog_4_method_2_code
def yX2_copy : MethodName := ⟨RX2, "copy", "(LClassificationYard$Network;)V"⟩
abbrev cX2_cell : ByteArray := prog_4_method_3_code
def yX2_cell : MethodName := ⟨RX2, "cell", "(II)I"⟩
abbrev cX2_areJoined : ByteArray := prog_4_method_4_code
def yX2_areJoined : MethodName := ⟨RX2, "areJoined", "(II)Z"⟩
abbrev cX2_join : ByteArray := prog_4_method_5_code
def yX2_join : MethodName := ⟨RX2, "join", "(II)I"⟩
abbrev cX2_part : ByteArray := prog_4_method_6_code
def yX2_part : MethodName := ⟨RX2, "part", "(II)I"⟩
abbrev cX2_stepsBySearch : ByteArray := prog_4_method_7_code
def yX2_stepsBySearch : MethodName := ⟨RX2, "stepsBySearch", "(II)I"⟩
abbrev cX2_stepsByMatrix : ByteArray := prog_4_method_8_code
def yX2_stepsByMatrix : MethodName := ⟨RX2, "stepsByMatrix", "(II)I"⟩
abbrev cX2_trackOnRoute : ByteArray := prog_4_method_9_code
def yX2_trackOnRoute : MethodName := ⟨RX2, "trackOnRoute", "(III)I"⟩
abbrev cX2_waysAgree : ByteArray := prog_4_method_10_code
def yX2_waysAgree : MethodName := ⟨RX2, "waysAgree", "()Z"⟩
abbrev cX2_search : ByteArray := prog_4_method_11_code
def yX2_search : MethodName := ⟨RX2, "search", "(I)V"⟩
abbrev cX2_nextTrack : ByteArray := prog_4_method_12_code
def yX2_nextTrack : MethodName := ⟨RX2, "nextTrack", "(I)I"⟩
abbrev cX2_fillMatrix : ByteArray := prog_4_method_13_code
def yX2_fillMatrix : MethodName := ⟨RX2, "fillMatrix", "()V"⟩
abbrev cX2_combineOver : ByteArray := prog_4_method_14_code
def yX2_combineOver : MethodName := ⟨RX2, "combineOver", "(II)V"⟩
def RX3 : String := "ClassificationYard$Program"
def TX3 : u_T := fun k => match k with
  | 0 => ("ClassificationYard$Program", "text", "[C", true)
  | 1 => ("ClassificationYard$Program", "length", "I", false)
  | 2 => ("ClassificationYard$Program", "commandTotal", "I", false)
  | 3 => ("ClassificationYard$Program", "kinds", "LClassificationYard$Row;", true)
  | 4 => ("ClassificationYard$Program", "values", "LClassificationYard$Row;", true)
  | 5 => ("ClassificationYard$Program", "at", "I", false)
  | _ => ("ClassificationYard$Program", "nextValue", "I", false)
def tyX3 : Nat → FieldType := fun k => match k with
  | 0 => .array .char
  | 1 => .int
  | 2 => .int
  | 3 => .object "ClassificationYard$Row"
  | 4 => .object "ClassificationYard$Row"
  | 5 => .int
  | _ => .int
theorem nmX3 : ∀ a, a < 7 → ∀ b, b < 7 → a ≠ b → (TX3 a).2.1 ≠ (TX3 b).2.1 := by decide +kernel
theorem tyX3_ok : ∀ k, k < 7 → parseFieldDescriptor (TX3 k).2.2.1 = some (tyX3 k) := by decide +kernel
abbrev cX3_init : ByteArray := prog_5_method_1_code
def yX3_init : MethodName := ⟨RX3, "<init>", "()V"⟩
abbrev cX3_add : ByteArray := prog_5_method_2_code
def yX3_add : MethodName := ⟨RX3, "add", "(C)I"⟩
abbrev cX3_clear : ByteArray := prog_5_method_3_code
def yX3_clear : MethodName := ⟨RX3, "clear", "()V"⟩
abbrev cX3_value : ByteArray := prog_5_method_4_code
def yX3_value : MethodName := ⟨RX3, "value", "(II)I"⟩
abbrev cX3_parse : ByteArray := prog_5_method_5_code
def yX3_parse : MethodName := ⟨RX3, "parse", "()I"⟩
abbrev cX3_readCommand : ByteArray := prog_5_method_6_code
def yX3_readCommand : MethodName := ⟨RX3, "readCommand", "()Z"⟩
abbrev cX3_shapeOf : ByteArray := prog_5_method_7_code
def yX3_shapeOf : MethodName := ⟨RX3, "shapeOf", "(I)Ljava/lang/String;"⟩
abbrev cX3_fits : ByteArray := prog_5_method_8_code
def yX3_fits : MethodName := ⟨RX3, "fits", "(Ljava/lang/String;I)Z"⟩
abbrev cX3_readPart : ByteArray := prog_5_method_9_code
def yX3_readPart : MethodName := ⟨RX3, "readPart", "(C)Z"⟩
abbrev cX3_readNumber : ByteArray := prog_5_method_10_code
def yX3_readNumber : MethodName := ⟨RX3, "readNumber", "(I)Z"⟩
abbrev cX3_readSign : ByteArray := prog_5_method_11_code
def yX3_readSign : MethodName := ⟨RX3, "readSign", "(C)Z"⟩
abbrev cX3_isDigit : ByteArray := prog_5_method_12_code
def yX3_isDigit : MethodName := ⟨RX3, "isDigit", "(I)Z"⟩
abbrev cX3_signAt : ByteArray := prog_5_method_13_code
def yX3_signAt : MethodName := ⟨RX3, "signAt", "(I)I"⟩
def RX4 : String := "ClassificationYard$Row"
def TX4 : u_T := fun k => match k with
  | _ => ("ClassificationYard$Row", "cells", "[I", true)
def tyX4 : Nat → FieldType := fun k => match k with
  | _ => .array .int
theorem nmX4 : ∀ a, a < 1 → ∀ b, b < 1 → a ≠ b → (TX4 a).2.1 ≠ (TX4 b).2.1 := by decide +kernel
theorem tyX4_ok : ∀ k, k < 1 → parseFieldDescriptor (TX4 k).2.2.1 = some (tyX4 k) := by decide +kernel
abbrev cX4_init : ByteArray := prog_6_method_1_code
def yX4_init : MethodName := ⟨RX4, "<init>", "(I)V"⟩
abbrev cX4_get : ByteArray := prog_6_method_2_code
def yX4_get : MethodName := ⟨RX4, "get", "(I)I"⟩
abbrev cX4_set : ByteArray := prog_6_method_3_code
def yX4_set : MethodName := ⟨RX4, "set", "(II)V"⟩
abbrev cX4_increase : ByteArray := prog_6_method_4_code
def yX4_increase : MethodName := ⟨RX4, "increase", "(II)V"⟩
abbrev cX4_fill : ByteArray := prog_6_method_5_code
def yX4_fill : MethodName := ⟨RX4, "fill", "(I)V"⟩
abbrev cX4_copy : ByteArray := prog_6_method_6_code
def yX4_copy : MethodName := ⟨RX4, "copy", "(LClassificationYard$Row;)V"⟩
def RX5 : String := "ClassificationYard$Yard"
def TX5 : u_T := fun k => match k with
  | 0 => ("ClassificationYard$Yard", "capacities", "LClassificationYard$Row;", true)
  | 1 => ("ClassificationYard$Yard", "slopes", "LClassificationYard$Row;", true)
  | 2 => ("ClassificationYard$Yard", "network", "LClassificationYard$Network;", true)
  | 3 => ("ClassificationYard$Yard", "cars", "LClassificationYard$Cars;", true)
  | 4 => ("ClassificationYard$Yard", "minutes", "J", false)
  | 5 => ("ClassificationYard$Yard", "moves", "I", false)
  | 6 => ("ClassificationYard$Yard", "carsGone", "I", false)
  | _ => ("ClassificationYard$Yard", "weightGone", "J", false)
def tyX5 : Nat → FieldType := fun k => match k with
  | 0 => .object "ClassificationYard$Row"
  | 1 => .object "ClassificationYard$Row"
  | 2 => .object "ClassificationYard$Network"
  | 3 => .object "ClassificationYard$Cars"
  | 4 => .long
  | 5 => .int
  | 6 => .int
  | _ => .long
theorem nmX5 : ∀ a, a < 8 → ∀ b, b < 8 → a ≠ b → (TX5 a).2.1 ≠ (TX5 b).2.1 := by decide +kernel
theorem tyX5_ok : ∀ k, k < 8 → parseFieldDescriptor (TX5 k).2.2.1 = some (tyX5 k) := by decide +kernel
abbrev cX5_init : ByteArray := prog_7_method_1_code
def yX5_init : MethodName := ⟨RX5, "<init>", "()V"⟩
abbrev cX5_copy : ByteArray := prog_7_method_2_code
def yX5_copy : MethodName := ⟨RX5, "copy", "(LClassificationYard$Yard;)V"⟩
abbrev cX5_hasTrack : ByteArray := prog_7_method_3_code
def yX5_hasTrack : MethodName := ⟨RX5, "hasTrack", "(I)Z"⟩
abbrev cX5_free : ByteArray := prog_7_method_4_code
def yX5_free : MethodName := ⟨RX5, "free", "(I)I"⟩
abbrev cX5_trackFault : ByteArray := prog_7_method_5_code
def yX5_trackFault : MethodName := ⟨RX5, "trackFault", "(II)I"⟩
abbrev cX5_build : ByteArray := prog_7_method_6_code
def yX5_build : MethodName := ⟨RX5, "build", "(II)I"⟩
abbrev cX5_switchFault : ByteArray := prog_7_method_7_code
def yX5_switchFault : MethodName := ⟨RX5, "switchFault", "(II)I"⟩
abbrev cX5_cutFault : ByteArray := prog_7_method_8_code
def yX5_cutFault : MethodName := ⟨RX5, "cutFault", "(II)I"⟩
abbrev cX5_carFault : ByteArray := prog_7_method_9_code
def yX5_carFault : MethodName := ⟨RX5, "carFault", "(IIII)I"⟩
abbrev cX5_moveFault : ByteArray := prog_7_method_10_code
def yX5_moveFault : MethodName := ⟨RX5, "moveFault", "(III)I"⟩
abbrev cX5_minutesOfMove : ByteArray := prog_7_method_11_code
def yX5_minutesOfMove : MethodName := ⟨RX5, "minutesOfMove", "(III)I"⟩
abbrev cX5_move : ByteArray := prog_7_method_12_code
def yX5_move : MethodName := ⟨RX5, "move", "(III)I"⟩
abbrev cX5_repairFault : ByteArray := prog_7_method_13_code
def yX5_repairFault : MethodName := ⟨RX5, "repairFault", "(I)I"⟩
abbrev cX5_trainFault : ByteArray := prog_7_method_14_code
def yX5_trainFault : MethodName := ⟨RX5, "trainFault", "(II)I"⟩
abbrev cX5_sendTrain : ByteArray := prog_7_method_15_code
def yX5_sendTrain : MethodName := ⟨RX5, "sendTrain", "(I)I"⟩
abbrev cX5_nearestFor : ByteArray := prog_7_method_16_code
def yX5_nearestFor : MethodName := ⟨RX5, "nearestFor", "(I)I"⟩
abbrev cX5_rankedTrack : ByteArray := prog_7_method_17_code
def yX5_rankedTrack : MethodName := ⟨RX5, "rankedTrack", "(I)I"⟩
abbrev cX5_rankOf : ByteArray := prog_7_method_18_code
def yX5_rankOf : MethodName := ⟨RX5, "rankOf", "(I)I"⟩
abbrev cX5_ranksBefore : ByteArray := prog_7_method_19_code
def yX5_ranksBefore : MethodName := ⟨RX5, "ranksBefore", "(II)Z"⟩
abbrev cX5_capacityOfAll : ByteArray := prog_7_method_20_code
def yX5_capacityOfAll : MethodName := ⟨RX5, "capacityOfAll", "()I"⟩
abbrev cX5_usedOfAll : ByteArray := prog_7_method_21_code
def yX5_usedOfAll : MethodName := ⟨RX5, "usedOfAll", "()I"⟩
abbrev cX5_tracksAreSound : ByteArray := prog_7_method_22_code
def yX5_tracksAreSound : MethodName := ⟨RX5, "tracksAreSound", "()Z"⟩
def RX6 : String := "ClassificationYard"
def TX6 : u_T := fun k => match k with
  | 0 => ("ClassificationYard", "yard", "LClassificationYard$Yard;", true)
  | 1 => ("ClassificationYard", "beforeRun", "LClassificationYard$Yard;", true)
  | 2 => ("ClassificationYard", "history", "LClassificationYard$History;", true)
  | 3 => ("ClassificationYard", "program", "LClassificationYard$Program;", true)
  | 4 => ("ClassificationYard", "line", "Ljava/lang/StringBuilder;", true)
  | 5 => ("ClassificationYard", "storedError", "I", false)
  | _ => ("ClassificationYard", "storedFailure", "I", false)
def tyX6 : Nat → FieldType := fun k => match k with
  | 0 => .object "ClassificationYard$Yard"
  | 1 => .object "ClassificationYard$Yard"
  | 2 => .object "ClassificationYard$History"
  | 3 => .object "ClassificationYard$Program"
  | 4 => .object "java/lang/StringBuilder"
  | 5 => .int
  | _ => .int
theorem nmX6 : ∀ a, a < 7 → ∀ b, b < 7 → a ≠ b → (TX6 a).2.1 ≠ (TX6 b).2.1 := by decide +kernel
theorem tyX6_ok : ∀ k, k < 7 → parseFieldDescriptor (TX6 k).2.2.1 = some (tyX6 k) := by decide +kernel
abbrev cX6_init : ByteArray := prog_1_method_1_code
def yX6_init : MethodName := ⟨RX6, "<init>", "()V"⟩
abbrev cX6_addTrack : ByteArray := prog_1_method_2_code
def yX6_addTrack : MethodName := ⟨RX6, "addTrack", "(II)I"⟩
abbrev cX6_connect : ByteArray := prog_1_method_3_code
def yX6_connect : MethodName := ⟨RX6, "connect", "(II)I"⟩
abbrev cX6_disconnect : ByteArray := prog_1_method_4_code
def yX6_disconnect : MethodName := ⟨RX6, "disconnect", "(II)I"⟩
abbrev cX6_addCar : ByteArray := prog_1_method_5_code
def yX6_addCar : MethodName := ⟨RX6, "addCar", "(IIIIZ)I"⟩
abbrev cX6_shunt : ByteArray := prog_1_method_6_code
def yX6_shunt : MethodName := ⟨RX6, "shunt", "(III)I"⟩
abbrev cX6_repair : ByteArray := prog_1_method_7_code
def yX6_repair : MethodName := ⟨RX6, "repair", "(I)I"⟩
abbrev cX6_depart : ByteArray := prog_1_method_8_code
def yX6_depart : MethodName := ⟨RX6, "depart", "(II)I"⟩
abbrev cX6_trackCount : ByteArray := prog_1_method_9_code
def yX6_trackCount : MethodName := ⟨RX6, "trackCount", "()I"⟩
abbrev cX6_freeLength : ByteArray := prog_1_method_10_code
def yX6_freeLength : MethodName := ⟨RX6, "freeLength", "(I)I"⟩
abbrev cX6_carsOn : ByteArray := prog_1_method_11_code
def yX6_carsOn : MethodName := ⟨RX6, "carsOn", "(I)I"⟩
abbrev cX6_weightOn : ByteArray := prog_1_method_12_code
def yX6_weightOn : MethodName := ⟨RX6, "weightOn", "(I)I"⟩
abbrev cX6_carAt : ByteArray := prog_1_method_13_code
def yX6_carAt : MethodName := ⟨RX6, "carAt", "(II)I"⟩
abbrev cX6_isSorted : ByteArray := prog_1_method_14_code
def yX6_isSorted : MethodName := ⟨RX6, "isSorted", "(I)Z"⟩
abbrev cX6_disorder : ByteArray := prog_1_method_15_code
def yX6_disorder : MethodName := ⟨RX6, "disorder", "(I)I"⟩
abbrev cX6_disorderByInsertion : ByteArray := prog_1_method_16_code
def yX6_disorderByInsertion : MethodName := ⟨RX6, "disorderByInsertion", "(I)I"⟩
abbrev cX6_trainLength : ByteArray := prog_1_method_17_code
def yX6_trainLength : MethodName := ⟨RX6, "trainLength", "(I)I"⟩
abbrev cX6_trackAtRank : ByteArray := prog_1_method_18_code
def yX6_trackAtRank : MethodName := ⟨RX6, "trackAtRank", "(I)I"⟩
abbrev cX6_areConnected : ByteArray := prog_1_method_19_code
def yX6_areConnected : MethodName := ⟨RX6, "areConnected", "(II)Z"⟩
abbrev cX6_routeLength : ByteArray := prog_1_method_20_code
def yX6_routeLength : MethodName := ⟨RX6, "routeLength", "(II)I"⟩
abbrev cX6_routeLengthByMatrix : ByteArray := prog_1_method_21_code
def yX6_routeLengthByMatrix : MethodName := ⟨RX6, "routeLengthByMatrix", "(II)I"⟩
abbrev cX6_routeTrack : ByteArray := prog_1_method_22_code
def yX6_routeTrack : MethodName := ⟨RX6, "routeTrack", "(III)I"⟩
abbrev cX6_shuntingTime : ByteArray := prog_1_method_23_code
def yX6_shuntingTime : MethodName := ⟨RX6, "shuntingTime", "(III)I"⟩
abbrev cX6_nearestFreeTrack : ByteArray := prog_1_method_24_code
def yX6_nearestFreeTrack : MethodName := ⟨RX6, "nearestFreeTrack", "(I)I"⟩
abbrev cX6_carCount : ByteArray := prog_1_method_25_code
def yX6_carCount : MethodName := ⟨RX6, "carCount", "()I"⟩
abbrev cX6_isInYard : ByteArray := prog_1_method_26_code
def yX6_isInYard : MethodName := ⟨RX6, "isInYard", "(I)Z"⟩
abbrev cX6_carsBehind : ByteArray := prog_1_method_28_code
def yX6_carsBehind : MethodName := ⟨RX6, "carsBehind", "(I)I"⟩
abbrev cX6_destination : ByteArray := prog_1_method_29_code
def yX6_destination : MethodName := ⟨RX6, "destination", "(I)I"⟩
abbrev cX6_isDefective : ByteArray := prog_1_method_30_code
def yX6_isDefective : MethodName := ⟨RX6, "isDefective", "(I)Z"⟩
abbrev cX6_carsFor : ByteArray := prog_1_method_31_code
def yX6_carsFor : MethodName := ⟨RX6, "carsFor", "(I)I"⟩
abbrev cX6_carAtRank : ByteArray := prog_1_method_32_code
def yX6_carAtRank : MethodName := ⟨RX6, "carAtRank", "(I)I"⟩
abbrev cX6_time : ByteArray := prog_1_method_33_code
def yX6_time : MethodName := ⟨RX6, "time", "()J"⟩
abbrev cX6_moveCount : ByteArray := prog_1_method_34_code
def yX6_moveCount : MethodName := ⟨RX6, "moveCount", "()I"⟩
abbrev cX6_departedCars : ByteArray := prog_1_method_35_code
def yX6_departedCars : MethodName := ⟨RX6, "departedCars", "()I"⟩
abbrev cX6_departedWeight : ByteArray := prog_1_method_36_code
def yX6_departedWeight : MethodName := ⟨RX6, "departedWeight", "()J"⟩
abbrev cX6_meanMoveTime : ByteArray := prog_1_method_37_code
def yX6_meanMoveTime : MethodName := ⟨RX6, "meanMoveTime", "()D"⟩
abbrev cX6_usedShare : ByteArray := prog_1_method_38_code
def yX6_usedShare : MethodName := ⟨RX6, "usedShare", "()F"⟩
abbrev cX6_isConsistent : ByteArray := prog_1_method_39_code
def yX6_isConsistent : MethodName := ⟨RX6, "isConsistent", "()Z"⟩
abbrev cX6_append : ByteArray := prog_1_method_40_code
def yX6_append : MethodName := ⟨RX6, "append", "(C)I"⟩
abbrev cX6_run : ByteArray := prog_1_method_41_code
def yX6_run : MethodName := ⟨RX6, "run", "()I"⟩
abbrev cX6_errorPosition : ByteArray := prog_1_method_42_code
def yX6_errorPosition : MethodName := ⟨RX6, "errorPosition", "()I"⟩
abbrev cX6_failedCommand : ByteArray := prog_1_method_43_code
def yX6_failedCommand : MethodName := ⟨RX6, "failedCommand", "()I"⟩
abbrev cX6_writeTrack : ByteArray := prog_1_method_44_code
def yX6_writeTrack : MethodName := ⟨RX6, "writeTrack", "(I)I"⟩
abbrev cX6_outputAt : ByteArray := prog_1_method_45_code
def yX6_outputAt : MethodName := ⟨RX6, "outputAt", "(I)C"⟩
abbrev cX6_undo : ByteArray := prog_1_method_46_code
def yX6_undo : MethodName := ⟨RX6, "undo", "()I"⟩
abbrev cX6_save : ByteArray := prog_1_method_47_code
def yX6_save : MethodName := ⟨RX6, "save", "()V"⟩
abbrev cX6_restore : ByteArray := prog_1_method_48_code
def yX6_restore : MethodName := ⟨RX6, "restore", "()V"⟩
abbrev cX6_isWithin : ByteArray := prog_1_method_49_code
def yX6_isWithin : MethodName := ⟨RX6, "isWithin", "(III)Z"⟩
abbrev cX6_refuse : ByteArray := prog_1_method_50_code
def yX6_refuse : MethodName := ⟨RX6, "refuse", "(I)V"⟩
abbrev cX6_requireTrack : ByteArray := prog_1_method_51_code
def yX6_requireTrack : MethodName := ⟨RX6, "requireTrack", "(I)V"⟩
abbrev cX6_requireCar : ByteArray := prog_1_method_52_code
def yX6_requireCar : MethodName := ⟨RX6, "requireCar", "(I)I"⟩
abbrev cX6_requireRoute : ByteArray := prog_1_method_53_code
def yX6_requireRoute : MethodName := ⟨RX6, "requireRoute", "(I)I"⟩
abbrev cX6_writeCar : ByteArray := prog_1_method_54_code
def yX6_writeCar : MethodName := ⟨RX6, "writeCar", "(I)V"⟩
abbrev cX6_faultOfCommand : ByteArray := prog_1_method_55_code
def yX6_faultOfCommand : MethodName := ⟨RX6, "faultOfCommand", "(I)I"⟩
abbrev cX6_carryOut : ByteArray := prog_1_method_56_code
def yX6_carryOut : MethodName := ⟨RX6, "carryOut", "(I)V"⟩
def RX7 : String := "ClassificationYardModel"
def TX7 : u_T := fun k => match k with
  | _ => ("", "", "", false)
def tyX7 : Nat → FieldType := fun k => match k with
  | _ => .int
theorem nmX7 : ∀ a, a < 0 → ∀ b, b < 0 → a ≠ b → (TX7 a).2.1 ≠ (TX7 b).2.1 := by decide +kernel
theorem tyX7_ok : ∀ k, k < 0 → parseFieldDescriptor (TX7 k).2.2.1 = some (tyX7 k) := by decide +kernel
def RJx145de : String := "java/io/Serializable"
def TJx145de : u_T := fun k => match k with
  | _ => ("", "", "", false)
def tyJx145de : Nat → FieldType := fun k => match k with
  | _ => .int
theorem nmJx145de : ∀ a, a < 0 → ∀ b, b < 0 → a ≠ b → (TJx145de a).2.1 ≠ (TJx145de b).2.1 := by decide +kernel
theorem tyJx145de_ok : ∀ k, k < 0 → parseFieldDescriptor (TJx145de k).2.2.1 = some (tyJx145de k) := by decide +kernel
def RJ5 : String := "java/lang/AbstractStringBuilder"
def TJ5 : u_T := fun k => match k with
  | _ => ("", "", "", false)
def tyJ5 : Nat → FieldType := fun k => match k with
  | _ => .int
theorem nmJ5 : ∀ a, a < 0 → ∀ b, b < 0 → a ≠ b → (TJ5 a).2.1 ≠ (TJ5 b).2.1 := by decide +kernel
theorem tyJ5_ok : ∀ k, k < 0 → parseFieldDescriptor (TJ5 k).2.2.1 = some (tyJ5 k) := by decide +kernel
abbrev cJ5_init_d00df : ByteArray := prog_11_method_2_code
def yJ5_init_d00df : MethodName := ⟨RJ5, "<init>", "(I)V"⟩
abbrev cJ5_length_8abf5 : ByteArray := prog_11_method_6_code
def yJ5_length_8abf5 : MethodName := ⟨RJ5, "length", "()I"⟩
abbrev cJ5_ensureCapacityInternal_d00df : ByteArray := prog_11_method_9_code
def yJ5_ensureCapacityInternal_d00df : MethodName := ⟨RJ5, "ensureCapacityInternal", "(I)V"⟩
abbrev cJ5_newCapacity_0f7a4 : ByteArray := prog_11_method_10_code
def yJ5_newCapacity_0f7a4 : MethodName := ⟨RJ5, "newCapacity", "(I)I"⟩
abbrev cJ5_inflate_da8c8 : ByteArray := prog_11_method_11_code
def yJ5_inflate_da8c8 : MethodName := ⟨RJ5, "inflate", "()V"⟩
abbrev cJ5_setLength_d00df : ByteArray := prog_11_method_13_code
def yJ5_setLength_d00df : MethodName := ⟨RJ5, "setLength", "(I)V"⟩
abbrev cJ5_charAt_5068e : ByteArray := prog_11_method_14_code
def yJ5_charAt_5068e : MethodName := ⟨RJ5, "charAt", "(I)C"⟩
abbrev cJ5_append_cf1ce : ByteArray := prog_11_method_22_code
def yJ5_append_cf1ce : MethodName := ⟨RJ5, "append", "(Ljava/lang/String;)Ljava/lang/AbstractStringBuilder;"⟩
abbrev cJ5_appendNull_278bc : ByteArray := prog_11_method_26_code
def yJ5_appendNull_278bc : MethodName := ⟨RJ5, "appendNull", "()Ljava/lang/AbstractStringBuilder;"⟩
abbrev cJ5_append_3fe6f : ByteArray := prog_11_method_31_code
def yJ5_append_3fe6f : MethodName := ⟨RJ5, "append", "(C)Ljava/lang/AbstractStringBuilder;"⟩
abbrev cJ5_append_c97b9 : ByteArray := prog_11_method_32_code
def yJ5_append_c97b9 : MethodName := ⟨RJ5, "append", "(I)Ljava/lang/AbstractStringBuilder;"⟩
abbrev cJ5_getValue_6d5f1 : ByteArray := prog_11_method_64_code
def yJ5_getValue_6d5f1 : MethodName := ⟨RJ5, "getValue", "()[B"⟩
abbrev cJ5_isLatin1_aae02 : ByteArray := prog_11_method_68_code
def yJ5_isLatin1_aae02 : MethodName := ⟨RJ5, "isLatin1", "()Z"⟩
abbrev cJ5_inflateIfNeededFor_a7421 : ByteArray := prog_11_method_71_code
def yJ5_inflateIfNeededFor_a7421 : MethodName := ⟨RJ5, "inflateIfNeededFor", "(Ljava/lang/String;)V"⟩
abbrev cJ5_putStringAt_47b60 : ByteArray := prog_11_method_73_code
def yJ5_putStringAt_47b60 : MethodName := ⟨RJ5, "putStringAt", "(ILjava/lang/String;)V"⟩
def RJx2cfe8 : String := "java/lang/Appendable"
def TJx2cfe8 : u_T := fun k => match k with
  | _ => ("", "", "", false)
def tyJx2cfe8 : Nat → FieldType := fun k => match k with
  | _ => .int
theorem nmJx2cfe8 : ∀ a, a < 0 → ∀ b, b < 0 → a ≠ b → (TJx2cfe8 a).2.1 ≠ (TJx2cfe8 b).2.1 := by decide +kernel
theorem tyJx2cfe8_ok : ∀ k, k < 0 → parseFieldDescriptor (TJx2cfe8 k).2.2.1 = some (tyJx2cfe8 k) := by decide +kernel
def RJx00060 : String := "java/lang/ArrayIndexOutOfBoundsException"
def TJx00060 : u_T := fun k => match k with
  | 0 => ("java/lang/Throwable", "cause", "Ljava/lang/Throwable;", false)
  | 1 => ("java/lang/Throwable", "stackTrace", "[Ljava/lang/StackTraceElement;", false)
  | 2 => ("java/lang/Throwable", "suppressedExceptions", "Ljava/util/List;", false)
  | 3 => ("java/lang/Throwable", "detailMessage", "Ljava/lang/String;", false)
  | 4 => ("java/lang/Throwable", "backtrace", "Ljava/lang/Object;", false)
  | _ => ("java/lang/Throwable", "depth", "I", false)
def tyJx00060 : Nat → FieldType := fun k => match k with
  | 0 => .object "java/lang/Throwable"
  | 1 => .array (.object "java/lang/StackTraceElement")
  | 2 => .object "java/util/List"
  | 3 => .object "java/lang/String"
  | 4 => .object "java/lang/Object"
  | _ => .int
theorem nmJx00060 : ∀ a, a < 6 → ∀ b, b < 6 → a ≠ b → (TJx00060 a).2.1 ≠ (TJx00060 b).2.1 := by decide +kernel
theorem tyJx00060_ok : ∀ k, k < 6 → parseFieldDescriptor (TJx00060 k).2.2.1 = some (tyJx00060 k) := by decide +kernel
abbrev cJx00060_init_a7421 : ByteArray := prog_14_method_2_code
def yJx00060_init_a7421 : MethodName := ⟨RJx00060, "<init>", "(Ljava/lang/String;)V"⟩
abbrev cJx00060_init_d00df : ByteArray := prog_14_method_3_code
def yJx00060_init_d00df : MethodName := ⟨RJx00060, "<init>", "(I)V"⟩
def RJx9f9b0 : String := "java/lang/CharSequence"
def TJx9f9b0 : u_T := fun k => match k with
  | _ => ("", "", "", false)
def tyJx9f9b0 : Nat → FieldType := fun k => match k with
  | _ => .int
theorem nmJx9f9b0 : ∀ a, a < 0 → ∀ b, b < 0 → a ≠ b → (TJx9f9b0 a).2.1 ≠ (TJx9f9b0 b).2.1 := by decide +kernel
theorem tyJx9f9b0_ok : ∀ k, k < 0 → parseFieldDescriptor (TJx9f9b0 k).2.2.1 = some (tyJx9f9b0 k) := by decide +kernel
def RJx8e188 : String := "java/lang/Cloneable"
def TJx8e188 : u_T := fun k => match k with
  | _ => ("", "", "", false)
def tyJx8e188 : Nat → FieldType := fun k => match k with
  | _ => .int
theorem nmJx8e188 : ∀ a, a < 0 → ∀ b, b < 0 → a ≠ b → (TJx8e188 a).2.1 ≠ (TJx8e188 b).2.1 := by decide +kernel
theorem tyJx8e188_ok : ∀ k, k < 0 → parseFieldDescriptor (TJx8e188 k).2.2.1 = some (tyJx8e188 k) := by decide +kernel
def RJxb160c : String := "java/lang/Comparable"
def TJxb160c : u_T := fun k => match k with
  | _ => ("", "", "", false)
def tyJxb160c : Nat → FieldType := fun k => match k with
  | _ => .int
theorem nmJxb160c : ∀ a, a < 0 → ∀ b, b < 0 → a ≠ b → (TJxb160c a).2.1 ≠ (TJxb160c b).2.1 := by decide +kernel
theorem tyJxb160c_ok : ∀ k, k < 0 → parseFieldDescriptor (TJxb160c k).2.2.1 = some (tyJxb160c k) := by decide +kernel
def RJ6 : String := "java/lang/Integer"
def TJ6 : u_T := fun k => match k with
  | _ => ("", "", "", false)
def tyJ6 : Nat → FieldType := fun k => match k with
  | _ => .int
theorem nmJ6 : ∀ a, a < 0 → ∀ b, b < 0 → a ≠ b → (TJ6 a).2.1 ≠ (TJ6 b).2.1 := by decide +kernel
theorem tyJ6_ok : ∀ k, k < 0 → parseFieldDescriptor (TJ6 k).2.2.1 = some (tyJ6 k) := by decide +kernel
abbrev cJ6_getChars_ba4f3 : ByteArray := prog_22_method_12_code
def yJ6_getChars_ba4f3 : MethodName := ⟨RJ6, "getChars", "(II[B)I"⟩
abbrev cJ6_stringSize_0f7a4 : ByteArray := prog_22_method_13_code
def yJ6_stringSize_0f7a4 : MethodName := ⟨RJ6, "stringSize", "(I)I"⟩
def RJ9 : String := "java/lang/Math"
def TJ9 : u_T := fun k => match k with
  | _ => ("", "", "", false)
def tyJ9 : Nat → FieldType := fun k => match k with
  | _ => .int
theorem nmJ9 : ∀ a, a < 0 → ∀ b, b < 0 → a ≠ b → (TJ9 a).2.1 ≠ (TJ9 b).2.1 := by decide +kernel
theorem tyJ9_ok : ∀ k, k < 0 → parseFieldDescriptor (TJ9 k).2.2.1 = some (tyJ9 k) := by decide +kernel
abbrev cJ9_max_7cf53 : ByteArray := prog_23_method_65_code
def yJ9_max_7cf53 : MethodName := ⟨RJ9, "max", "(II)I"⟩
abbrev cJ9_min_7cf53 : ByteArray := prog_23_method_69_code
def yJ9_min_7cf53 : MethodName := ⟨RJ9, "min", "(II)I"⟩
def RJxd2413 : String := "java/lang/Number"
def TJxd2413 : u_T := fun k => match k with
  | _ => ("", "", "", false)
def tyJxd2413 : Nat → FieldType := fun k => match k with
  | _ => .int
theorem nmJxd2413 : ∀ a, a < 0 → ∀ b, b < 0 → a ≠ b → (TJxd2413 a).2.1 ≠ (TJxd2413 b).2.1 := by decide +kernel
theorem tyJxd2413_ok : ∀ k, k < 0 → parseFieldDescriptor (TJxd2413 k).2.2.1 = some (tyJxd2413 k) := by decide +kernel
def RJ0 : String := "java/lang/String"
def TJ0 : u_T := fun k => match k with
  | 0 => ("java/lang/String", "value", "[B", true)
  | 1 => ("java/lang/String", "coder", "B", true)
  | 2 => ("java/lang/String", "hash", "I", false)
  | _ => ("java/lang/String", "hashIsZero", "Z", false)
def tyJ0 : Nat → FieldType := fun k => match k with
  | 0 => .array .byte
  | 1 => .byte
  | 2 => .int
  | _ => .boolean
theorem nmJ0 : ∀ a, a < 4 → ∀ b, b < 4 → a ≠ b → (TJ0 a).2.1 ≠ (TJ0 b).2.1 := by decide +kernel
theorem tyJ0_ok : ∀ k, k < 4 → parseFieldDescriptor (TJ0 k).2.2.1 = some (tyJ0 k) := by decide +kernel
abbrev cJ0_init_81219 : ByteArray := prog_26_method_53_code
def yJ0_init_81219 : MethodName := ⟨RJ0, "<init>", "(Ljava/lang/StringBuilder;)V"⟩
abbrev cJ0_length_8abf5 : ByteArray := prog_26_method_54_code
def yJ0_length_8abf5 : MethodName := ⟨RJ0, "length", "()I"⟩
abbrev cJ0_charAt_5068e : ByteArray := prog_26_method_56_code
def yJ0_charAt_5068e : MethodName := ⟨RJ0, "charAt", "(I)C"⟩
abbrev cJ0_getBytes_840e7 : ByteArray := prog_26_method_147_code
def yJ0_getBytes_840e7 : MethodName := ⟨RJ0, "getBytes", "([BIB)V"⟩
abbrev cJ0_init_db425 : ByteArray := prog_26_method_150_code
def yJ0_init_db425 : MethodName := ⟨RJ0, "<init>", "(Ljava/lang/AbstractStringBuilder;Ljava/lang/Void;)V"⟩
abbrev cJ0_coder_7d493 : ByteArray := prog_26_method_152_code
def yJ0_coder_7d493 : MethodName := ⟨RJ0, "coder", "()B"⟩
abbrev cJ0_isLatin1_aae02 : ByteArray := prog_26_method_154_code
def yJ0_isLatin1_aae02 : MethodName := ⟨RJ0, "isLatin1", "()Z"⟩
abbrev cJ0_checkIndex_df160 : ByteArray := prog_26_method_155_code
def yJ0_checkIndex_df160 : MethodName := ⟨RJ0, "checkIndex", "(II)V"⟩
abbrev cJ0_checkBoundsOffCount_cabcc : ByteArray := prog_26_method_157_code
def yJ0_checkBoundsOffCount_cabcc : MethodName := ⟨RJ0, "checkBoundsOffCount", "(III)I"⟩
abbrev cJ0_checkBoundsBeginEnd_23922 : ByteArray := prog_26_method_158_code
def yJ0_checkBoundsBeginEnd_23922 : MethodName := ⟨RJ0, "checkBoundsBeginEnd", "(III)V"⟩
def RJ4 : String := "java/lang/StringBuilder"
def TJ4 : u_T := fun k => match k with
  | 0 => ("java/lang/AbstractStringBuilder", "value", "[B", false)
  | 1 => ("java/lang/AbstractStringBuilder", "coder", "B", false)
  | 2 => ("java/lang/AbstractStringBuilder", "maybeLatin1", "Z", false)
  | _ => ("java/lang/AbstractStringBuilder", "count", "I", false)
def tyJ4 : Nat → FieldType := fun k => match k with
  | 0 => .array .byte
  | 1 => .byte
  | 2 => .boolean
  | _ => .int
theorem nmJ4 : ∀ a, a < 4 → ∀ b, b < 4 → a ≠ b → (TJ4 a).2.1 ≠ (TJ4 b).2.1 := by decide +kernel
theorem tyJ4_ok : ∀ k, k < 4 → parseFieldDescriptor (TJ4 k).2.2.1 = some (tyJ4 k) := by decide +kernel
abbrev cJ4_init_da8c8 : ByteArray := prog_27_method_1_code
def yJ4_init_da8c8 : MethodName := ⟨RJ4, "<init>", "()V"⟩
abbrev cJ4_append_15ec4 : ByteArray := prog_27_method_7_code
def yJ4_append_15ec4 : MethodName := ⟨RJ4, "append", "(Ljava/lang/String;)Ljava/lang/StringBuilder;"⟩
abbrev cJ4_append_cf468 : ByteArray := prog_27_method_14_code
def yJ4_append_cf468 : MethodName := ⟨RJ4, "append", "(C)Ljava/lang/StringBuilder;"⟩
abbrev cJ4_append_bf812 : ByteArray := prog_27_method_15_code
def yJ4_append_bf812 : MethodName := ⟨RJ4, "append", "(I)Ljava/lang/StringBuilder;"⟩
abbrev cJ4_toString_0e30d : ByteArray := prog_27_method_42_code
def yJ4_toString_0e30d : MethodName := ⟨RJ4, "toString", "()Ljava/lang/String;"⟩
abbrev cJ4_charAt_5068e : ByteArray := prog_27_method_88_code
def yJ4_charAt_5068e : MethodName := ⟨RJ4, "charAt", "(I)C"⟩
abbrev cJ4_setLength_d00df : ByteArray := prog_27_method_89_code
def yJ4_setLength_d00df : MethodName := ⟨RJ4, "setLength", "(I)V"⟩
abbrev cJ4_length_8abf5 : ByteArray := prog_27_method_93_code
def yJ4_length_8abf5 : MethodName := ⟨RJ4, "length", "()I"⟩
def RJx7c733 : String := "java/lang/StringIndexOutOfBoundsException"
def TJx7c733 : u_T := fun k => match k with
  | 0 => ("java/lang/Throwable", "backtrace", "Ljava/lang/Object;", false)
  | 1 => ("java/lang/Throwable", "detailMessage", "Ljava/lang/String;", false)
  | 2 => ("java/lang/Throwable", "cause", "Ljava/lang/Throwable;", false)
  | 3 => ("java/lang/Throwable", "stackTrace", "[Ljava/lang/StackTraceElement;", false)
  | 4 => ("java/lang/Throwable", "depth", "I", false)
  | _ => ("java/lang/Throwable", "suppressedExceptions", "Ljava/util/List;", false)
def tyJx7c733 : Nat → FieldType := fun k => match k with
  | 0 => .object "java/lang/Object"
  | 1 => .object "java/lang/String"
  | 2 => .object "java/lang/Throwable"
  | 3 => .array (.object "java/lang/StackTraceElement")
  | 4 => .int
  | _ => .object "java/util/List"
theorem nmJx7c733 : ∀ a, a < 6 → ∀ b, b < 6 → a ≠ b → (TJx7c733 a).2.1 ≠ (TJx7c733 b).2.1 := by decide +kernel
theorem tyJx7c733_ok : ∀ k, k < 6 → parseFieldDescriptor (TJx7c733 k).2.2.1 = some (tyJx7c733 k) := by decide +kernel
abbrev cJx7c733_init_d00df : ByteArray := prog_28_method_3_code
def yJx7c733_init_d00df : MethodName := ⟨RJx7c733, "<init>", "(I)V"⟩
def RJ1 : String := "java/lang/StringLatin1"
def TJ1 : u_T := fun k => match k with
  | _ => ("", "", "", false)
def tyJ1 : Nat → FieldType := fun k => match k with
  | _ => .int
theorem nmJ1 : ∀ a, a < 0 → ∀ b, b < 0 → a ≠ b → (TJ1 a).2.1 ≠ (TJ1 b).2.1 := by decide +kernel
theorem tyJ1_ok : ∀ k, k < 0 → parseFieldDescriptor (TJ1 k).2.2.1 = some (tyJ1 k) := by decide +kernel
abbrev cJ1_charAt_3b067 : ByteArray := prog_29_method_2_code
def yJ1_charAt_3b067 : MethodName := ⟨RJ1, "charAt", "([BI)C"⟩
abbrev cJ1_canEncode_fc78d : ByteArray := prog_29_method_3_code
def yJ1_canEncode_fc78d : MethodName := ⟨RJ1, "canEncode", "(C)Z"⟩
abbrev cJ1_fillNull_b72d1 : ByteArray := prog_29_method_48_code
def yJ1_fillNull_b72d1 : MethodName := ⟨RJ1, "fillNull", "([BII)V"⟩
abbrev cJ1_inflate_0e8fd : ByteArray := prog_29_method_50_code
def yJ1_inflate_0e8fd : MethodName := ⟨RJ1, "inflate", "([BI[BII)V"⟩
def RJ2 : String := "java/lang/StringUTF16"
def TJ2 : u_T := fun k => match k with
  | _ => ("", "", "", false)
def tyJ2 : Nat → FieldType := fun k => match k with
  | _ => .int
theorem nmJ2 : ∀ a, a < 0 → ∀ b, b < 0 → a ≠ b → (TJ2 a).2.1 ≠ (TJ2 b).2.1 := by decide +kernel
theorem tyJ2_ok : ∀ k, k < 0 → parseFieldDescriptor (TJ2 k).2.2.1 = some (tyJ2 k) := by decide +kernel
abbrev cJ2_newBytesFor_77867 : ByteArray := prog_30_method_2_code
def yJ2_newBytesFor_77867 : MethodName := ⟨RJ2, "newBytesFor", "(I)[B"⟩
abbrev cJ2_newBytesLength_0f7a4 : ByteArray := prog_30_method_3_code
def yJ2_newBytesLength_0f7a4 : MethodName := ⟨RJ2, "newBytesLength", "(I)I"⟩
abbrev cJ2_putChar_b72d1 : ByteArray := prog_30_method_4_code
def yJ2_putChar_b72d1 : MethodName := ⟨RJ2, "putChar", "([BII)V"⟩
abbrev cJ2_getChar_3b067 : ByteArray := prog_30_method_5_code
def yJ2_getChar_3b067 : MethodName := ⟨RJ2, "getChar", "([BI)C"⟩
abbrev cJ2_length_9d52b : ByteArray := prog_30_method_6_code
def yJ2_length_9d52b : MethodName := ⟨RJ2, "length", "([B)I"⟩
abbrev cJ2_coderFromArrayLen_85cad : ByteArray := prog_30_method_15_code
def yJ2_coderFromArrayLen_85cad : MethodName := ⟨RJ2, "coderFromArrayLen", "([BI)B"⟩
abbrev cJ2_compress_39247 : ByteArray := prog_30_method_17_code
def yJ2_compress_39247 : MethodName := ⟨RJ2, "compress", "([BII)[B"⟩
abbrev cJ2_compress_5af95 : ByteArray := prog_30_method_22_code
def yJ2_compress_5af95 : MethodName := ⟨RJ2, "compress", "([BI[BII)I"⟩
abbrev cJ2_fillNull_b72d1 : ByteArray := prog_30_method_70_code
def yJ2_fillNull_b72d1 : MethodName := ⟨RJ2, "fillNull", "([BII)V"⟩
abbrev cJ2_putCharSB_b72d1 : ByteArray := prog_30_method_71_code
def yJ2_putCharSB_b72d1 : MethodName := ⟨RJ2, "putCharSB", "([BII)V"⟩
abbrev cJ2_getChars_46870 : ByteArray := prog_30_method_77_code
def yJ2_getChars_46870 : MethodName := ⟨RJ2, "getChars", "(III[B)I"⟩
abbrev cJ2_putCharsAt_cd4e5 : ByteArray := prog_30_method_81_code
def yJ2_putCharsAt_cd4e5 : MethodName := ⟨RJ2, "putCharsAt", "([BICCCC)I"⟩
abbrev cJ2_charAt_3b067 : ByteArray := prog_30_method_83_code
def yJ2_charAt_3b067 : MethodName := ⟨RJ2, "charAt", "([BI)C"⟩
abbrev cJ2_inflate_0e8fd : ByteArray := prog_30_method_86_code
def yJ2_inflate_0e8fd : MethodName := ⟨RJ2, "inflate", "([BI[BII)V"⟩
abbrev cJ2_getChars_ba4f3 : ByteArray := prog_30_method_89_code
def yJ2_getChars_ba4f3 : MethodName := ⟨RJ2, "getChars", "(II[B)I"⟩
abbrev cJ2_checkIndex_2214a : ByteArray := prog_30_method_91_code
def yJ2_checkIndex_2214a : MethodName := ⟨RJ2, "checkIndex", "(I[B)V"⟩
abbrev cJ2_checkBoundsBeginEnd_d044e : ByteArray := prog_30_method_93_code
def yJ2_checkBoundsBeginEnd_d044e : MethodName := ⟨RJ2, "checkBoundsBeginEnd", "(II[B)V"⟩
abbrev cJ2_checkBoundsOffCount_d044e : ByteArray := prog_30_method_94_code
def yJ2_checkBoundsOffCount_d044e : MethodName := ⟨RJ2, "checkBoundsOffCount", "(II[B)V"⟩
def RJ10 : String := "java/lang/System"
def TJ10 : u_T := fun k => match k with
  | _ => ("", "", "", false)
def tyJ10 : Nat → FieldType := fun k => match k with
  | _ => .int
theorem nmJ10 : ∀ a, a < 0 → ∀ b, b < 0 → a ≠ b → (TJ10 a).2.1 ≠ (TJ10 b).2.1 := by decide +kernel
theorem tyJ10_ok : ∀ k, k < 0 → parseFieldDescriptor (TJ10 k).2.2.1 = some (tyJ10 k) := by decide +kernel
def RJxfd54e : String := "java/lang/constant/Constable"
def TJxfd54e : u_T := fun k => match k with
  | _ => ("", "", "", false)
def tyJxfd54e : Nat → FieldType := fun k => match k with
  | _ => .int
theorem nmJxfd54e : ∀ a, a < 0 → ∀ b, b < 0 → a ≠ b → (TJxfd54e a).2.1 ≠ (TJxfd54e b).2.1 := by decide +kernel
theorem tyJxfd54e_ok : ∀ k, k < 0 → parseFieldDescriptor (TJxfd54e k).2.2.1 = some (tyJxfd54e k) := by decide +kernel
def RJx3cf43 : String := "java/lang/constant/ConstantDesc"
def TJx3cf43 : u_T := fun k => match k with
  | _ => ("", "", "", false)
def tyJx3cf43 : Nat → FieldType := fun k => match k with
  | _ => .int
theorem nmJx3cf43 : ∀ a, a < 0 → ∀ b, b < 0 → a ≠ b → (TJx3cf43 a).2.1 ≠ (TJx3cf43 b).2.1 := by decide +kernel
theorem tyJx3cf43_ok : ∀ k, k < 0 → parseFieldDescriptor (TJx3cf43 k).2.2.1 = some (tyJx3cf43 k) := by decide +kernel
def RJ7 : String := "java/util/Arrays"
def TJ7 : u_T := fun k => match k with
  | _ => ("", "", "", false)
def tyJ7 : Nat → FieldType := fun k => match k with
  | _ => .int
theorem nmJ7 : ∀ a, a < 0 → ∀ b, b < 0 → a ≠ b → (TJ7 a).2.1 ≠ (TJ7 b).2.1 := by decide +kernel
theorem tyJ7_ok : ∀ k, k < 0 → parseFieldDescriptor (TJ7 k).2.2.1 = some (tyJ7 k) := by decide +kernel
abbrev cJ7_rangeCheck_23922 : ByteArray := prog_36_method_30_code
def yJ7_rangeCheck_23922 : MethodName := ⟨RJ7, "rangeCheck", "(III)V"⟩
abbrev cJ7_fill_eb02e : ByteArray := prog_36_method_110_code
def yJ7_fill_eb02e : MethodName := ⟨RJ7, "fill", "([BIIB)V"⟩
abbrev cJ7_copyOf_9075b : ByteArray := prog_36_method_121_code
def yJ7_copyOf_9075b : MethodName := ⟨RJ7, "copyOf", "([BI)[B"⟩
abbrev cJ7_checkLength_df160 : ByteArray := prog_36_method_131_code
def yJ7_checkLength_df160 : MethodName := ⟨RJ7, "checkLength", "(II)V"⟩
abbrev cJ7_copyOfRange_39247 : ByteArray := prog_36_method_132_code
def yJ7_copyOfRange_39247 : MethodName := ⟨RJ7, "copyOfRange", "([BII)[B"⟩
abbrev cJ7_copyOfRangeByte_39247 : ByteArray := prog_36_method_133_code
def yJ7_copyOfRangeByte_39247 : MethodName := ⟨RJ7, "copyOfRangeByte", "([BII)[B"⟩
def RJ8 : String := "jdk/internal/util/ArraysSupport"
def TJ8 : u_T := fun k => match k with
  | _ => ("", "", "", false)
def tyJ8 : Nat → FieldType := fun k => match k with
  | _ => .int
theorem nmJ8 : ∀ a, a < 0 → ∀ b, b < 0 → a ≠ b → (TJ8 a).2.1 ≠ (TJ8 b).2.1 := by decide +kernel
theorem tyJ8_ok : ∀ k, k < 0 → parseFieldDescriptor (TJ8 k).2.2.1 = some (tyJ8 k) := by decide +kernel
abbrev cJ8_newLength_cabcc : ByteArray := prog_38_method_27_code
def yJ8_newLength_cabcc : MethodName := ⟨RJ8, "newLength", "(III)I"⟩
abbrev cJ8_hugeLength_7cf53 : ByteArray := prog_38_method_28_code
def yJ8_hugeLength_7cf53 : MethodName := ⟨RJ8, "hugeLength", "(II)I"⟩
def RJ3 : String := "jdk/internal/util/Preconditions"
def TJ3 : u_T := fun k => match k with
  | _ => ("", "", "", false)
def tyJ3 : Nat → FieldType := fun k => match k with
  | _ => .int
theorem nmJ3 : ∀ a, a < 0 → ∀ b, b < 0 → a ≠ b → (TJ3 a).2.1 ≠ (TJ3 b).2.1 := by decide +kernel
theorem tyJ3_ok : ∀ k, k < 0 → parseFieldDescriptor (TJ3 k).2.2.1 = some (tyJ3 k) := by decide +kernel
abbrev cJ3_checkIndex_8e157 : ByteArray := prog_39_method_11_code
def yJ3_checkIndex_8e157 : MethodName := ⟨RJ3, "checkIndex", "(IILjava/util/function/BiFunction;)I"⟩
abbrev cJ3_checkFromToIndex_8c36e : ByteArray := prog_39_method_12_code
def yJ3_checkFromToIndex_8c36e : MethodName := ⟨RJ3, "checkFromToIndex", "(IIILjava/util/function/BiFunction;)I"⟩
abbrev cJ3_checkFromIndexSize_8c36e : ByteArray := prog_39_method_13_code
def yJ3_checkFromIndexSize_8c36e : MethodName := ⟨RJ3, "checkFromIndexSize", "(IIILjava/util/function/BiFunction;)I"⟩
def RL : String := "ClassificationYardLaw"
abbrev cL_at : ByteArray := method_2_code
def yL_at : MethodName := ⟨RL, "at", "([II)I"⟩
abbrev cL_put : ByteArray := method_3_code
def yL_put : MethodName := ⟨RL, "put", "(LClassificationYard;Ljava/lang/String;)V"⟩
abbrev cL_build : ByteArray := method_4_code
def yL_build : MethodName := ⟨RL, "build", "([I)LClassificationYard;"⟩
abbrev cL_act : ByteArray := method_5_code
def yL_act : MethodName := ⟨RL, "act", "(LClassificationYard;IIII)I"⟩
abbrev cL_car : ByteArray := method_6_code
def yL_car : MethodName := ⟨RL, "car", "(LClassificationYard;IIIIZ)I"⟩
abbrev cL_cars : ByteArray := method_7_code
def yL_cars : MethodName := ⟨RL, "cars", "(LClassificationYard;I)[I"⟩
abbrev cL_state : ByteArray := method_8_code
def yL_state : MethodName := ⟨RL, "state", "(LClassificationYard;)I"⟩
abbrev cL_law : ByteArray := code
def yL_law : MethodName := ⟨RL, "law", "([I)Z"⟩
abbrev cL_isLine : ByteArray := method_13_code
def yL_isLine : MethodName := ⟨RL, "isLine", "(LClassificationYard;ILjava/lang/String;)Z"⟩
abbrev cL_runs : ByteArray := method_14_code
def yL_runs : MethodName := ⟨RL, "runs", "(LClassificationYard;)I"⟩
abbrev cL_fails : ByteArray := method_15_code
def yL_fails : MethodName := ⟨RL, "fails", "(LClassificationYard;Ljava/lang/String;I)Z"⟩
