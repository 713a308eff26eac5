section
-- ===== PART A: goes FIRST, ahead of the names: the tables' words, and 'selects' of the private methods out of them =====
/-- a private method of a class that the tables say can be made, by its rows of tables_1 -/
def lw_okq (q : MethodName × Nat) : Prop := (q.1.cls ≠ "java/lang/invoke/MethodHandle" ∧ q.1.cls ≠ "java/lang/invoke/VarHandle") ∧ Cond.instantiable q.1.cls q.2 ∈ tables_1 ∧ Cond.privateMethod q.1 ∈ tables_1 ∧ Cond.instanceMethod q.1 ∈ tables_1
theorem lw_p0 : lw_okq (⟨"BrideShoes", "isBride", "(I)Z"⟩, 9) := ⟨⟨by decide +kernel, by decide +kernel⟩, List.mem_of_getElem? (i := 15) (by decide +kernel), List.mem_of_getElem? (i := 233) (by decide +kernel), List.mem_of_getElem? (i := 234) (by decide +kernel)⟩
theorem lw_p1 : lw_okq (⟨"BrideShoes", "isShoe", "(I)Z"⟩, 9) := ⟨⟨by decide +kernel, by decide +kernel⟩, List.mem_of_getElem? (i := 15) (by decide +kernel), List.mem_of_getElem? (i := 252) (by decide +kernel), List.mem_of_getElem? (i := 253) (by decide +kernel)⟩
theorem lw_p2 : lw_okq (⟨"BrideShoesModel", "isBride", "(I)Z"⟩, 32) := ⟨⟨by decide +kernel, by decide +kernel⟩, List.mem_of_getElem? (i := 604) (by decide +kernel), List.mem_of_getElem? (i := 727) (by decide +kernel), List.mem_of_getElem? (i := 728) (by decide +kernel)⟩
theorem lw_p3 : lw_okq (⟨"BrideShoesModel", "addShoe", "(III)V"⟩, 32) := ⟨⟨by decide +kernel, by decide +kernel⟩, List.mem_of_getElem? (i := 604) (by decide +kernel), List.mem_of_getElem? (i := 737) (by decide +kernel), List.mem_of_getElem? (i := 738) (by decide +kernel)⟩
theorem lw_p4 : lw_okq (⟨"BrideShoesModel", "isShoe", "(I)Z"⟩, 32) := ⟨⟨by decide +kernel, by decide +kernel⟩, List.mem_of_getElem? (i := 604) (by decide +kernel), List.mem_of_getElem? (i := 745) (by decide +kernel), List.mem_of_getElem? (i := 746) (by decide +kernel)⟩
theorem lw_p5 : lw_okq (⟨"BrideShoesModel", "footOf", "(III)I"⟩, 32) := ⟨⟨by decide +kernel, by decide +kernel⟩, List.mem_of_getElem? (i := 604) (by decide +kernel), List.mem_of_getElem? (i := 765) (by decide +kernel), List.mem_of_getElem? (i := 766) (by decide +kernel)⟩
theorem lw_p6 : lw_okq (⟨"BrideShoesModel", "askedOf", "(III)I"⟩, 32) := ⟨⟨by decide +kernel, by decide +kernel⟩, List.mem_of_getElem? (i := 604) (by decide +kernel), List.mem_of_getElem? (i := 773) (by decide +kernel), List.mem_of_getElem? (i := 774) (by decide +kernel)⟩
theorem lw_p7 : lw_okq (⟨"BrideShoesModel", "outOf", "(I)I"⟩, 32) := ⟨⟨by decide +kernel, by decide +kernel⟩, List.mem_of_getElem? (i := 604) (by decide +kernel), List.mem_of_getElem? (i := 777) (by decide +kernel), List.mem_of_getElem? (i := 778) (by decide +kernel)⟩
theorem lw_p8 : lw_okq (⟨"BrideShoesModel", "givesOf", "(I)I"⟩, 32) := ⟨⟨by decide +kernel, by decide +kernel⟩, List.mem_of_getElem? (i := 604) (by decide +kernel), List.mem_of_getElem? (i := 781) (by decide +kernel), List.mem_of_getElem? (i := 782) (by decide +kernel)⟩
theorem lw_p9 : lw_okq (⟨"BrideShoesModel", "looseOf", "(I)I"⟩, 32) := ⟨⟨by decide +kernel, by decide +kernel⟩, List.mem_of_getElem? (i := 604) (by decide +kernel), List.mem_of_getElem? (i := 785) (by decide +kernel), List.mem_of_getElem? (i := 786) (by decide +kernel)⟩
theorem lw_p10 : lw_okq (⟨"BrideShoesModel", "readAll", "(Z)Z"⟩, 32) := ⟨⟨by decide +kernel, by decide +kernel⟩, List.mem_of_getElem? (i := 604) (by decide +kernel), List.mem_of_getElem? (i := 809) (by decide +kernel), List.mem_of_getElem? (i := 810) (by decide +kernel)⟩
theorem lw_p11 : lw_okq (⟨"BrideShoesModel", "readBride", "(I)Z"⟩, 32) := ⟨⟨by decide +kernel, by decide +kernel⟩, List.mem_of_getElem? (i := 604) (by decide +kernel), List.mem_of_getElem? (i := 813) (by decide +kernel), List.mem_of_getElem? (i := 814) (by decide +kernel)⟩
theorem lw_p12 : lw_okq (⟨"BrideShoesModel", "readNumber", "(II)I"⟩, 32) := ⟨⟨by decide +kernel, by decide +kernel⟩, List.mem_of_getElem? (i := 604) (by decide +kernel), List.mem_of_getElem? (i := 817) (by decide +kernel), List.mem_of_getElem? (i := 818) (by decide +kernel)⟩
theorem lw_p13 : lw_okq (⟨"BrideShoesModel", "nextByte", "()I"⟩, 32) := ⟨⟨by decide +kernel, by decide +kernel⟩, List.mem_of_getElem? (i := 604) (by decide +kernel), List.mem_of_getElem? (i := 821) (by decide +kernel), List.mem_of_getElem? (i := 822) (by decide +kernel)⟩
theorem lw_p14 : lw_okq (⟨"BrideShoesModel", "takes", "(I)Z"⟩, 32) := ⟨⟨by decide +kernel, by decide +kernel⟩, List.mem_of_getElem? (i := 604) (by decide +kernel), List.mem_of_getElem? (i := 827) (by decide +kernel), List.mem_of_getElem? (i := 828) (by decide +kernel)⟩
theorem lw_p15 : lw_okq (⟨"BrideShoesModel", "readDigit", "(I)I"⟩, 32) := ⟨⟨by decide +kernel, by decide +kernel⟩, List.mem_of_getElem? (i := 604) (by decide +kernel), List.mem_of_getElem? (i := 831) (by decide +kernel), List.mem_of_getElem? (i := 832) (by decide +kernel)⟩
def lw_privs_1 : List (MethodName × Nat) := [(⟨"BrideShoes", "isBride", "(I)Z"⟩, 9), (⟨"BrideShoes", "isShoe", "(I)Z"⟩, 9), (⟨"BrideShoesModel", "isBride", "(I)Z"⟩, 32), (⟨"BrideShoesModel", "addShoe", "(III)V"⟩, 32), (⟨"BrideShoesModel", "isShoe", "(I)Z"⟩, 32), (⟨"BrideShoesModel", "footOf", "(III)I"⟩, 32), (⟨"BrideShoesModel", "askedOf", "(III)I"⟩, 32), (⟨"BrideShoesModel", "outOf", "(I)I"⟩, 32), (⟨"BrideShoesModel", "givesOf", "(I)I"⟩, 32), (⟨"BrideShoesModel", "looseOf", "(I)I"⟩, 32), (⟨"BrideShoesModel", "readAll", "(Z)Z"⟩, 32), (⟨"BrideShoesModel", "readBride", "(I)Z"⟩, 32), (⟨"BrideShoesModel", "readNumber", "(II)I"⟩, 32), (⟨"BrideShoesModel", "nextByte", "()I"⟩, 32), (⟨"BrideShoesModel", "takes", "(I)Z"⟩, 32), (⟨"BrideShoesModel", "readDigit", "(I)I"⟩, 32)]
theorem lw_r1 : ∀ q ∈ lw_privs_1, lw_okq q := List.forall_mem_cons.mpr ⟨lw_p0, List.forall_mem_cons.mpr ⟨lw_p1, List.forall_mem_cons.mpr ⟨lw_p2, List.forall_mem_cons.mpr ⟨lw_p3, List.forall_mem_cons.mpr ⟨lw_p4, List.forall_mem_cons.mpr ⟨lw_p5, List.forall_mem_cons.mpr ⟨lw_p6, List.forall_mem_cons.mpr ⟨lw_p7, List.forall_mem_cons.mpr ⟨lw_p8, List.forall_mem_cons.mpr ⟨lw_p9, List.forall_mem_cons.mpr ⟨lw_p10, List.forall_mem_cons.mpr ⟨lw_p11, List.forall_mem_cons.mpr ⟨lw_p12, List.forall_mem_cons.mpr ⟨lw_p13, List.forall_mem_cons.mpr ⟨lw_p14, List.forall_mem_cons.mpr ⟨lw_p15, fun _ h => absurd h List.not_mem_nil⟩⟩⟩⟩⟩⟩⟩⟩⟩⟩⟩⟩⟩⟩⟩⟩
theorem lw_p16 : lw_okq (⟨"BrideShoesModel", "readShoe", "(I)Z"⟩, 32) := ⟨⟨by decide +kernel, by decide +kernel⟩, List.mem_of_getElem? (i := 604) (by decide +kernel), List.mem_of_getElem? (i := 835) (by decide +kernel), List.mem_of_getElem? (i := 836) (by decide +kernel)⟩
theorem lw_p17 : lw_okq (⟨"BrideShoesModel", "findWay", "(I)I"⟩, 32) := ⟨⟨by decide +kernel, by decide +kernel⟩, List.mem_of_getElem? (i := 604) (by decide +kernel), List.mem_of_getElem? (i := 848) (by decide +kernel), List.mem_of_getElem? (i := 849) (by decide +kernel)⟩
theorem lw_p18 : lw_okq (⟨"BrideShoesModel", "findSide", "(I)V"⟩, 32) := ⟨⟨by decide +kernel, by decide +kernel⟩, List.mem_of_getElem? (i := 604) (by decide +kernel), List.mem_of_getElem? (i := 852) (by decide +kernel), List.mem_of_getElem? (i := 853) (by decide +kernel)⟩
theorem lw_p19 : lw_okq (⟨"BrideShoesModel", "findLeast", "()I"⟩, 32) := ⟨⟨by decide +kernel, by decide +kernel⟩, List.mem_of_getElem? (i := 604) (by decide +kernel), List.mem_of_getElem? (i := 856) (by decide +kernel), List.mem_of_getElem? (i := 857) (by decide +kernel)⟩
theorem lw_p20 : lw_okq (⟨"BrideShoesModel", "limpsOf", "(III)I"⟩, 32) := ⟨⟨by decide +kernel, by decide +kernel⟩, List.mem_of_getElem? (i := 604) (by decide +kernel), List.mem_of_getElem? (i := 876) (by decide +kernel), List.mem_of_getElem? (i := 877) (by decide +kernel)⟩
theorem lw_p21 : lw_okq (⟨"BrideShoesModel", "findTries", "(I)V"⟩, 32) := ⟨⟨by decide +kernel, by decide +kernel⟩, List.mem_of_getElem? (i := 604) (by decide +kernel), List.mem_of_getElem? (i := 885) (by decide +kernel), List.mem_of_getElem? (i := 886) (by decide +kernel)⟩
theorem lw_p22 : lw_okq (⟨"BrideShoesModel", "triesBy", "(III)I"⟩, 32) := ⟨⟨by decide +kernel, by decide +kernel⟩, List.mem_of_getElem? (i := 604) (by decide +kernel), List.mem_of_getElem? (i := 889) (by decide +kernel), List.mem_of_getElem? (i := 890) (by decide +kernel)⟩
theorem lw_p23 : lw_okq (⟨"BrideShoesModel", "triesOf", "(II)I"⟩, 32) := ⟨⟨by decide +kernel, by decide +kernel⟩, List.mem_of_getElem? (i := 604) (by decide +kernel), List.mem_of_getElem? (i := 893) (by decide +kernel), List.mem_of_getElem? (i := 894) (by decide +kernel)⟩
theorem lw_p24 : lw_okq (⟨"BrideShoesModel", "lacksRow", "(IIII)I"⟩, 32) := ⟨⟨by decide +kernel, by decide +kernel⟩, List.mem_of_getElem? (i := 604) (by decide +kernel), List.mem_of_getElem? (i := 921) (by decide +kernel), List.mem_of_getElem? (i := 922) (by decide +kernel)⟩
theorem lw_p25 : lw_okq (⟨"BrideShoesModel", "limpSo", "(II)Z"⟩, 32) := ⟨⟨by decide +kernel, by decide +kernel⟩, List.mem_of_getElem? (i := 604) (by decide +kernel), List.mem_of_getElem? (i := 933) (by decide +kernel), List.mem_of_getElem? (i := 934) (by decide +kernel)⟩
theorem lw_p26 : lw_okq (⟨"BrideShoesModel", "nextRow", "(I)Z"⟩, 32) := ⟨⟨by decide +kernel, by decide +kernel⟩, List.mem_of_getElem? (i := 604) (by decide +kernel), List.mem_of_getElem? (i := 937) (by decide +kernel), List.mem_of_getElem? (i := 938) (by decide +kernel)⟩
theorem lw_p27 : lw_okq (⟨"BrideShoesModel", "findRanks", "(II)Z"⟩, 32) := ⟨⟨by decide +kernel, by decide +kernel⟩, List.mem_of_getElem? (i := 604) (by decide +kernel), List.mem_of_getElem? (i := 946) (by decide +kernel), List.mem_of_getElem? (i := 947) (by decide +kernel)⟩
theorem lw_p28 : lw_okq (⟨"BrideShoesModel", "isRow", "(II)Z"⟩, 32) := ⟨⟨by decide +kernel, by decide +kernel⟩, List.mem_of_getElem? (i := 604) (by decide +kernel), List.mem_of_getElem? (i := 950) (by decide +kernel), List.mem_of_getElem? (i := 951) (by decide +kernel)⟩
def lw_privs_2 : List (MethodName × Nat) := [(⟨"BrideShoesModel", "readShoe", "(I)Z"⟩, 32), (⟨"BrideShoesModel", "findWay", "(I)I"⟩, 32), (⟨"BrideShoesModel", "findSide", "(I)V"⟩, 32), (⟨"BrideShoesModel", "findLeast", "()I"⟩, 32), (⟨"BrideShoesModel", "limpsOf", "(III)I"⟩, 32), (⟨"BrideShoesModel", "findTries", "(I)V"⟩, 32), (⟨"BrideShoesModel", "triesBy", "(III)I"⟩, 32), (⟨"BrideShoesModel", "triesOf", "(II)I"⟩, 32), (⟨"BrideShoesModel", "lacksRow", "(IIII)I"⟩, 32), (⟨"BrideShoesModel", "limpSo", "(II)Z"⟩, 32), (⟨"BrideShoesModel", "nextRow", "(I)Z"⟩, 32), (⟨"BrideShoesModel", "findRanks", "(II)Z"⟩, 32), (⟨"BrideShoesModel", "isRow", "(II)Z"⟩, 32)]
theorem lw_r2 : ∀ q ∈ lw_privs_2, lw_okq q := List.forall_mem_cons.mpr ⟨lw_p16, List.forall_mem_cons.mpr ⟨lw_p17, List.forall_mem_cons.mpr ⟨lw_p18, List.forall_mem_cons.mpr ⟨lw_p19, List.forall_mem_cons.mpr ⟨lw_p20, List.forall_mem_cons.mpr ⟨lw_p21, List.forall_mem_cons.mpr ⟨lw_p22, List.forall_mem_cons.mpr ⟨lw_p23, List.forall_mem_cons.mpr ⟨lw_p24, List.forall_mem_cons.mpr ⟨lw_p25, List.forall_mem_cons.mpr ⟨lw_p26, List.forall_mem_cons.mpr ⟨lw_p27, List.forall_mem_cons.mpr ⟨lw_p28, fun _ h => absurd h List.not_mem_nil⟩⟩⟩⟩⟩⟩⟩⟩⟩⟩⟩⟩⟩
def lw_privs : List (MethodName × Nat) := lw_privs_1 ++ (lw_privs_2)
def lw_tbl : List Cond := k2_sels lw_privs ++ tables_1
theorem lw_privs_ok : ∀ q ∈ lw_privs, lw_okq q := by
  show ∀ q ∈ lw_privs_1 ++ (lw_privs_2), lw_okq q
  exact List.forall_mem_append.mpr ⟨lw_r1, lw_r2⟩
def RX0 : String := "BrideShoes$Mixes"
def TX0 : u_T := fun k => match k with
  | 0 => ("BrideShoes$Mixes", "mayHave", "[I", true)
  | 1 => ("BrideShoes$Mixes", "rowsFrom", "[I", true)
  | _ => ("BrideShoes$Mixes", "first", "[I", true)
def tyX0 : Nat → FieldType := fun k => match k with
  | 0 => .array .int
  | 1 => .array .int
  | _ => .array .int
abbrev wsX00 : List Cond := u_ws RX0 TX0 3
theorem nmX0 : ∀ a, a < 3 → ∀ b, b < 3 → a ≠ b → (TX0 a).2.1 ≠ (TX0 b).2.1 := by decide +kernel
theorem tyX0_ok : ∀ k, k < 3 → parseFieldDescriptor (TX0 k).2.2.1 = some (tyX0 k) := by decide +kernel
abbrev cX0_init : ByteArray := prog_2_method_1_code
def yX0_init : MethodName := ⟨RX0, "<init>", "()V"⟩
abbrev cX0_find : ByteArray := prog_2_method_2_code
def yX0_find : MethodName := ⟨RX0, "find", "(LBrideShoes$Party;[I[III)V"⟩
abbrev cX0_howMany : ByteArray := prog_2_method_3_code
def yX0_howMany : MethodName := ⟨RX0, "howMany", "()I"⟩
abbrev cX0_countRows : ByteArray := prog_2_method_4_code
def yX0_countRows : MethodName := ⟨RX0, "countRows", "(I)V"⟩
abbrev cX0_takeFirst : ByteArray := prog_2_method_5_code
def yX0_takeFirst : MethodName := ⟨RX0, "takeFirst", "(I)V"⟩
abbrev cX0_firstFor : ByteArray := prog_2_method_6_code
def yX0_firstFor : MethodName := ⟨RX0, "firstFor", "(III)I"⟩
def RX1 : String := "BrideShoes$Party"
def TX1 : u_T := fun k => match k with
  | 0 => ("BrideShoes$Party", "brideRows", "[[I", true)
  | 1 => ("BrideShoes$Party", "shoeRows", "[[I", true)
  | 2 => ("BrideShoes$Party", "settings", "[I", true)
  | 3 => ("BrideShoes$Party", "brideCount", "I", false)
  | _ => ("BrideShoes$Party", "shoeCount", "I", false)
def tyX1 : Nat → FieldType := fun k => match k with
  | 0 => .array (.array .int)
  | 1 => .array (.array .int)
  | 2 => .array .int
  | 3 => .int
  | _ => .int
abbrev wsX10 : List Cond := u_ws RX1 TX1 5
theorem nmX1 : ∀ a, a < 5 → ∀ b, b < 5 → a ≠ b → (TX1 a).2.1 ≠ (TX1 b).2.1 := by decide +kernel
theorem tyX1_ok : ∀ k, k < 5 → parseFieldDescriptor (TX1 k).2.2.1 = some (tyX1 k) := by decide +kernel
abbrev cX1_init : ByteArray := prog_3_method_1_code
def yX1_init : MethodName := ⟨RX1, "<init>", "()V"⟩
abbrev cX1_takeBrides : ByteArray := prog_3_method_2_code
def yX1_takeBrides : MethodName := ⟨RX1, "takeBrides", "([[II)V"⟩
abbrev cX1_takeShoes : ByteArray := prog_3_method_3_code
def yX1_takeShoes : MethodName := ⟨RX1, "takeShoes", "([[II)V"⟩
abbrev cX1_takeAll : ByteArray := prog_3_method_4_code
def yX1_takeAll : MethodName := ⟨RX1, "takeAll", "(LBrideShoes$Party;)V"⟩
abbrev cX1_footAt : ByteArray := prog_3_method_5_code
def yX1_footAt : MethodName := ⟨RX1, "footAt", "(III)I"⟩
abbrev cX1_looseFor : ByteArray := prog_3_method_6_code
def yX1_looseFor : MethodName := ⟨RX1, "looseFor", "(I)I"⟩
abbrev cX1_leastOut : ByteArray := prog_3_method_7_code
def yX1_leastOut : MethodName := ⟨RX1, "leastOut", "(III)I"⟩
abbrev cX1_limpOf : ByteArray := prog_3_method_8_code
def yX1_limpOf : MethodName := ⟨RX1, "limpOf", "(III)I"⟩
abbrev cX1_isThere : ByteArray := prog_3_method_9_code
def yX1_isThere : MethodName := ⟨RX1, "isThere", "(II)Z"⟩
abbrev cX1_shoesThere : ByteArray := prog_3_method_10_code
def yX1_shoesThere : MethodName := ⟨RX1, "shoesThere", "(I)I"⟩
def RX2 : String := "BrideShoes$Ranks"
def TX2 : u_T := fun k => match k with
  | 0 => ("BrideShoes$Ranks", "n", "I", false)
  | 1 => ("BrideShoes$Ranks", "liked", "[[I", true)
  | 2 => ("BrideShoes$Ranks", "placeOf", "[[I", true)
  | 3 => ("BrideShoes$Ranks", "groomOf", "[I", true)
  | 4 => ("BrideShoes$Ranks", "brideOf", "[I", true)
  | _ => ("BrideShoes$Ranks", "asks", "[I", true)
def tyX2 : Nat → FieldType := fun k => match k with
  | 0 => .int
  | 1 => .array (.array .int)
  | 2 => .array (.array .int)
  | 3 => .array .int
  | 4 => .array .int
  | _ => .array .int
abbrev wsX20 : List Cond := u_ws RX2 TX2 6
theorem nmX2 : ∀ a, a < 6 → ∀ b, b < 6 → a ≠ b → (TX2 a).2.1 ≠ (TX2 b).2.1 := by decide +kernel
theorem tyX2_ok : ∀ k, k < 6 → parseFieldDescriptor (TX2 k).2.2.1 = some (tyX2 k) := by decide +kernel
abbrev cX2_init : ByteArray := prog_4_method_1_code
def yX2_init : MethodName := ⟨RX2, "<init>", "()V"⟩
abbrev cX2_read : ByteArray := prog_4_method_2_code
def yX2_read : MethodName := ⟨RX2, "read", "([III)Z"⟩
abbrev cX2_readPairs : ByteArray := prog_4_method_3_code
def yX2_readPairs : MethodName := ⟨RX2, "readPairs", "([I)Z"⟩
abbrev cX2_readRow : ByteArray := prog_4_method_4_code
def yX2_readRow : MethodName := ⟨RX2, "readRow", "([II[I[I)Z"⟩
abbrev cX2_pairByBrides : ByteArray := prog_4_method_5_code
def yX2_pairByBrides : MethodName := ⟨RX2, "pairByBrides", "()V"⟩
abbrev cX2_firstAlone : ByteArray := prog_4_method_6_code
def yX2_firstAlone : MethodName := ⟨RX2, "firstAlone", "()I"⟩
abbrev cX2_askNext : ByteArray := prog_4_method_7_code
def yX2_askNext : MethodName := ⟨RX2, "askNext", "(I)V"⟩
abbrev cX2_groomLikesMore : ByteArray := prog_4_method_8_code
def yX2_groomLikesMore : MethodName := ⟨RX2, "groomLikesMore", "(III)Z"⟩
abbrev cX2_wouldLeave : ByteArray := prog_4_method_9_code
def yX2_wouldLeave : MethodName := ⟨RX2, "wouldLeave", "(II)Z"⟩
abbrev cX2_firstToLeave : ByteArray := prog_4_method_10_code
def yX2_firstToLeave : MethodName := ⟨RX2, "firstToLeave", "()I"⟩
def RX3 : String := "BrideShoes$Sheet"
def TX3 : u_T := fun k => match k with
  | 0 => ("BrideShoes$Sheet", "items", "[I", true)
  | 1 => ("BrideShoes$Sheet", "isThere", "Z", false)
  | 2 => ("BrideShoes$Sheet", "lane", "I", false)
  | _ => ("BrideShoes$Sheet", "length", "I", false)
def tyX3 : Nat → FieldType := fun k => match k with
  | 0 => .array .int
  | 1 => .boolean
  | 2 => .int
  | _ => .int
abbrev wsX30 : List Cond := u_ws RX3 TX3 4
theorem nmX3 : ∀ a, a < 4 → ∀ b, b < 4 → a ≠ b → (TX3 a).2.1 ≠ (TX3 b).2.1 := by decide +kernel
theorem tyX3_ok : ∀ k, k < 4 → parseFieldDescriptor (TX3 k).2.2.1 = some (tyX3 k) := by decide +kernel
abbrev cX3_init : ByteArray := prog_5_method_1_code
def yX3_init : MethodName := ⟨RX3, "<init>", "()V"⟩
abbrev cX3_renew : ByteArray := prog_5_method_2_code
def yX3_renew : MethodName := ⟨RX3, "renew", "(II)V"⟩
abbrev cX3_refusal : ByteArray := prog_5_method_3_code
def yX3_refusal : MethodName := ⟨RX3, "refusal", "(III)I"⟩
abbrev cX3_cut : ByteArray := prog_5_method_4_code
def yX3_cut : MethodName := ⟨RX3, "cut", "(II)I"⟩
def RX4 : String := "BrideShoes$Tape"
def TX4 : u_T := fun k => match k with
  | 0 => ("BrideShoes$Tape", "bytes", "[I", true)
  | 1 => ("BrideShoes$Tape", "rows", "[[I", true)
  | 2 => ("BrideShoes$Tape", "length", "I", false)
  | _ => ("BrideShoes$Tape", "place", "I", false)
def tyX4 : Nat → FieldType := fun k => match k with
  | 0 => .array .int
  | 1 => .array (.array .int)
  | 2 => .int
  | _ => .int
abbrev wsX40 : List Cond := u_ws RX4 TX4 4
theorem nmX4 : ∀ a, a < 4 → ∀ b, b < 4 → a ≠ b → (TX4 a).2.1 ≠ (TX4 b).2.1 := by decide +kernel
theorem tyX4_ok : ∀ k, k < 4 → parseFieldDescriptor (TX4 k).2.2.1 = some (tyX4 k) := by decide +kernel
abbrev cX4_init : ByteArray := prog_6_method_1_code
def yX4_init : MethodName := ⟨RX4, "<init>", "()V"⟩
abbrev cX4_isTypable : ByteArray := prog_6_method_2_code
def yX4_isTypable : MethodName := ⟨RX4, "isTypable", "(JI)Z"⟩
abbrev cX4_append : ByteArray := prog_6_method_3_code
def yX4_append : MethodName := ⟨RX4, "append", "(JI)V"⟩
abbrev cX4_readBrides : ByteArray := prog_6_method_4_code
def yX4_readBrides : MethodName := ⟨RX4, "readBrides", "()I"⟩
abbrev cX4_readHeap : ByteArray := prog_6_method_5_code
def yX4_readHeap : MethodName := ⟨RX4, "readHeap", "()I"⟩
abbrev cX4_readBride : ByteArray := prog_6_method_6_code
def yX4_readBride : MethodName := ⟨RX4, "readBride", "([I)Z"⟩
abbrev cX4_readSwell : ByteArray := prog_6_method_7_code
def yX4_readSwell : MethodName := ⟨RX4, "readSwell", "([I)Z"⟩
abbrev cX4_readShoe : ByteArray := prog_6_method_8_code
def yX4_readShoe : MethodName := ⟨RX4, "readShoe", "([I)Z"⟩
abbrev cX4_next : ByteArray := prog_6_method_9_code
def yX4_next : MethodName := ⟨RX4, "next", "()I"⟩
abbrev cX4_isPassed : ByteArray := prog_6_method_10_code
def yX4_isPassed : MethodName := ⟨RX4, "isPassed", "(C)Z"⟩
abbrev cX4_readNumber : ByteArray := prog_6_method_11_code
def yX4_readNumber : MethodName := ⟨RX4, "readNumber", "([IIII)Z"⟩
def RX5 : String := "BrideShoes$Trials"
def TX5 : u_T := fun k => match k with
  | 0 => ("BrideShoes$Trials", "fewest", "[[I", true)
  | _ => ("BrideShoes$Trials", "canTry", "J", false)
def tyX5 : Nat → FieldType := fun k => match k with
  | 0 => .array (.array .int)
  | _ => .long
abbrev wsX50 : List Cond := u_ws RX5 TX5 2
theorem nmX5 : ∀ a, a < 2 → ∀ b, b < 2 → a ≠ b → (TX5 a).2.1 ≠ (TX5 b).2.1 := by decide +kernel
theorem tyX5_ok : ∀ k, k < 2 → parseFieldDescriptor (TX5 k).2.2.1 = some (tyX5 k) := by decide +kernel
abbrev cX5_init : ByteArray := prog_7_method_1_code
def yX5_init : MethodName := ⟨RX5, "<init>", "()V"⟩
abbrev cX5_findFewest : ByteArray := prog_7_method_2_code
def yX5_findFewest : MethodName := ⟨RX5, "findFewest", "(LBrideShoes$Party;III)V"⟩
abbrev cX5_fewestOf : ByteArray := prog_7_method_3_code
def yX5_fewestOf : MethodName := ⟨RX5, "fewestOf", "(II)I"⟩
abbrev cX5_fewestBy : ByteArray := prog_7_method_4_code
def yX5_fewestBy : MethodName := ⟨RX5, "fewestBy", "(III)I"⟩
abbrev cX5_fewestTries : ByteArray := prog_7_method_5_code
def yX5_fewestTries : MethodName := ⟨RX5, "fewestTries", "(II)I"⟩
abbrev cX5_firstTried : ByteArray := prog_7_method_6_code
def yX5_firstTried : MethodName := ⟨RX5, "firstTried", "(II)I"⟩
def RX6 : String := "BrideShoes$Ways"
def TX6 : u_T := fun k => match k with
  | 0 => ("BrideShoes$Ways", "price", "[[J", true)
  | 1 => ("BrideShoes$Ways", "least", "[J", true)
  | 2 => ("BrideShoes$Ways", "shoeOf", "[I", true)
  | _ => ("BrideShoes$Ways", "askedTogether", "I", false)
def tyX6 : Nat → FieldType := fun k => match k with
  | 0 => .array (.array .long)
  | 1 => .array .long
  | 2 => .array .int
  | _ => .int
abbrev wsX60 : List Cond := u_ws RX6 TX6 4
theorem nmX6 : ∀ a, a < 4 → ∀ b, b < 4 → a ≠ b → (TX6 a).2.1 ≠ (TX6 b).2.1 := by decide +kernel
theorem tyX6_ok : ∀ k, k < 4 → parseFieldDescriptor (TX6 k).2.2.1 = some (tyX6 k) := by decide +kernel
abbrev cX6_init : ByteArray := prog_8_method_1_code
def yX6_init : MethodName := ⟨RX6, "<init>", "()V"⟩
abbrev cX6_findForAll : ByteArray := prog_8_method_2_code
def yX6_findForAll : MethodName := ⟨RX6, "findForAll", "(LBrideShoes$Party;I)Z"⟩
abbrev cX6_findMost : ByteArray := prog_8_method_3_code
def yX6_findMost : MethodName := ⟨RX6, "findMost", "(LBrideShoes$Party;I)I"⟩
abbrev cX6_findChain : ByteArray := prog_8_method_4_code
def yX6_findChain : MethodName := ⟨RX6, "findChain", "(LBrideShoes$Party;I)I"⟩
abbrev cX6_isWorn : ByteArray := prog_8_method_5_code
def yX6_isWorn : MethodName := ⟨RX6, "isWorn", "(LBrideShoes$Party;I)Z"⟩
abbrev cX6_shiftOf : ByteArray := prog_8_method_6_code
def yX6_shiftOf : MethodName := ⟨RX6, "shiftOf", "(I)I"⟩
abbrev cX6_priceAsked : ByteArray := prog_8_method_7_code
def yX6_priceAsked : MethodName := ⟨RX6, "priceAsked", "(LBrideShoes$Party;I)V"⟩
abbrev cX6_addShoes : ByteArray := prog_8_method_8_code
def yX6_addShoes : MethodName := ⟨RX6, "addShoes", "(LBrideShoes$Party;)V"⟩
abbrev cX6_addShoe : ByteArray := prog_8_method_9_code
def yX6_addShoe : MethodName := ⟨RX6, "addShoe", "([JI)V"⟩
def RX7 : String := "BrideShoes"
def TX7 : u_T := fun k => match k with
  | 0 => ("BrideShoes", "party", "LBrideShoes$Party;", true)
  | 1 => ("BrideShoes", "kept", "LBrideShoes$Party;", true)
  | 2 => ("BrideShoes", "isKept", "Z", false)
  | 3 => ("BrideShoes", "tape", "LBrideShoes$Tape;", true)
  | 4 => ("BrideShoes", "ways", "LBrideShoes$Ways;", true)
  | 5 => ("BrideShoes", "trials", "LBrideShoes$Trials;", true)
  | 6 => ("BrideShoes", "mixes", "LBrideShoes$Mixes;", true)
  | 7 => ("BrideShoes", "ranks", "LBrideShoes$Ranks;", true)
  | _ => ("BrideShoes", "sheets", "[LBrideShoes$Sheet;", true)
def tyX7 : Nat → FieldType := fun k => match k with
  | 0 => .object "BrideShoes$Party"
  | 1 => .object "BrideShoes$Party"
  | 2 => .boolean
  | 3 => .object "BrideShoes$Tape"
  | 4 => .object "BrideShoes$Ways"
  | 5 => .object "BrideShoes$Trials"
  | 6 => .object "BrideShoes$Mixes"
  | 7 => .object "BrideShoes$Ranks"
  | _ => .array (.object "BrideShoes$Sheet")
abbrev wsX70 : List Cond := u_ws RX7 TX7 9
theorem nmX7 : ∀ a, a < 9 → ∀ b, b < 9 → a ≠ b → (TX7 a).2.1 ≠ (TX7 b).2.1 := by decide +kernel
theorem tyX7_ok : ∀ k, k < 9 → parseFieldDescriptor (TX7 k).2.2.1 = some (tyX7 k) := by decide +kernel
abbrev cX7_init : ByteArray := prog_1_method_1_code
def yX7_init : MethodName := ⟨RX7, "<init>", "()V"⟩
abbrev cX7_bride : ByteArray := prog_1_method_2_code
def yX7_bride : MethodName := ⟨RX7, "bride", "(IIII)I"⟩
abbrev cX7_make : ByteArray := prog_1_method_3_code
def yX7_make : MethodName := ⟨RX7, "make", "(III)I"⟩
abbrev cX7_shoe : ByteArray := prog_1_method_4_code
def yX7_shoe : MethodName := ⟨RX7, "shoe", "(III)I"⟩
abbrev cX7_told : ByteArray := prog_1_method_5_code
def yX7_told : MethodName := ⟨RX7, "told", "(II)I"⟩
abbrev cX7_lose : ByteArray := prog_1_method_6_code
def yX7_lose : MethodName := ⟨RX7, "lose", "(IZ)I"⟩
abbrev cX7_set : ByteArray := prog_1_method_7_code
def yX7_set : MethodName := ⟨RX7, "set", "(II)I"⟩
abbrev cX7_foot : ByteArray := prog_1_method_8_code
def yX7_foot : MethodName := ⟨RX7, "foot", "(III)I"⟩
abbrev cX7_asked : ByteArray := prog_1_method_9_code
def yX7_asked : MethodName := ⟨RX7, "asked", "(III)I"⟩
abbrev cX7_whose : ByteArray := prog_1_method_10_code
def yX7_whose : MethodName := ⟨RX7, "whose", "(II)I"⟩
abbrev cX7_type : ByteArray := prog_1_method_11_code
def yX7_type : MethodName := ⟨RX7, "type", "(JI)I"⟩
abbrev cX7_brides : ByteArray := prog_1_method_12_code
def yX7_brides : MethodName := ⟨RX7, "brides", "()I"⟩
abbrev cX7_heap : ByteArray := prog_1_method_13_code
def yX7_heap : MethodName := ⟨RX7, "heap", "()I"⟩
abbrev cX7_count : ByteArray := prog_1_method_14_code
def yX7_count : MethodName := ⟨RX7, "count", "(I)I"⟩
abbrev cX7_shod : ByteArray := prog_1_method_15_code
def yX7_shod : MethodName := ⟨RX7, "shod", "(II)I"⟩
abbrev cX7_most : ByteArray := prog_1_method_16_code
def yX7_most : MethodName := ⟨RX7, "most", "(I)I"⟩
abbrev cX7_chain : ByteArray := prog_1_method_17_code
def yX7_chain : MethodName := ⟨RX7, "chain", "(I)I"⟩
abbrev cX7_limps : ByteArray := prog_1_method_18_code
def yX7_limps : MethodName := ⟨RX7, "limps", "(III)I"⟩
abbrev cX7_tries : ByteArray := prog_1_method_19_code
def yX7_tries : MethodName := ⟨RX7, "tries", "(IIII)I"⟩
abbrev cX7_image : ByteArray := prog_1_method_20_code
def yX7_image : MethodName := ⟨RX7, "image", "()I"⟩
abbrev cX7_restore : ByteArray := prog_1_method_21_code
def yX7_restore : MethodName := ⟨RX7, "restore", "()I"⟩
abbrev cX7_changed : ByteArray := prog_1_method_22_code
def yX7_changed : MethodName := ⟨RX7, "changed", "(IIIIII)I"⟩
abbrev cX7_firm : ByteArray := prog_1_method_23_code
def yX7_firm : MethodName := ⟨RX7, "firm", "(IIIII)I"⟩
abbrev cX7_judged : ByteArray := prog_1_method_24_code
def yX7_judged : MethodName := ⟨RX7, "judged", "(IIIII)I"⟩
abbrev cX7_sheet : ByteArray := prog_1_method_25_code
def yX7_sheet : MethodName := ⟨RX7, "sheet", "(III)I"⟩
abbrev cX7_drop : ByteArray := prog_1_method_26_code
def yX7_drop : MethodName := ⟨RX7, "drop", "(I)I"⟩
abbrev cX7_item : ByteArray := prog_1_method_27_code
def yX7_item : MethodName := ⟨RX7, "item", "(IIII)I"⟩
abbrev cX7_copy : ByteArray := prog_1_method_28_code
def yX7_copy : MethodName := ⟨RX7, "copy", "(IIIII)I"⟩
abbrev cX7_isFrom : ByteArray := prog_1_method_29_code
def yX7_isFrom : MethodName := ⟨RX7, "isFrom", "(III)Z"⟩
abbrev cX7_isOfBride : ByteArray := prog_1_method_30_code
def yX7_isOfBride : MethodName := ⟨RX7, "isOfBride", "(II)Z"⟩
abbrev cX7_isOfShoe : ByteArray := prog_1_method_31_code
def yX7_isOfShoe : MethodName := ⟨RX7, "isOfShoe", "(II)Z"⟩
abbrev cX7_isSide : ByteArray := prog_1_method_32_code
def yX7_isSide : MethodName := ⟨RX7, "isSide", "(I)Z"⟩
abbrev cX7_isHour : ByteArray := prog_1_method_33_code
def yX7_isHour : MethodName := ⟨RX7, "isHour", "(I)Z"⟩
abbrev cX7_isSheet : ByteArray := prog_1_method_34_code
def yX7_isSheet : MethodName := ⟨RX7, "isSheet", "(I)Z"⟩
abbrev cX7_isLane : ByteArray := prog_1_method_35_code
def yX7_isLane : MethodName := ⟨RX7, "isLane", "(I)Z"⟩
abbrev cX7_isRanked : ByteArray := prog_1_method_36_code
def yX7_isRanked : MethodName := ⟨RX7, "isRanked", "(I)Z"⟩
abbrev cX7_isBride : ByteArray := prog_1_method_37_code
def yX7_isBride : MethodName := ⟨RX7, "isBride", "(I)Z"⟩
abbrev cX7_isShoe : ByteArray := prog_1_method_38_code
def yX7_isShoe : MethodName := ⟨RX7, "isShoe", "(I)Z"⟩
def RX8 : String := "BrideShoesModel"
def TX8 : u_T := fun k => match k with
  | 0 => ("BrideShoesModel", "brides", "[I", true)
  | 1 => ("BrideShoesModel", "shoes", "[I", true)
  | 2 => ("BrideShoesModel", "many", "I", false)
  | 3 => ("BrideShoesModel", "shoeMany", "I", false)
  | 4 => ("BrideShoesModel", "sets", "[I", true)
  | 5 => ("BrideShoesModel", "tape", "[I", true)
  | 6 => ("BrideShoesModel", "taped", "I", false)
  | 7 => ("BrideShoesModel", "place", "I", false)
  | 8 => ("BrideShoesModel", "reads", "I", false)
  | 9 => ("BrideShoesModel", "read", "[I", true)
  | 10 => ("BrideShoesModel", "which", "[I", true)
  | 11 => ("BrideShoesModel", "whichMany", "I", false)
  | 12 => ("BrideShoesModel", "asks", "[I", true)
  | 13 => ("BrideShoesModel", "least", "[I", true)
  | 14 => ("BrideShoesModel", "way", "[I", true)
  | 15 => ("BrideShoesModel", "can", "[Z", true)
  | 16 => ("BrideShoesModel", "hasSize", "[Z", true)
  | 17 => ("BrideShoesModel", "fewest", "[I", true)
  | 18 => ("BrideShoesModel", "isKept", "Z", false)
  | 19 => ("BrideShoesModel", "kept", "[I", true)
  | 20 => ("BrideShoesModel", "keptMany", "I", false)
  | 21 => ("BrideShoesModel", "keptShoes", "I", false)
  | 22 => ("BrideShoesModel", "lanes", "[I", true)
  | 23 => ("BrideShoesModel", "rowSizes", "[I", true)
  | 24 => ("BrideShoesModel", "items", "[I", true)
  | 25 => ("BrideShoesModel", "moved", "[I", true)
  | 26 => ("BrideShoesModel", "row", "[I", true)
  | 27 => ("BrideShoesModel", "first", "[I", true)
  | 28 => ("BrideShoesModel", "ranks", "[I", true)
  | 29 => ("BrideShoesModel", "grooms", "[I", true)
  | 30 => ("BrideShoesModel", "wives", "[I", true)
  | _ => ("BrideShoesModel", "asked", "[I", true)
def tyX8 : Nat → FieldType := fun k => match k with
  | 0 => .array .int
  | 1 => .array .int
  | 2 => .int
  | 3 => .int
  | 4 => .array .int
  | 5 => .array .int
  | 6 => .int
  | 7 => .int
  | 8 => .int
  | 9 => .array .int
  | 10 => .array .int
  | 11 => .int
  | 12 => .array .int
  | 13 => .array .int
  | 14 => .array .int
  | 15 => .array .boolean
  | 16 => .array .boolean
  | 17 => .array .int
  | 18 => .boolean
  | 19 => .array .int
  | 20 => .int
  | 21 => .int
  | 22 => .array .int
  | 23 => .array .int
  | 24 => .array .int
  | 25 => .array .int
  | 26 => .array .int
  | 27 => .array .int
  | 28 => .array .int
  | 29 => .array .int
  | 30 => .array .int
  | _ => .array .int
abbrev wsX80 : List Cond := u_ws RX8 TX8 32
theorem nmX8 : ∀ a, a < 32 → ∀ b, b < 32 → a ≠ b → (TX8 a).2.1 ≠ (TX8 b).2.1 := by decide +kernel
theorem tyX8_ok : ∀ k, k < 32 → parseFieldDescriptor (TX8 k).2.2.1 = some (tyX8 k) := by decide +kernel
abbrev cX8_init : ByteArray := prog_10_method_1_code
def yX8_init : MethodName := ⟨RX8, "<init>", "()V"⟩
abbrev cX8_in : ByteArray := prog_10_method_2_code
def yX8_in : MethodName := ⟨RX8, "in", "(JJJ)Z"⟩
abbrev cX8_isBride : ByteArray := prog_10_method_3_code
def yX8_isBride : MethodName := ⟨RX8, "isBride", "(I)Z"⟩
abbrev cX8_isShoe : ByteArray := prog_10_method_4_code
def yX8_isShoe : MethodName := ⟨RX8, "isShoe", "(I)Z"⟩
abbrev cX8_isHour : ByteArray := prog_10_method_5_code
def yX8_isHour : MethodName := ⟨RX8, "isHour", "(I)Z"⟩
abbrev cX8_isOfBride : ByteArray := prog_10_method_6_code
def yX8_isOfBride : MethodName := ⟨RX8, "isOfBride", "(II)Z"⟩
abbrev cX8_bride : ByteArray := prog_10_method_7_code
def yX8_bride : MethodName := ⟨RX8, "bride", "(IIII)I"⟩
abbrev cX8_make : ByteArray := prog_10_method_8_code
def yX8_make : MethodName := ⟨RX8, "make", "(III)I"⟩
abbrev cX8_addShoe : ByteArray := prog_10_method_9_code
def yX8_addShoe : MethodName := ⟨RX8, "addShoe", "(III)V"⟩
abbrev cX8_shoe : ByteArray := prog_10_method_10_code
def yX8_shoe : MethodName := ⟨RX8, "shoe", "(III)I"⟩
abbrev cX8_told : ByteArray := prog_10_method_11_code
def yX8_told : MethodName := ⟨RX8, "told", "(II)I"⟩
abbrev cX8_lose : ByteArray := prog_10_method_12_code
def yX8_lose : MethodName := ⟨RX8, "lose", "(IZ)I"⟩
abbrev cX8_set : ByteArray := prog_10_method_13_code
def yX8_set : MethodName := ⟨RX8, "set", "(II)I"⟩
abbrev cX8_footOf : ByteArray := prog_10_method_14_code
def yX8_footOf : MethodName := ⟨RX8, "footOf", "(III)I"⟩
abbrev cX8_givesOf : ByteArray := prog_10_method_15_code
def yX8_givesOf : MethodName := ⟨RX8, "givesOf", "(I)I"⟩
abbrev cX8_looseOf : ByteArray := prog_10_method_16_code
def yX8_looseOf : MethodName := ⟨RX8, "looseOf", "(I)I"⟩
abbrev cX8_outOf : ByteArray := prog_10_method_17_code
def yX8_outOf : MethodName := ⟨RX8, "outOf", "(I)I"⟩
abbrev cX8_askedOf : ByteArray := prog_10_method_18_code
def yX8_askedOf : MethodName := ⟨RX8, "askedOf", "(III)I"⟩
abbrev cX8_foot : ByteArray := prog_10_method_19_code
def yX8_foot : MethodName := ⟨RX8, "foot", "(III)I"⟩
abbrev cX8_asked : ByteArray := prog_10_method_20_code
def yX8_asked : MethodName := ⟨RX8, "asked", "(III)I"⟩
abbrev cX8_whose : ByteArray := prog_10_method_21_code
def yX8_whose : MethodName := ⟨RX8, "whose", "(II)I"⟩
abbrev cX8_count : ByteArray := prog_10_method_22_code
def yX8_count : MethodName := ⟨RX8, "count", "(I)I"⟩
abbrev cX8_type : ByteArray := prog_10_method_23_code
def yX8_type : MethodName := ⟨RX8, "type", "(JI)I"⟩
abbrev cX8_nextByte : ByteArray := prog_10_method_24_code
def yX8_nextByte : MethodName := ⟨RX8, "nextByte", "()I"⟩
abbrev cX8_takes : ByteArray := prog_10_method_25_code
def yX8_takes : MethodName := ⟨RX8, "takes", "(I)Z"⟩
abbrev cX8_readNumber : ByteArray := prog_10_method_26_code
def yX8_readNumber : MethodName := ⟨RX8, "readNumber", "(II)I"⟩
abbrev cX8_readDigit : ByteArray := prog_10_method_27_code
def yX8_readDigit : MethodName := ⟨RX8, "readDigit", "(I)I"⟩
abbrev cX8_readBride : ByteArray := prog_10_method_28_code
def yX8_readBride : MethodName := ⟨RX8, "readBride", "(I)Z"⟩
abbrev cX8_readShoe : ByteArray := prog_10_method_29_code
def yX8_readShoe : MethodName := ⟨RX8, "readShoe", "(I)Z"⟩
abbrev cX8_readAll : ByteArray := prog_10_method_30_code
def yX8_readAll : MethodName := ⟨RX8, "readAll", "(Z)Z"⟩
abbrev cX8_brides : ByteArray := prog_10_method_31_code
def yX8_brides : MethodName := ⟨RX8, "brides", "()I"⟩
abbrev cX8_heap : ByteArray := prog_10_method_32_code
def yX8_heap : MethodName := ⟨RX8, "heap", "()I"⟩
abbrev cX8_findSide : ByteArray := prog_10_method_33_code
def yX8_findSide : MethodName := ⟨RX8, "findSide", "(I)V"⟩
abbrev cX8_ones : ByteArray := prog_10_method_34_code
def yX8_ones : MethodName := ⟨RX8, "ones", "(I)I"⟩
abbrev cX8_findLeast : ByteArray := prog_10_method_35_code
def yX8_findLeast : MethodName := ⟨RX8, "findLeast", "()I"⟩
abbrev cX8_findWay : ByteArray := prog_10_method_36_code
def yX8_findWay : MethodName := ⟨RX8, "findWay", "(I)I"⟩
abbrev cX8_shod : ByteArray := prog_10_method_37_code
def yX8_shod : MethodName := ⟨RX8, "shod", "(II)I"⟩
abbrev cX8_most : ByteArray := prog_10_method_38_code
def yX8_most : MethodName := ⟨RX8, "most", "(I)I"⟩
abbrev cX8_chain : ByteArray := prog_10_method_39_code
def yX8_chain : MethodName := ⟨RX8, "chain", "(I)I"⟩
abbrev cX8_limpsOf : ByteArray := prog_10_method_40_code
def yX8_limpsOf : MethodName := ⟨RX8, "limpsOf", "(III)I"⟩
abbrev cX8_limps : ByteArray := prog_10_method_41_code
def yX8_limps : MethodName := ⟨RX8, "limps", "(III)I"⟩
abbrev cX8_triesOf : ByteArray := prog_10_method_42_code
def yX8_triesOf : MethodName := ⟨RX8, "triesOf", "(II)I"⟩
abbrev cX8_triesBy : ByteArray := prog_10_method_43_code
def yX8_triesBy : MethodName := ⟨RX8, "triesBy", "(III)I"⟩
abbrev cX8_findTries : ByteArray := prog_10_method_44_code
def yX8_findTries : MethodName := ⟨RX8, "findTries", "(I)V"⟩
abbrev cX8_tries : ByteArray := prog_10_method_45_code
def yX8_tries : MethodName := ⟨RX8, "tries", "(IIII)I"⟩
abbrev cX8_image : ByteArray := prog_10_method_46_code
def yX8_image : MethodName := ⟨RX8, "image", "()I"⟩
abbrev cX8_restore : ByteArray := prog_10_method_47_code
def yX8_restore : MethodName := ⟨RX8, "restore", "()I"⟩
abbrev cX8_isSheet : ByteArray := prog_10_method_48_code
def yX8_isSheet : MethodName := ⟨RX8, "isSheet", "(II)Z"⟩
abbrev cX8_sheet : ByteArray := prog_10_method_49_code
def yX8_sheet : MethodName := ⟨RX8, "sheet", "(III)I"⟩
abbrev cX8_drop : ByteArray := prog_10_method_50_code
def yX8_drop : MethodName := ⟨RX8, "drop", "(I)I"⟩
abbrev cX8_lacksRow : ByteArray := prog_10_method_51_code
def yX8_lacksRow : MethodName := ⟨RX8, "lacksRow", "(IIII)I"⟩
abbrev cX8_item : ByteArray := prog_10_method_52_code
def yX8_item : MethodName := ⟨RX8, "item", "(IIII)I"⟩
abbrev cX8_copy : ByteArray := prog_10_method_53_code
def yX8_copy : MethodName := ⟨RX8, "copy", "(IIIII)I"⟩
abbrev cX8_nextRow : ByteArray := prog_10_method_54_code
def yX8_nextRow : MethodName := ⟨RX8, "nextRow", "(I)Z"⟩
abbrev cX8_limpSo : ByteArray := prog_10_method_55_code
def yX8_limpSo : MethodName := ⟨RX8, "limpSo", "(II)Z"⟩
abbrev cX8_changed : ByteArray := prog_10_method_56_code
def yX8_changed : MethodName := ⟨RX8, "changed", "(IIIIII)I"⟩
abbrev cX8_isRow : ByteArray := prog_10_method_57_code
def yX8_isRow : MethodName := ⟨RX8, "isRow", "(II)Z"⟩
abbrev cX8_findRanks : ByteArray := prog_10_method_58_code
def yX8_findRanks : MethodName := ⟨RX8, "findRanks", "(II)Z"⟩
abbrev cX8_firm : ByteArray := prog_10_method_59_code
def yX8_firm : MethodName := ⟨RX8, "firm", "(IIIII)I"⟩
abbrev cX8_judged : ByteArray := prog_10_method_60_code
def yX8_judged : MethodName := ⟨RX8, "judged", "(IIIII)I"⟩
def RJ6 : String := "java/lang/Integer"
abbrev cJ6_bitCount_0f7a4 : ByteArray := prog_11_method_49_code
def yJ6_bitCount_0f7a4 : MethodName := ⟨RJ6, "bitCount", "(I)I"⟩
def RJ9 : String := "java/lang/Math"
abbrev cJ9_max_7cf53 : ByteArray := prog_12_method_65_code
def yJ9_max_7cf53 : MethodName := ⟨RJ9, "max", "(II)I"⟩
abbrev cJ9_min_7cf53 : ByteArray := prog_12_method_69_code
def yJ9_min_7cf53 : MethodName := ⟨RJ9, "min", "(II)I"⟩
def RJ10 : String := "java/lang/System"
def RJ7 : String := "java/util/Arrays"
abbrev cJ7_fill_d0a16 : ByteArray := prog_14_method_101_code
def yJ7_fill_d0a16 : MethodName := ⟨RJ7, "fill", "([JJ)V"⟩
abbrev cJ7_fill_53178 : ByteArray := prog_14_method_103_code
def yJ7_fill_53178 : MethodName := ⟨RJ7, "fill", "([II)V"⟩
def RL : String := "BrideShoesLaw"
abbrev cL_law : ByteArray := code
def yL_law : MethodName := ⟨RL, "law", "([I)Z"⟩
end
section
theorem dX0_init_0 : decode cX0_init 0 = .ok (.aload_n 0, 1) := by decide +kernel
theorem dX0_init_1 : decode cX0_init 1 = .ok (.invokespecial 3, 3) := by decide +kernel
theorem dX0_init_4 : decode cX0_init 4 = .ok (.aload_n 0, 1) := by decide +kernel
theorem dX0_init_5 : decode cX0_init 5 = .ok (.bipush 6, 2) := by decide +kernel
theorem dX0_init_7 : decode cX0_init 7 = .ok (.newarray .int, 2) := by decide +kernel
theorem dX0_init_9 : decode cX0_init 9 = .ok (.putfield 9, 3) := by decide +kernel
theorem dX0_init_12 : decode cX0_init 12 = .ok (.aload_n 0, 1) := by decide +kernel
theorem dX0_init_13 : decode cX0_init 13 = .ok (.bipush 64, 2) := by decide +kernel
theorem dX0_init_15 : decode cX0_init 15 = .ok (.newarray .int, 2) := by decide +kernel
theorem dX0_init_17 : decode cX0_init 17 = .ok (.putfield 15, 3) := by decide +kernel
theorem dX0_init_20 : decode cX0_init 20 = .ok (.aload_n 0, 1) := by decide +kernel
theorem dX0_init_21 : decode cX0_init 21 = .ok (.bipush 6, 2) := by decide +kernel
theorem dX0_init_23 : decode cX0_init 23 = .ok (.newarray .int, 2) := by decide +kernel
theorem dX0_init_25 : decode cX0_init 25 = .ok (.putfield 18, 3) := by decide +kernel
theorem dX0_init_28 : decode cX0_init 28 = .ok (.return_, 1) := by decide +kernel
theorem dX0_find_0 : decode cX0_find 0 = .ok (.iconst 0, 1) := by decide +kernel
theorem dX0_find_1 : decode cX0_find 1 = .ok (.istore 6, 2) := by decide +kernel
theorem dX0_find_3 : decode cX0_find 3 = .ok (.iload 6, 2) := by decide +kernel
theorem dX0_find_5 : decode cX0_find 5 = .ok (.iload 5, 2) := by decide +kernel
theorem dX0_find_7 : decode cX0_find 7 = .ok (.if_icmp .ge 76, 3) := by decide +kernel
theorem dX0_find_10 : decode cX0_find 10 = .ok (.aload_n 0, 1) := by decide +kernel
theorem dX0_find_11 : decode cX0_find 11 = .ok (.getfield 9, 3) := by decide +kernel
theorem dX0_find_14 : decode cX0_find 14 = .ok (.iload 6, 2) := by decide +kernel
theorem dX0_find_16 : decode cX0_find 16 = .ok (.iconst 0, 1) := by decide +kernel
theorem dX0_find_17 : decode cX0_find 17 = .ok (.iastore, 1) := by decide +kernel
theorem dX0_find_18 : decode cX0_find 18 = .ok (.iconst 0, 1) := by decide +kernel
theorem dX0_find_19 : decode cX0_find 19 = .ok (.istore 7, 2) := by decide +kernel
theorem dX0_find_21 : decode cX0_find 21 = .ok (.iload 7, 2) := by decide +kernel
theorem dX0_find_23 : decode cX0_find 23 = .ok (.iload 5, 2) := by decide +kernel
theorem dX0_find_25 : decode cX0_find 25 = .ok (.if_icmp .ge 52, 3) := by decide +kernel
theorem dX0_find_28 : decode cX0_find 28 = .ok (.aload_n 1, 1) := by decide +kernel
theorem dX0_find_29 : decode cX0_find 29 = .ok (.iload 6, 2) := by decide +kernel
theorem dX0_find_31 : decode cX0_find 31 = .ok (.aload_n 2, 1) := by decide +kernel
theorem dX0_find_32 : decode cX0_find 32 = .ok (.iload 7, 2) := by decide +kernel
theorem dX0_find_34 : decode cX0_find 34 = .ok (.iaload, 1) := by decide +kernel
theorem dX0_find_35 : decode cX0_find 35 = .ok (.aload_n 1, 1) := by decide +kernel
theorem dX0_find_36 : decode cX0_find 36 = .ok (.getfield 21, 3) := by decide +kernel
theorem dX0_find_39 : decode cX0_find 39 = .ok (.iload 6, 2) := by decide +kernel
theorem dX0_find_41 : decode cX0_find 41 = .ok (.aaload, 1) := by decide +kernel
theorem dX0_find_42 : decode cX0_find 42 = .ok (.iconst 3, 1) := by decide +kernel
theorem dX0_find_43 : decode cX0_find 43 = .ok (.iaload, 1) := by decide +kernel
theorem dX0_find_44 : decode cX0_find 44 = .ok (.invokevirtual 27, 3) := by decide +kernel
theorem dX0_find_47 : decode cX0_find 47 = .ok (.aload_n 3, 1) := by decide +kernel
theorem dX0_find_48 : decode cX0_find 48 = .ok (.iload 4, 2) := by decide +kernel
theorem dX0_find_50 : decode cX0_find 50 = .ok (.iload 6, 2) := by decide +kernel
theorem dX0_find_52 : decode cX0_find 52 = .ok (.iadd, 1) := by decide +kernel
theorem dX0_find_53 : decode cX0_find 53 = .ok (.iaload, 1) := by decide +kernel
theorem dX0_find_54 : decode cX0_find 54 = .ok (.if_icmp .ne 17, 3) := by decide +kernel
theorem dX0_find_57 : decode cX0_find 57 = .ok (.aload_n 0, 1) := by decide +kernel
theorem dX0_find_58 : decode cX0_find 58 = .ok (.getfield 9, 3) := by decide +kernel
theorem dX0_find_61 : decode cX0_find 61 = .ok (.iload 6, 2) := by decide +kernel
theorem dX0_find_63 : decode cX0_find 63 = .ok (.dup2, 1) := by decide +kernel
theorem dX0_find_64 : decode cX0_find 64 = .ok (.iaload, 1) := by decide +kernel
theorem dX0_find_65 : decode cX0_find 65 = .ok (.iconst 1, 1) := by decide +kernel
theorem dX0_find_66 : decode cX0_find 66 = .ok (.iload 7, 2) := by decide +kernel
theorem dX0_find_68 : decode cX0_find 68 = .ok (.ishl, 1) := by decide +kernel
theorem dX0_find_69 : decode cX0_find 69 = .ok (.ior, 1) := by decide +kernel
theorem dX0_find_70 : decode cX0_find 70 = .ok (.iastore, 1) := by decide +kernel
theorem dX0_find_71 : decode cX0_find 71 = .ok (.iinc 7 1, 3) := by decide +kernel
theorem dX0_find_74 : decode cX0_find 74 = .ok (.goto (-53), 3) := by decide +kernel
theorem dX0_find_77 : decode cX0_find 77 = .ok (.iinc 6 1, 3) := by decide +kernel
theorem dX0_find_80 : decode cX0_find 80 = .ok (.goto (-77), 3) := by decide +kernel
theorem dX0_find_83 : decode cX0_find 83 = .ok (.aload_n 0, 1) := by decide +kernel
theorem dX0_find_84 : decode cX0_find 84 = .ok (.iload 5, 2) := by decide +kernel
theorem dX0_find_86 : decode cX0_find 86 = .ok (.invokevirtual 31, 3) := by decide +kernel
theorem dX0_find_89 : decode cX0_find 89 = .ok (.aload_n 0, 1) := by decide +kernel
theorem dX0_find_90 : decode cX0_find 90 = .ok (.iload 5, 2) := by decide +kernel
theorem dX0_find_92 : decode cX0_find 92 = .ok (.invokevirtual 35, 3) := by decide +kernel
theorem dX0_find_95 : decode cX0_find 95 = .ok (.return_, 1) := by decide +kernel
theorem dX0_howMany_0 : decode cX0_howMany 0 = .ok (.aload_n 0, 1) := by decide +kernel
theorem dX0_howMany_1 : decode cX0_howMany 1 = .ok (.getfield 15, 3) := by decide +kernel
theorem dX0_howMany_4 : decode cX0_howMany 4 = .ok (.iconst 0, 1) := by decide +kernel
theorem dX0_howMany_5 : decode cX0_howMany 5 = .ok (.iaload, 1) := by decide +kernel
theorem dX0_howMany_6 : decode cX0_howMany 6 = .ok (.ireturn, 1) := by decide +kernel
theorem dX0_countRows_0 : decode cX0_countRows 0 = .ok (.iconst 1, 1) := by decide +kernel
theorem dX0_countRows_1 : decode cX0_countRows 1 = .ok (.iload_n 1, 1) := by decide +kernel
theorem dX0_countRows_2 : decode cX0_countRows 2 = .ok (.ishl, 1) := by decide +kernel
theorem dX0_countRows_3 : decode cX0_countRows 3 = .ok (.iconst 1, 1) := by decide +kernel
theorem dX0_countRows_4 : decode cX0_countRows 4 = .ok (.isub, 1) := by decide +kernel
theorem dX0_countRows_5 : decode cX0_countRows 5 = .ok (.istore_n 2, 1) := by decide +kernel
theorem dX0_countRows_6 : decode cX0_countRows 6 = .ok (.aload_n 0, 1) := by decide +kernel
theorem dX0_countRows_7 : decode cX0_countRows 7 = .ok (.getfield 15, 3) := by decide +kernel
theorem dX0_countRows_10 : decode cX0_countRows 10 = .ok (.iload_n 2, 1) := by decide +kernel
theorem dX0_countRows_11 : decode cX0_countRows 11 = .ok (.iconst 1, 1) := by decide +kernel
theorem dX0_countRows_12 : decode cX0_countRows 12 = .ok (.iastore, 1) := by decide +kernel
theorem dX0_countRows_13 : decode cX0_countRows 13 = .ok (.iload_n 2, 1) := by decide +kernel
theorem dX0_countRows_14 : decode cX0_countRows 14 = .ok (.iconst 1, 1) := by decide +kernel
theorem dX0_countRows_15 : decode cX0_countRows 15 = .ok (.isub, 1) := by decide +kernel
theorem dX0_countRows_16 : decode cX0_countRows 16 = .ok (.istore_n 3, 1) := by decide +kernel
theorem dX0_countRows_17 : decode cX0_countRows 17 = .ok (.iload_n 3, 1) := by decide +kernel
theorem dX0_countRows_18 : decode cX0_countRows 18 = .ok (.ifCond .lt 77, 3) := by decide +kernel
theorem dX0_countRows_21 : decode cX0_countRows 21 = .ok (.aload_n 0, 1) := by decide +kernel
theorem dX0_countRows_22 : decode cX0_countRows 22 = .ok (.getfield 9, 3) := by decide +kernel
theorem dX0_countRows_25 : decode cX0_countRows 25 = .ok (.iload_n 3, 1) := by decide +kernel
theorem dX0_countRows_26 : decode cX0_countRows 26 = .ok (.invokestatic 38, 3) := by decide +kernel
theorem dX0_countRows_29 : decode cX0_countRows 29 = .ok (.iaload, 1) := by decide +kernel
theorem dX0_countRows_30 : decode cX0_countRows 30 = .ok (.iload_n 3, 1) := by decide +kernel
theorem dX0_countRows_31 : decode cX0_countRows 31 = .ok (.iconst (-1), 1) := by decide +kernel
theorem dX0_countRows_32 : decode cX0_countRows 32 = .ok (.ixor, 1) := by decide +kernel
theorem dX0_countRows_33 : decode cX0_countRows 33 = .ok (.iand, 1) := by decide +kernel
theorem dX0_countRows_34 : decode cX0_countRows 34 = .ok (.istore 4, 2) := by decide +kernel
theorem dX0_countRows_36 : decode cX0_countRows 36 = .ok (.aload_n 0, 1) := by decide +kernel
theorem dX0_countRows_37 : decode cX0_countRows 37 = .ok (.getfield 15, 3) := by decide +kernel
theorem dX0_countRows_40 : decode cX0_countRows 40 = .ok (.iload_n 3, 1) := by decide +kernel
theorem dX0_countRows_41 : decode cX0_countRows 41 = .ok (.iconst 0, 1) := by decide +kernel
theorem dX0_countRows_42 : decode cX0_countRows 42 = .ok (.iastore, 1) := by decide +kernel
theorem dX0_countRows_43 : decode cX0_countRows 43 = .ok (.iconst 0, 1) := by decide +kernel
theorem dX0_countRows_44 : decode cX0_countRows 44 = .ok (.istore 5, 2) := by decide +kernel
theorem dX0_countRows_46 : decode cX0_countRows 46 = .ok (.iload 5, 2) := by decide +kernel
theorem dX0_countRows_48 : decode cX0_countRows 48 = .ok (.iload_n 1, 1) := by decide +kernel
theorem dX0_countRows_49 : decode cX0_countRows 49 = .ok (.if_icmp .ge 40, 3) := by decide +kernel
theorem dX0_countRows_52 : decode cX0_countRows 52 = .ok (.iload 4, 2) := by decide +kernel
theorem dX0_countRows_54 : decode cX0_countRows 54 = .ok (.iload 5, 2) := by decide +kernel
theorem dX0_countRows_56 : decode cX0_countRows 56 = .ok (.ishr, 1) := by decide +kernel
theorem dX0_countRows_57 : decode cX0_countRows 57 = .ok (.iconst 1, 1) := by decide +kernel
theorem dX0_countRows_58 : decode cX0_countRows 58 = .ok (.iand, 1) := by decide +kernel
theorem dX0_countRows_59 : decode cX0_countRows 59 = .ok (.iconst 1, 1) := by decide +kernel
theorem dX0_countRows_60 : decode cX0_countRows 60 = .ok (.if_icmp .ne 23, 3) := by decide +kernel
theorem dX0_countRows_63 : decode cX0_countRows 63 = .ok (.aload_n 0, 1) := by decide +kernel
theorem dX0_countRows_64 : decode cX0_countRows 64 = .ok (.getfield 15, 3) := by decide +kernel
theorem dX0_countRows_67 : decode cX0_countRows 67 = .ok (.iload_n 3, 1) := by decide +kernel
theorem dX0_countRows_68 : decode cX0_countRows 68 = .ok (.dup2, 1) := by decide +kernel
theorem dX0_countRows_69 : decode cX0_countRows 69 = .ok (.iaload, 1) := by decide +kernel
theorem dX0_countRows_70 : decode cX0_countRows 70 = .ok (.aload_n 0, 1) := by decide +kernel
theorem dX0_countRows_71 : decode cX0_countRows 71 = .ok (.getfield 15, 3) := by decide +kernel
theorem dX0_countRows_74 : decode cX0_countRows 74 = .ok (.iload_n 3, 1) := by decide +kernel
theorem dX0_countRows_75 : decode cX0_countRows 75 = .ok (.iconst 1, 1) := by decide +kernel
theorem dX0_countRows_76 : decode cX0_countRows 76 = .ok (.iload 5, 2) := by decide +kernel
theorem dX0_countRows_78 : decode cX0_countRows 78 = .ok (.ishl, 1) := by decide +kernel
theorem dX0_countRows_79 : decode cX0_countRows 79 = .ok (.ior, 1) := by decide +kernel
theorem dX0_countRows_80 : decode cX0_countRows 80 = .ok (.iaload, 1) := by decide +kernel
theorem dX0_countRows_81 : decode cX0_countRows 81 = .ok (.iadd, 1) := by decide +kernel
theorem dX0_countRows_82 : decode cX0_countRows 82 = .ok (.iastore, 1) := by decide +kernel
theorem dX0_countRows_83 : decode cX0_countRows 83 = .ok (.iinc 5 1, 3) := by decide +kernel
theorem dX0_countRows_86 : decode cX0_countRows 86 = .ok (.goto (-40), 3) := by decide +kernel
theorem dX0_countRows_89 : decode cX0_countRows 89 = .ok (.iinc 3 (-1), 3) := by decide +kernel
theorem dX0_countRows_92 : decode cX0_countRows 92 = .ok (.goto (-75), 3) := by decide +kernel
theorem dX0_countRows_95 : decode cX0_countRows 95 = .ok (.return_, 1) := by decide +kernel
theorem dX0_takeFirst_0 : decode cX0_takeFirst 0 = .ok (.iconst 0, 1) := by decide +kernel
theorem dX0_takeFirst_1 : decode cX0_takeFirst 1 = .ok (.istore_n 2, 1) := by decide +kernel
theorem dX0_takeFirst_2 : decode cX0_takeFirst 2 = .ok (.iconst 0, 1) := by decide +kernel
theorem dX0_takeFirst_3 : decode cX0_takeFirst 3 = .ok (.istore_n 3, 1) := by decide +kernel
theorem dX0_takeFirst_4 : decode cX0_takeFirst 4 = .ok (.iload_n 3, 1) := by decide +kernel
theorem dX0_takeFirst_5 : decode cX0_takeFirst 5 = .ok (.iload_n 1, 1) := by decide +kernel
theorem dX0_takeFirst_6 : decode cX0_takeFirst 6 = .ok (.if_icmp .ge 42, 3) := by decide +kernel
theorem dX0_takeFirst_9 : decode cX0_takeFirst 9 = .ok (.aload_n 0, 1) := by decide +kernel
theorem dX0_takeFirst_10 : decode cX0_takeFirst 10 = .ok (.getfield 18, 3) := by decide +kernel
theorem dX0_takeFirst_13 : decode cX0_takeFirst 13 = .ok (.iload_n 3, 1) := by decide +kernel
theorem dX0_takeFirst_14 : decode cX0_takeFirst 14 = .ok (.aload_n 0, 1) := by decide +kernel
theorem dX0_takeFirst_15 : decode cX0_takeFirst 15 = .ok (.aload_n 0, 1) := by decide +kernel
theorem dX0_takeFirst_16 : decode cX0_takeFirst 16 = .ok (.getfield 9, 3) := by decide +kernel
theorem dX0_takeFirst_19 : decode cX0_takeFirst 19 = .ok (.iload_n 3, 1) := by decide +kernel
theorem dX0_takeFirst_20 : decode cX0_takeFirst 20 = .ok (.iaload, 1) := by decide +kernel
theorem dX0_takeFirst_21 : decode cX0_takeFirst 21 = .ok (.iload_n 2, 1) := by decide +kernel
theorem dX0_takeFirst_22 : decode cX0_takeFirst 22 = .ok (.iconst (-1), 1) := by decide +kernel
theorem dX0_takeFirst_23 : decode cX0_takeFirst 23 = .ok (.ixor, 1) := by decide +kernel
theorem dX0_takeFirst_24 : decode cX0_takeFirst 24 = .ok (.iand, 1) := by decide +kernel
theorem dX0_takeFirst_25 : decode cX0_takeFirst 25 = .ok (.iload_n 2, 1) := by decide +kernel
theorem dX0_takeFirst_26 : decode cX0_takeFirst 26 = .ok (.iload_n 1, 1) := by decide +kernel
theorem dX0_takeFirst_27 : decode cX0_takeFirst 27 = .ok (.invokevirtual 44, 3) := by decide +kernel
theorem dX0_takeFirst_30 : decode cX0_takeFirst 30 = .ok (.iastore, 1) := by decide +kernel
theorem dX0_takeFirst_31 : decode cX0_takeFirst 31 = .ok (.iload_n 2, 1) := by decide +kernel
theorem dX0_takeFirst_32 : decode cX0_takeFirst 32 = .ok (.iconst 1, 1) := by decide +kernel
theorem dX0_takeFirst_33 : decode cX0_takeFirst 33 = .ok (.aload_n 0, 1) := by decide +kernel
theorem dX0_takeFirst_34 : decode cX0_takeFirst 34 = .ok (.getfield 18, 3) := by decide +kernel
theorem dX0_takeFirst_37 : decode cX0_takeFirst 37 = .ok (.iload_n 3, 1) := by decide +kernel
theorem dX0_takeFirst_38 : decode cX0_takeFirst 38 = .ok (.iaload, 1) := by decide +kernel
theorem dX0_takeFirst_39 : decode cX0_takeFirst 39 = .ok (.ishl, 1) := by decide +kernel
theorem dX0_takeFirst_40 : decode cX0_takeFirst 40 = .ok (.ior, 1) := by decide +kernel
theorem dX0_takeFirst_41 : decode cX0_takeFirst 41 = .ok (.istore_n 2, 1) := by decide +kernel
theorem dX0_takeFirst_42 : decode cX0_takeFirst 42 = .ok (.iinc 3 1, 3) := by decide +kernel
theorem dX0_takeFirst_45 : decode cX0_takeFirst 45 = .ok (.goto (-41), 3) := by decide +kernel
theorem dX0_takeFirst_48 : decode cX0_takeFirst 48 = .ok (.return_, 1) := by decide +kernel
theorem dX0_firstFor_0 : decode cX0_firstFor 0 = .ok (.iconst 0, 1) := by decide +kernel
theorem dX0_firstFor_1 : decode cX0_firstFor 1 = .ok (.istore 4, 2) := by decide +kernel
theorem dX0_firstFor_3 : decode cX0_firstFor 3 = .ok (.iload 4, 2) := by decide +kernel
theorem dX0_firstFor_5 : decode cX0_firstFor 5 = .ok (.iload_n 3, 1) := by decide +kernel
theorem dX0_firstFor_6 : decode cX0_firstFor 6 = .ok (.if_icmp .ge 36, 3) := by decide +kernel
theorem dX0_firstFor_9 : decode cX0_firstFor 9 = .ok (.iload_n 1, 1) := by decide +kernel
theorem dX0_firstFor_10 : decode cX0_firstFor 10 = .ok (.iload 4, 2) := by decide +kernel
theorem dX0_firstFor_12 : decode cX0_firstFor 12 = .ok (.ishr, 1) := by decide +kernel
theorem dX0_firstFor_13 : decode cX0_firstFor 13 = .ok (.iconst 1, 1) := by decide +kernel
theorem dX0_firstFor_14 : decode cX0_firstFor 14 = .ok (.iand, 1) := by decide +kernel
theorem dX0_firstFor_15 : decode cX0_firstFor 15 = .ok (.iconst 1, 1) := by decide +kernel
theorem dX0_firstFor_16 : decode cX0_firstFor 16 = .ok (.if_icmp .ne 20, 3) := by decide +kernel
theorem dX0_firstFor_19 : decode cX0_firstFor 19 = .ok (.aload_n 0, 1) := by decide +kernel
theorem dX0_firstFor_20 : decode cX0_firstFor 20 = .ok (.getfield 15, 3) := by decide +kernel
theorem dX0_firstFor_23 : decode cX0_firstFor 23 = .ok (.iload_n 2, 1) := by decide +kernel
theorem dX0_firstFor_24 : decode cX0_firstFor 24 = .ok (.iconst 1, 1) := by decide +kernel
theorem dX0_firstFor_25 : decode cX0_firstFor 25 = .ok (.iload 4, 2) := by decide +kernel
theorem dX0_firstFor_27 : decode cX0_firstFor 27 = .ok (.ishl, 1) := by decide +kernel
theorem dX0_firstFor_28 : decode cX0_firstFor 28 = .ok (.ior, 1) := by decide +kernel
theorem dX0_firstFor_29 : decode cX0_firstFor 29 = .ok (.iaload, 1) := by decide +kernel
theorem dX0_firstFor_30 : decode cX0_firstFor 30 = .ok (.ifCond .le 6, 3) := by decide +kernel
theorem dX0_firstFor_33 : decode cX0_firstFor 33 = .ok (.iload 4, 2) := by decide +kernel
theorem dX0_firstFor_35 : decode cX0_firstFor 35 = .ok (.ireturn, 1) := by decide +kernel
theorem dX0_firstFor_36 : decode cX0_firstFor 36 = .ok (.iinc 4 1, 3) := by decide +kernel
theorem dX0_firstFor_39 : decode cX0_firstFor 39 = .ok (.goto (-36), 3) := by decide +kernel
theorem dX0_firstFor_42 : decode cX0_firstFor 42 = .ok (.iconst 0, 1) := by decide +kernel
theorem dX0_firstFor_43 : decode cX0_firstFor 43 = .ok (.ireturn, 1) := by decide +kernel
theorem dX1_init_0 : decode cX1_init 0 = .ok (.aload_n 0, 1) := by decide +kernel
theorem dX1_init_1 : decode cX1_init 1 = .ok (.invokespecial 3, 3) := by decide +kernel
theorem dX1_init_4 : decode cX1_init 4 = .ok (.aload_n 0, 1) := by decide +kernel
theorem dX1_init_5 : decode cX1_init 5 = .ok (.bipush 7, 2) := by decide +kernel
theorem dX1_init_7 : decode cX1_init 7 = .ok (.iconst 4, 1) := by decide +kernel
theorem dX1_init_8 : decode cX1_init 8 = .ok (.multianewarray 9 2, 4) := by decide +kernel
theorem dX1_init_12 : decode cX1_init 12 = .ok (.putfield 11, 3) := by decide +kernel
theorem dX1_init_15 : decode cX1_init 15 = .ok (.aload_n 0, 1) := by decide +kernel
theorem dX1_init_16 : decode cX1_init 16 = .ok (.bipush 16, 2) := by decide +kernel
theorem dX1_init_18 : decode cX1_init 18 = .ok (.iconst 4, 1) := by decide +kernel
theorem dX1_init_19 : decode cX1_init 19 = .ok (.multianewarray 9 2, 4) := by decide +kernel
theorem dX1_init_23 : decode cX1_init 23 = .ok (.putfield 16, 3) := by decide +kernel
theorem dX1_init_26 : decode cX1_init 26 = .ok (.aload_n 0, 1) := by decide +kernel
theorem dX1_init_27 : decode cX1_init 27 = .ok (.iconst 2, 1) := by decide +kernel
theorem dX1_init_28 : decode cX1_init 28 = .ok (.newarray .int, 2) := by decide +kernel
theorem dX1_init_30 : decode cX1_init 30 = .ok (.dup, 1) := by decide +kernel
theorem dX1_init_31 : decode cX1_init 31 = .ok (.iconst 0, 1) := by decide +kernel
theorem dX1_init_32 : decode cX1_init 32 = .ok (.iconst 2, 1) := by decide +kernel
theorem dX1_init_33 : decode cX1_init 33 = .ok (.iastore, 1) := by decide +kernel
theorem dX1_init_34 : decode cX1_init 34 = .ok (.dup, 1) := by decide +kernel
theorem dX1_init_35 : decode cX1_init 35 = .ok (.iconst 1, 1) := by decide +kernel
theorem dX1_init_36 : decode cX1_init 36 = .ok (.iconst 3, 1) := by decide +kernel
theorem dX1_init_37 : decode cX1_init 37 = .ok (.iastore, 1) := by decide +kernel
theorem dX1_init_38 : decode cX1_init 38 = .ok (.putfield 19, 3) := by decide +kernel
theorem dX1_init_41 : decode cX1_init 41 = .ok (.aload_n 0, 1) := by decide +kernel
theorem dX1_init_42 : decode cX1_init 42 = .ok (.iconst 0, 1) := by decide +kernel
theorem dX1_init_43 : decode cX1_init 43 = .ok (.putfield 23, 3) := by decide +kernel
theorem dX1_init_46 : decode cX1_init 46 = .ok (.aload_n 0, 1) := by decide +kernel
theorem dX1_init_47 : decode cX1_init 47 = .ok (.iconst 0, 1) := by decide +kernel
theorem dX1_init_48 : decode cX1_init 48 = .ok (.putfield 27, 3) := by decide +kernel
theorem dX1_init_51 : decode cX1_init 51 = .ok (.return_, 1) := by decide +kernel
theorem dX1_takeBrides_0 : decode cX1_takeBrides 0 = .ok (.iconst 0, 1) := by decide +kernel
theorem dX1_takeBrides_1 : decode cX1_takeBrides 1 = .ok (.istore_n 3, 1) := by decide +kernel
theorem dX1_takeBrides_2 : decode cX1_takeBrides 2 = .ok (.iload_n 3, 1) := by decide +kernel
theorem dX1_takeBrides_3 : decode cX1_takeBrides 3 = .ok (.iload_n 2, 1) := by decide +kernel
theorem dX1_takeBrides_4 : decode cX1_takeBrides 4 = .ok (.if_icmp .ge 24, 3) := by decide +kernel
theorem dX1_takeBrides_7 : decode cX1_takeBrides 7 = .ok (.aload_n 1, 1) := by decide +kernel
theorem dX1_takeBrides_8 : decode cX1_takeBrides 8 = .ok (.iload_n 3, 1) := by decide +kernel
theorem dX1_takeBrides_9 : decode cX1_takeBrides 9 = .ok (.aaload, 1) := by decide +kernel
theorem dX1_takeBrides_10 : decode cX1_takeBrides 10 = .ok (.iconst 0, 1) := by decide +kernel
theorem dX1_takeBrides_11 : decode cX1_takeBrides 11 = .ok (.aload_n 0, 1) := by decide +kernel
theorem dX1_takeBrides_12 : decode cX1_takeBrides 12 = .ok (.getfield 11, 3) := by decide +kernel
theorem dX1_takeBrides_15 : decode cX1_takeBrides 15 = .ok (.iload_n 3, 1) := by decide +kernel
theorem dX1_takeBrides_16 : decode cX1_takeBrides 16 = .ok (.aaload, 1) := by decide +kernel
theorem dX1_takeBrides_17 : decode cX1_takeBrides 17 = .ok (.iconst 0, 1) := by decide +kernel
theorem dX1_takeBrides_18 : decode cX1_takeBrides 18 = .ok (.iconst 4, 1) := by decide +kernel
theorem dX1_takeBrides_19 : decode cX1_takeBrides 19 = .ok (.invokestatic 30, 3) := by decide +kernel
theorem dX1_takeBrides_22 : decode cX1_takeBrides 22 = .ok (.iinc 3 1, 3) := by decide +kernel
theorem dX1_takeBrides_25 : decode cX1_takeBrides 25 = .ok (.goto (-23), 3) := by decide +kernel
theorem dX1_takeBrides_28 : decode cX1_takeBrides 28 = .ok (.aload_n 0, 1) := by decide +kernel
theorem dX1_takeBrides_29 : decode cX1_takeBrides 29 = .ok (.iload_n 2, 1) := by decide +kernel
theorem dX1_takeBrides_30 : decode cX1_takeBrides 30 = .ok (.putfield 23, 3) := by decide +kernel
theorem dX1_takeBrides_33 : decode cX1_takeBrides 33 = .ok (.return_, 1) := by decide +kernel
theorem dX1_takeShoes_0 : decode cX1_takeShoes 0 = .ok (.iconst 0, 1) := by decide +kernel
theorem dX1_takeShoes_1 : decode cX1_takeShoes 1 = .ok (.istore_n 3, 1) := by decide +kernel
theorem dX1_takeShoes_2 : decode cX1_takeShoes 2 = .ok (.iload_n 3, 1) := by decide +kernel
theorem dX1_takeShoes_3 : decode cX1_takeShoes 3 = .ok (.iload_n 2, 1) := by decide +kernel
theorem dX1_takeShoes_4 : decode cX1_takeShoes 4 = .ok (.if_icmp .ge 24, 3) := by decide +kernel
theorem dX1_takeShoes_7 : decode cX1_takeShoes 7 = .ok (.aload_n 1, 1) := by decide +kernel
theorem dX1_takeShoes_8 : decode cX1_takeShoes 8 = .ok (.iload_n 3, 1) := by decide +kernel
theorem dX1_takeShoes_9 : decode cX1_takeShoes 9 = .ok (.aaload, 1) := by decide +kernel
theorem dX1_takeShoes_10 : decode cX1_takeShoes 10 = .ok (.iconst 0, 1) := by decide +kernel
theorem dX1_takeShoes_11 : decode cX1_takeShoes 11 = .ok (.aload_n 0, 1) := by decide +kernel
theorem dX1_takeShoes_12 : decode cX1_takeShoes 12 = .ok (.getfield 16, 3) := by decide +kernel
theorem dX1_takeShoes_15 : decode cX1_takeShoes 15 = .ok (.iload_n 3, 1) := by decide +kernel
theorem dX1_takeShoes_16 : decode cX1_takeShoes 16 = .ok (.aaload, 1) := by decide +kernel
theorem dX1_takeShoes_17 : decode cX1_takeShoes 17 = .ok (.iconst 0, 1) := by decide +kernel
theorem dX1_takeShoes_18 : decode cX1_takeShoes 18 = .ok (.iconst 4, 1) := by decide +kernel
theorem dX1_takeShoes_19 : decode cX1_takeShoes 19 = .ok (.invokestatic 30, 3) := by decide +kernel
theorem dX1_takeShoes_22 : decode cX1_takeShoes 22 = .ok (.iinc 3 1, 3) := by decide +kernel
theorem dX1_takeShoes_25 : decode cX1_takeShoes 25 = .ok (.goto (-23), 3) := by decide +kernel
theorem dX1_takeShoes_28 : decode cX1_takeShoes 28 = .ok (.aload_n 0, 1) := by decide +kernel
theorem dX1_takeShoes_29 : decode cX1_takeShoes 29 = .ok (.iload_n 2, 1) := by decide +kernel
theorem dX1_takeShoes_30 : decode cX1_takeShoes 30 = .ok (.putfield 27, 3) := by decide +kernel
theorem dX1_takeShoes_33 : decode cX1_takeShoes 33 = .ok (.return_, 1) := by decide +kernel
theorem dX1_takeAll_0 : decode cX1_takeAll 0 = .ok (.aload_n 0, 1) := by decide +kernel
theorem dX1_takeAll_1 : decode cX1_takeAll 1 = .ok (.aload_n 1, 1) := by decide +kernel
theorem dX1_takeAll_2 : decode cX1_takeAll 2 = .ok (.getfield 11, 3) := by decide +kernel
theorem dX1_takeAll_5 : decode cX1_takeAll 5 = .ok (.aload_n 1, 1) := by decide +kernel
theorem dX1_takeAll_6 : decode cX1_takeAll 6 = .ok (.getfield 23, 3) := by decide +kernel
theorem dX1_takeAll_9 : decode cX1_takeAll 9 = .ok (.invokevirtual 36, 3) := by decide +kernel
theorem dX1_takeAll_12 : decode cX1_takeAll 12 = .ok (.aload_n 0, 1) := by decide +kernel
theorem dX1_takeAll_13 : decode cX1_takeAll 13 = .ok (.aload_n 1, 1) := by decide +kernel
theorem dX1_takeAll_14 : decode cX1_takeAll 14 = .ok (.getfield 16, 3) := by decide +kernel
theorem dX1_takeAll_17 : decode cX1_takeAll 17 = .ok (.aload_n 1, 1) := by decide +kernel
theorem dX1_takeAll_18 : decode cX1_takeAll 18 = .ok (.getfield 27, 3) := by decide +kernel
theorem dX1_takeAll_21 : decode cX1_takeAll 21 = .ok (.invokevirtual 40, 3) := by decide +kernel
theorem dX1_takeAll_24 : decode cX1_takeAll 24 = .ok (.aload_n 1, 1) := by decide +kernel
theorem dX1_takeAll_25 : decode cX1_takeAll 25 = .ok (.getfield 19, 3) := by decide +kernel
theorem dX1_takeAll_28 : decode cX1_takeAll 28 = .ok (.iconst 0, 1) := by decide +kernel
theorem dX1_takeAll_29 : decode cX1_takeAll 29 = .ok (.aload_n 0, 1) := by decide +kernel
theorem dX1_takeAll_30 : decode cX1_takeAll 30 = .ok (.getfield 19, 3) := by decide +kernel
theorem dX1_takeAll_33 : decode cX1_takeAll 33 = .ok (.iconst 0, 1) := by decide +kernel
theorem dX1_takeAll_34 : decode cX1_takeAll 34 = .ok (.iconst 2, 1) := by decide +kernel
theorem dX1_takeAll_35 : decode cX1_takeAll 35 = .ok (.invokestatic 30, 3) := by decide +kernel
theorem dX1_takeAll_38 : decode cX1_takeAll 38 = .ok (.return_, 1) := by decide +kernel
theorem dX1_footAt_0 : decode cX1_footAt 0 = .ok (.aload_n 0, 1) := by decide +kernel
theorem dX1_footAt_1 : decode cX1_footAt 1 = .ok (.getfield 11, 3) := by decide +kernel
theorem dX1_footAt_4 : decode cX1_footAt 4 = .ok (.iload_n 1, 1) := by decide +kernel
theorem dX1_footAt_5 : decode cX1_footAt 5 = .ok (.aaload, 1) := by decide +kernel
theorem dX1_footAt_6 : decode cX1_footAt 6 = .ok (.astore 4, 2) := by decide +kernel
theorem dX1_footAt_8 : decode cX1_footAt 8 = .ok (.aload 4, 2) := by decide +kernel
theorem dX1_footAt_10 : decode cX1_footAt 10 = .ok (.iload_n 2, 1) := by decide +kernel
theorem dX1_footAt_11 : decode cX1_footAt 11 = .ok (.ifCond .ne 7, 3) := by decide +kernel
theorem dX1_footAt_14 : decode cX1_footAt 14 = .ok (.iconst 0, 1) := by decide +kernel
theorem dX1_footAt_15 : decode cX1_footAt 15 = .ok (.goto 4, 3) := by decide +kernel
theorem dX1_footAt_18 : decode cX1_footAt 18 = .ok (.iconst 1, 1) := by decide +kernel
theorem dX1_footAt_19 : decode cX1_footAt 19 = .ok (.iaload, 1) := by decide +kernel
theorem dX1_footAt_20 : decode cX1_footAt 20 = .ok (.iload_n 3, 1) := by decide +kernel
theorem dX1_footAt_21 : decode cX1_footAt 21 = .ok (.aload 4, 2) := by decide +kernel
theorem dX1_footAt_23 : decode cX1_footAt 23 = .ok (.iconst 2, 1) := by decide +kernel
theorem dX1_footAt_24 : decode cX1_footAt 24 = .ok (.iaload, 1) := by decide +kernel
theorem dX1_footAt_25 : decode cX1_footAt 25 = .ok (.imul, 1) := by decide +kernel
theorem dX1_footAt_26 : decode cX1_footAt 26 = .ok (.iconst 4, 1) := by decide +kernel
theorem dX1_footAt_27 : decode cX1_footAt 27 = .ok (.idiv, 1) := by decide +kernel
theorem dX1_footAt_28 : decode cX1_footAt 28 = .ok (.iadd, 1) := by decide +kernel
theorem dX1_footAt_29 : decode cX1_footAt 29 = .ok (.ireturn, 1) := by decide +kernel
theorem dX1_looseFor_0 : decode cX1_looseFor 0 = .ok (.iload_n 1, 1) := by decide +kernel
theorem dX1_looseFor_1 : decode cX1_looseFor 1 = .ok (.iconst 1, 1) := by decide +kernel
theorem dX1_looseFor_2 : decode cX1_looseFor 2 = .ok (.if_icmp .ne 7, 3) := by decide +kernel
theorem dX1_looseFor_5 : decode cX1_looseFor 5 = .ok (.iconst 0, 1) := by decide +kernel
theorem dX1_looseFor_6 : decode cX1_looseFor 6 = .ok (.goto 9, 3) := by decide +kernel
theorem dX1_looseFor_9 : decode cX1_looseFor 9 = .ok (.aload_n 0, 1) := by decide +kernel
theorem dX1_looseFor_10 : decode cX1_looseFor 10 = .ok (.getfield 19, 3) := by decide +kernel
theorem dX1_looseFor_13 : decode cX1_looseFor 13 = .ok (.iconst 0, 1) := by decide +kernel
theorem dX1_looseFor_14 : decode cX1_looseFor 14 = .ok (.iaload, 1) := by decide +kernel
theorem dX1_looseFor_15 : decode cX1_looseFor 15 = .ok (.ireturn, 1) := by decide +kernel
theorem dX1_leastOut_0 : decode cX1_leastOut 0 = .ok (.aload_n 0, 1) := by decide +kernel
theorem dX1_leastOut_1 : decode cX1_leastOut 1 = .ok (.getfield 16, 3) := by decide +kernel
theorem dX1_leastOut_4 : decode cX1_leastOut 4 = .ok (.iload_n 1, 1) := by decide +kernel
theorem dX1_leastOut_5 : decode cX1_leastOut 5 = .ok (.aaload, 1) := by decide +kernel
theorem dX1_leastOut_6 : decode cX1_leastOut 6 = .ok (.astore 4, 2) := by decide +kernel
theorem dX1_leastOut_8 : decode cX1_leastOut 8 = .ok (.aload 4, 2) := by decide +kernel
theorem dX1_leastOut_10 : decode cX1_leastOut 10 = .ok (.iconst 1, 1) := by decide +kernel
theorem dX1_leastOut_11 : decode cX1_leastOut 11 = .ok (.iaload, 1) := by decide +kernel
theorem dX1_leastOut_12 : decode cX1_leastOut 12 = .ok (.istore 5, 2) := by decide +kernel
theorem dX1_leastOut_14 : decode cX1_leastOut 14 = .ok (.aload 4, 2) := by decide +kernel
theorem dX1_leastOut_16 : decode cX1_leastOut 16 = .ok (.iconst 2, 1) := by decide +kernel
theorem dX1_leastOut_17 : decode cX1_leastOut 17 = .ok (.iaload, 1) := by decide +kernel
theorem dX1_leastOut_18 : decode cX1_leastOut 18 = .ok (.istore 6, 2) := by decide +kernel
theorem dX1_leastOut_20 : decode cX1_leastOut 20 = .ok (.aload_n 0, 1) := by decide +kernel
theorem dX1_leastOut_21 : decode cX1_leastOut 21 = .ok (.iload_n 2, 1) := by decide +kernel
theorem dX1_leastOut_22 : decode cX1_leastOut 22 = .ok (.aload 4, 2) := by decide +kernel
theorem dX1_leastOut_24 : decode cX1_leastOut 24 = .ok (.iconst 0, 1) := by decide +kernel
theorem dX1_leastOut_25 : decode cX1_leastOut 25 = .ok (.iaload, 1) := by decide +kernel
theorem dX1_leastOut_26 : decode cX1_leastOut 26 = .ok (.iload_n 3, 1) := by decide +kernel
theorem dX1_leastOut_27 : decode cX1_leastOut 27 = .ok (.invokevirtual 43, 3) := by decide +kernel
theorem dX1_leastOut_30 : decode cX1_leastOut 30 = .ok (.istore 7, 2) := by decide +kernel
theorem dX1_leastOut_32 : decode cX1_leastOut 32 = .ok (.iconst 0, 1) := by decide +kernel
theorem dX1_leastOut_33 : decode cX1_leastOut 33 = .ok (.iload 7, 2) := by decide +kernel
theorem dX1_leastOut_35 : decode cX1_leastOut 35 = .ok (.getstatic 47, 3) := by decide +kernel
theorem dX1_leastOut_38 : decode cX1_leastOut 38 = .ok (.iload 6, 2) := by decide +kernel
theorem dX1_leastOut_40 : decode cX1_leastOut 40 = .ok (.iaload, 1) := by decide +kernel
theorem dX1_leastOut_41 : decode cX1_leastOut 41 = .ok (.isub, 1) := by decide +kernel
theorem dX1_leastOut_42 : decode cX1_leastOut 42 = .ok (.iload 5, 2) := by decide +kernel
theorem dX1_leastOut_44 : decode cX1_leastOut 44 = .ok (.isub, 1) := by decide +kernel
theorem dX1_leastOut_45 : decode cX1_leastOut 45 = .ok (.invokestatic 50, 3) := by decide +kernel
theorem dX1_leastOut_48 : decode cX1_leastOut 48 = .ok (.istore 8, 2) := by decide +kernel
theorem dX1_leastOut_50 : decode cX1_leastOut 50 = .ok (.iload 8, 2) := by decide +kernel
theorem dX1_leastOut_52 : decode cX1_leastOut 52 = .ok (.aload_n 0, 1) := by decide +kernel
theorem dX1_leastOut_53 : decode cX1_leastOut 53 = .ok (.getfield 19, 3) := by decide +kernel
theorem dX1_leastOut_56 : decode cX1_leastOut 56 = .ok (.iconst 1, 1) := by decide +kernel
theorem dX1_leastOut_57 : decode cX1_leastOut 57 = .ok (.iaload, 1) := by decide +kernel
theorem dX1_leastOut_58 : decode cX1_leastOut 58 = .ok (.getstatic 56, 3) := by decide +kernel
theorem dX1_leastOut_61 : decode cX1_leastOut 61 = .ok (.iload 6, 2) := by decide +kernel
theorem dX1_leastOut_63 : decode cX1_leastOut 63 = .ok (.iaload, 1) := by decide +kernel
theorem dX1_leastOut_64 : decode cX1_leastOut 64 = .ok (.invokestatic 59, 3) := by decide +kernel
theorem dX1_leastOut_67 : decode cX1_leastOut 67 = .ok (.if_icmp .gt 24, 3) := by decide +kernel
theorem dX1_leastOut_70 : decode cX1_leastOut 70 = .ok (.iload 5, 2) := by decide +kernel
theorem dX1_leastOut_72 : decode cX1_leastOut 72 = .ok (.iload 8, 2) := by decide +kernel
theorem dX1_leastOut_74 : decode cX1_leastOut 74 = .ok (.iadd, 1) := by decide +kernel
theorem dX1_leastOut_75 : decode cX1_leastOut 75 = .ok (.iload 7, 2) := by decide +kernel
theorem dX1_leastOut_77 : decode cX1_leastOut 77 = .ok (.aload_n 0, 1) := by decide +kernel
theorem dX1_leastOut_78 : decode cX1_leastOut 78 = .ok (.iload 6, 2) := by decide +kernel
theorem dX1_leastOut_80 : decode cX1_leastOut 80 = .ok (.invokevirtual 62, 3) := by decide +kernel
theorem dX1_leastOut_83 : decode cX1_leastOut 83 = .ok (.iadd, 1) := by decide +kernel
theorem dX1_leastOut_84 : decode cX1_leastOut 84 = .ok (.if_icmp .gt 7, 3) := by decide +kernel
theorem dX1_leastOut_87 : decode cX1_leastOut 87 = .ok (.iconst 1, 1) := by decide +kernel
theorem dX1_leastOut_88 : decode cX1_leastOut 88 = .ok (.goto 4, 3) := by decide +kernel
theorem dX1_leastOut_91 : decode cX1_leastOut 91 = .ok (.iconst 0, 1) := by decide +kernel
theorem dX1_leastOut_92 : decode cX1_leastOut 92 = .ok (.istore 9, 2) := by decide +kernel
theorem dX1_leastOut_94 : decode cX1_leastOut 94 = .ok (.iload 9, 2) := by decide +kernel
theorem dX1_leastOut_96 : decode cX1_leastOut 96 = .ok (.ifCond .eq 8, 3) := by decide +kernel
theorem dX1_leastOut_99 : decode cX1_leastOut 99 = .ok (.iload 8, 2) := by decide +kernel
theorem dX1_leastOut_101 : decode cX1_leastOut 101 = .ok (.goto 5, 3) := by decide +kernel
theorem dX1_leastOut_104 : decode cX1_leastOut 104 = .ok (.bipush (-4), 2) := by decide +kernel
theorem dX1_leastOut_106 : decode cX1_leastOut 106 = .ok (.ireturn, 1) := by decide +kernel
theorem dX1_limpOf_0 : decode cX1_limpOf 0 = .ok (.aload_n 0, 1) := by decide +kernel
theorem dX1_limpOf_1 : decode cX1_limpOf 1 = .ok (.getfield 16, 3) := by decide +kernel
theorem dX1_limpOf_4 : decode cX1_limpOf 4 = .ok (.iload_n 2, 1) := by decide +kernel
theorem dX1_limpOf_5 : decode cX1_limpOf 5 = .ok (.aaload, 1) := by decide +kernel
theorem dX1_limpOf_6 : decode cX1_limpOf 6 = .ok (.astore 4, 2) := by decide +kernel
theorem dX1_limpOf_8 : decode cX1_limpOf 8 = .ok (.aload 4, 2) := by decide +kernel
theorem dX1_limpOf_10 : decode cX1_limpOf 10 = .ok (.iconst 1, 1) := by decide +kernel
theorem dX1_limpOf_11 : decode cX1_limpOf 11 = .ok (.iaload, 1) := by decide +kernel
theorem dX1_limpOf_12 : decode cX1_limpOf 12 = .ok (.istore 5, 2) := by decide +kernel
theorem dX1_limpOf_14 : decode cX1_limpOf 14 = .ok (.aload_n 0, 1) := by decide +kernel
theorem dX1_limpOf_15 : decode cX1_limpOf 15 = .ok (.iload_n 1, 1) := by decide +kernel
theorem dX1_limpOf_16 : decode cX1_limpOf 16 = .ok (.aload 4, 2) := by decide +kernel
theorem dX1_limpOf_18 : decode cX1_limpOf 18 = .ok (.iconst 0, 1) := by decide +kernel
theorem dX1_limpOf_19 : decode cX1_limpOf 19 = .ok (.iaload, 1) := by decide +kernel
theorem dX1_limpOf_20 : decode cX1_limpOf 20 = .ok (.iload_n 3, 1) := by decide +kernel
theorem dX1_limpOf_21 : decode cX1_limpOf 21 = .ok (.invokevirtual 43, 3) := by decide +kernel
theorem dX1_limpOf_24 : decode cX1_limpOf 24 = .ok (.istore 6, 2) := by decide +kernel
theorem dX1_limpOf_26 : decode cX1_limpOf 26 = .ok (.iload 6, 2) := by decide +kernel
theorem dX1_limpOf_28 : decode cX1_limpOf 28 = .ok (.aload_n 0, 1) := by decide +kernel
theorem dX1_limpOf_29 : decode cX1_limpOf 29 = .ok (.aload 4, 2) := by decide +kernel
theorem dX1_limpOf_31 : decode cX1_limpOf 31 = .ok (.iconst 2, 1) := by decide +kernel
theorem dX1_limpOf_32 : decode cX1_limpOf 32 = .ok (.iaload, 1) := by decide +kernel
theorem dX1_limpOf_33 : decode cX1_limpOf 33 = .ok (.invokevirtual 62, 3) := by decide +kernel
theorem dX1_limpOf_36 : decode cX1_limpOf 36 = .ok (.iadd, 1) := by decide +kernel
theorem dX1_limpOf_37 : decode cX1_limpOf 37 = .ok (.istore 7, 2) := by decide +kernel
theorem dX1_limpOf_39 : decode cX1_limpOf 39 = .ok (.iload 6, 2) := by decide +kernel
theorem dX1_limpOf_41 : decode cX1_limpOf 41 = .ok (.getstatic 47, 3) := by decide +kernel
theorem dX1_limpOf_44 : decode cX1_limpOf 44 = .ok (.aload 4, 2) := by decide +kernel
theorem dX1_limpOf_46 : decode cX1_limpOf 46 = .ok (.iconst 2, 1) := by decide +kernel
theorem dX1_limpOf_47 : decode cX1_limpOf 47 = .ok (.iaload, 1) := by decide +kernel
theorem dX1_limpOf_48 : decode cX1_limpOf 48 = .ok (.iaload, 1) := by decide +kernel
theorem dX1_limpOf_49 : decode cX1_limpOf 49 = .ok (.isub, 1) := by decide +kernel
theorem dX1_limpOf_50 : decode cX1_limpOf 50 = .ok (.istore 8, 2) := by decide +kernel
theorem dX1_limpOf_52 : decode cX1_limpOf 52 = .ok (.iload 5, 2) := by decide +kernel
theorem dX1_limpOf_54 : decode cX1_limpOf 54 = .ok (.iload 7, 2) := by decide +kernel
theorem dX1_limpOf_56 : decode cX1_limpOf 56 = .ok (.if_icmp .le 9, 3) := by decide +kernel
theorem dX1_limpOf_59 : decode cX1_limpOf 59 = .ok (.iload 5, 2) := by decide +kernel
theorem dX1_limpOf_61 : decode cX1_limpOf 61 = .ok (.iload 7, 2) := by decide +kernel
theorem dX1_limpOf_63 : decode cX1_limpOf 63 = .ok (.isub, 1) := by decide +kernel
theorem dX1_limpOf_64 : decode cX1_limpOf 64 = .ok (.ireturn, 1) := by decide +kernel
theorem dX1_limpOf_65 : decode cX1_limpOf 65 = .ok (.iload 5, 2) := by decide +kernel
theorem dX1_limpOf_67 : decode cX1_limpOf 67 = .ok (.iload 8, 2) := by decide +kernel
theorem dX1_limpOf_69 : decode cX1_limpOf 69 = .ok (.if_icmp .ge 11, 3) := by decide +kernel
theorem dX1_limpOf_72 : decode cX1_limpOf 72 = .ok (.iload 5, 2) := by decide +kernel
theorem dX1_limpOf_74 : decode cX1_limpOf 74 = .ok (.iload 8, 2) := by decide +kernel
theorem dX1_limpOf_76 : decode cX1_limpOf 76 = .ok (.isub, 1) := by decide +kernel
theorem dX1_limpOf_77 : decode cX1_limpOf 77 = .ok (.goto 4, 3) := by decide +kernel
theorem dX1_limpOf_80 : decode cX1_limpOf 80 = .ok (.iconst 0, 1) := by decide +kernel
theorem dX1_limpOf_81 : decode cX1_limpOf 81 = .ok (.ireturn, 1) := by decide +kernel
theorem dX1_isThere_0 : decode cX1_isThere 0 = .ok (.aload_n 0, 1) := by decide +kernel
theorem dX1_isThere_1 : decode cX1_isThere 1 = .ok (.getfield 16, 3) := by decide +kernel
theorem dX1_isThere_4 : decode cX1_isThere 4 = .ok (.iload_n 1, 1) := by decide +kernel
theorem dX1_isThere_5 : decode cX1_isThere 5 = .ok (.aaload, 1) := by decide +kernel
theorem dX1_isThere_6 : decode cX1_isThere 6 = .ok (.iconst 0, 1) := by decide +kernel
theorem dX1_isThere_7 : decode cX1_isThere 7 = .ok (.iaload, 1) := by decide +kernel
theorem dX1_isThere_8 : decode cX1_isThere 8 = .ok (.iload_n 2, 1) := by decide +kernel
theorem dX1_isThere_9 : decode cX1_isThere 9 = .ok (.if_icmp .ne 18, 3) := by decide +kernel
theorem dX1_isThere_12 : decode cX1_isThere 12 = .ok (.aload_n 0, 1) := by decide +kernel
theorem dX1_isThere_13 : decode cX1_isThere 13 = .ok (.getfield 16, 3) := by decide +kernel
theorem dX1_isThere_16 : decode cX1_isThere 16 = .ok (.iload_n 1, 1) := by decide +kernel
theorem dX1_isThere_17 : decode cX1_isThere 17 = .ok (.aaload, 1) := by decide +kernel
theorem dX1_isThere_18 : decode cX1_isThere 18 = .ok (.iconst 3, 1) := by decide +kernel
theorem dX1_isThere_19 : decode cX1_isThere 19 = .ok (.iaload, 1) := by decide +kernel
theorem dX1_isThere_20 : decode cX1_isThere 20 = .ok (.ifCond .ne 7, 3) := by decide +kernel
theorem dX1_isThere_23 : decode cX1_isThere 23 = .ok (.iconst 1, 1) := by decide +kernel
theorem dX1_isThere_24 : decode cX1_isThere 24 = .ok (.goto 4, 3) := by decide +kernel
theorem dX1_isThere_27 : decode cX1_isThere 27 = .ok (.iconst 0, 1) := by decide +kernel
theorem dX1_isThere_28 : decode cX1_isThere 28 = .ok (.ireturn, 1) := by decide +kernel
theorem dX1_shoesThere_0 : decode cX1_shoesThere 0 = .ok (.iconst 0, 1) := by decide +kernel
theorem dX1_shoesThere_1 : decode cX1_shoesThere 1 = .ok (.istore_n 2, 1) := by decide +kernel
theorem dX1_shoesThere_2 : decode cX1_shoesThere 2 = .ok (.iconst 0, 1) := by decide +kernel
theorem dX1_shoesThere_3 : decode cX1_shoesThere 3 = .ok (.istore_n 3, 1) := by decide +kernel
theorem dX1_shoesThere_4 : decode cX1_shoesThere 4 = .ok (.iload_n 3, 1) := by decide +kernel
theorem dX1_shoesThere_5 : decode cX1_shoesThere 5 = .ok (.aload_n 0, 1) := by decide +kernel
theorem dX1_shoesThere_6 : decode cX1_shoesThere 6 = .ok (.getfield 27, 3) := by decide +kernel
theorem dX1_shoesThere_9 : decode cX1_shoesThere 9 = .ok (.if_icmp .ge 21, 3) := by decide +kernel
theorem dX1_shoesThere_12 : decode cX1_shoesThere 12 = .ok (.aload_n 0, 1) := by decide +kernel
theorem dX1_shoesThere_13 : decode cX1_shoesThere 13 = .ok (.iload_n 3, 1) := by decide +kernel
theorem dX1_shoesThere_14 : decode cX1_shoesThere 14 = .ok (.iload_n 1, 1) := by decide +kernel
theorem dX1_shoesThere_15 : decode cX1_shoesThere 15 = .ok (.invokevirtual 66, 3) := by decide +kernel
theorem dX1_shoesThere_18 : decode cX1_shoesThere 18 = .ok (.ifCond .eq 6, 3) := by decide +kernel
theorem dX1_shoesThere_21 : decode cX1_shoesThere 21 = .ok (.iinc 2 1, 3) := by decide +kernel
theorem dX1_shoesThere_24 : decode cX1_shoesThere 24 = .ok (.iinc 3 1, 3) := by decide +kernel
theorem dX1_shoesThere_27 : decode cX1_shoesThere 27 = .ok (.goto (-23), 3) := by decide +kernel
theorem dX1_shoesThere_30 : decode cX1_shoesThere 30 = .ok (.iload_n 2, 1) := by decide +kernel
theorem dX1_shoesThere_31 : decode cX1_shoesThere 31 = .ok (.ireturn, 1) := by decide +kernel
theorem dX2_init_0 : decode cX2_init 0 = .ok (.aload_n 0, 1) := by decide +kernel
theorem dX2_init_1 : decode cX2_init 1 = .ok (.invokespecial 3, 3) := by decide +kernel
theorem dX2_init_4 : decode cX2_init 4 = .ok (.aload_n 0, 1) := by decide +kernel
theorem dX2_init_5 : decode cX2_init 5 = .ok (.iconst 0, 1) := by decide +kernel
theorem dX2_init_6 : decode cX2_init 6 = .ok (.putfield 9, 3) := by decide +kernel
theorem dX2_init_9 : decode cX2_init 9 = .ok (.aload_n 0, 1) := by decide +kernel
theorem dX2_init_10 : decode cX2_init 10 = .ok (.bipush 14, 2) := by decide +kernel
theorem dX2_init_12 : decode cX2_init 12 = .ok (.bipush 7, 2) := by decide +kernel
theorem dX2_init_14 : decode cX2_init 14 = .ok (.multianewarray 15 2, 4) := by decide +kernel
theorem dX2_init_18 : decode cX2_init 18 = .ok (.putfield 17, 3) := by decide +kernel
theorem dX2_init_21 : decode cX2_init 21 = .ok (.aload_n 0, 1) := by decide +kernel
theorem dX2_init_22 : decode cX2_init 22 = .ok (.bipush 14, 2) := by decide +kernel
theorem dX2_init_24 : decode cX2_init 24 = .ok (.bipush 7, 2) := by decide +kernel
theorem dX2_init_26 : decode cX2_init 26 = .ok (.multianewarray 15 2, 4) := by decide +kernel
theorem dX2_init_30 : decode cX2_init 30 = .ok (.putfield 20, 3) := by decide +kernel
theorem dX2_init_33 : decode cX2_init 33 = .ok (.aload_n 0, 1) := by decide +kernel
theorem dX2_init_34 : decode cX2_init 34 = .ok (.bipush 7, 2) := by decide +kernel
theorem dX2_init_36 : decode cX2_init 36 = .ok (.newarray .int, 2) := by decide +kernel
theorem dX2_init_38 : decode cX2_init 38 = .ok (.putfield 23, 3) := by decide +kernel
theorem dX2_init_41 : decode cX2_init 41 = .ok (.aload_n 0, 1) := by decide +kernel
theorem dX2_init_42 : decode cX2_init 42 = .ok (.bipush 7, 2) := by decide +kernel
theorem dX2_init_44 : decode cX2_init 44 = .ok (.newarray .int, 2) := by decide +kernel
theorem dX2_init_46 : decode cX2_init 46 = .ok (.putfield 27, 3) := by decide +kernel
theorem dX2_init_49 : decode cX2_init 49 = .ok (.aload_n 0, 1) := by decide +kernel
theorem dX2_init_50 : decode cX2_init 50 = .ok (.bipush 7, 2) := by decide +kernel
theorem dX2_init_52 : decode cX2_init 52 = .ok (.newarray .int, 2) := by decide +kernel
theorem dX2_init_54 : decode cX2_init 54 = .ok (.putfield 30, 3) := by decide +kernel
theorem dX2_init_57 : decode cX2_init 57 = .ok (.return_, 1) := by decide +kernel
theorem dX2_read_0 : decode cX2_read 0 = .ok (.aload_n 0, 1) := by decide +kernel
theorem dX2_read_1 : decode cX2_read 1 = .ok (.iload_n 3, 1) := by decide +kernel
theorem dX2_read_2 : decode cX2_read 2 = .ok (.putfield 9, 3) := by decide +kernel
theorem dX2_read_5 : decode cX2_read 5 = .ok (.iconst 0, 1) := by decide +kernel
theorem dX2_read_6 : decode cX2_read 6 = .ok (.istore 4, 2) := by decide +kernel
theorem dX2_read_8 : decode cX2_read 8 = .ok (.iload 4, 2) := by decide +kernel
theorem dX2_read_10 : decode cX2_read 10 = .ok (.iconst 2, 1) := by decide +kernel
theorem dX2_read_11 : decode cX2_read 11 = .ok (.aload_n 0, 1) := by decide +kernel
theorem dX2_read_12 : decode cX2_read 12 = .ok (.getfield 9, 3) := by decide +kernel
theorem dX2_read_15 : decode cX2_read 15 = .ok (.imul, 1) := by decide +kernel
theorem dX2_read_16 : decode cX2_read 16 = .ok (.if_icmp .ge 42, 3) := by decide +kernel
theorem dX2_read_19 : decode cX2_read 19 = .ok (.aload_n 0, 1) := by decide +kernel
theorem dX2_read_20 : decode cX2_read 20 = .ok (.aload_n 1, 1) := by decide +kernel
theorem dX2_read_21 : decode cX2_read 21 = .ok (.iload_n 2, 1) := by decide +kernel
theorem dX2_read_22 : decode cX2_read 22 = .ok (.iload 4, 2) := by decide +kernel
theorem dX2_read_24 : decode cX2_read 24 = .ok (.aload_n 0, 1) := by decide +kernel
theorem dX2_read_25 : decode cX2_read 25 = .ok (.getfield 9, 3) := by decide +kernel
theorem dX2_read_28 : decode cX2_read 28 = .ok (.imul, 1) := by decide +kernel
theorem dX2_read_29 : decode cX2_read 29 = .ok (.iadd, 1) := by decide +kernel
theorem dX2_read_30 : decode cX2_read 30 = .ok (.aload_n 0, 1) := by decide +kernel
theorem dX2_read_31 : decode cX2_read 31 = .ok (.getfield 17, 3) := by decide +kernel
theorem dX2_read_34 : decode cX2_read 34 = .ok (.iload 4, 2) := by decide +kernel
theorem dX2_read_36 : decode cX2_read 36 = .ok (.aaload, 1) := by decide +kernel
theorem dX2_read_37 : decode cX2_read 37 = .ok (.aload_n 0, 1) := by decide +kernel
theorem dX2_read_38 : decode cX2_read 38 = .ok (.getfield 20, 3) := by decide +kernel
theorem dX2_read_41 : decode cX2_read 41 = .ok (.iload 4, 2) := by decide +kernel
theorem dX2_read_43 : decode cX2_read 43 = .ok (.aaload, 1) := by decide +kernel
theorem dX2_read_44 : decode cX2_read 44 = .ok (.invokevirtual 33, 3) := by decide +kernel
theorem dX2_read_47 : decode cX2_read 47 = .ok (.ifCond .ne 5, 3) := by decide +kernel
theorem dX2_read_50 : decode cX2_read 50 = .ok (.iconst 0, 1) := by decide +kernel
theorem dX2_read_51 : decode cX2_read 51 = .ok (.ireturn, 1) := by decide +kernel
theorem dX2_read_52 : decode cX2_read 52 = .ok (.iinc 4 1, 3) := by decide +kernel
theorem dX2_read_55 : decode cX2_read 55 = .ok (.goto (-47), 3) := by decide +kernel
theorem dX2_read_58 : decode cX2_read 58 = .ok (.iconst 1, 1) := by decide +kernel
theorem dX2_read_59 : decode cX2_read 59 = .ok (.ireturn, 1) := by decide +kernel
theorem dX2_readPairs_0 : decode cX2_readPairs 0 = .ok (.aload_n 0, 1) := by decide +kernel
theorem dX2_readPairs_1 : decode cX2_readPairs 1 = .ok (.aload_n 1, 1) := by decide +kernel
theorem dX2_readPairs_2 : decode cX2_readPairs 2 = .ok (.iconst 0, 1) := by decide +kernel
theorem dX2_readPairs_3 : decode cX2_readPairs 3 = .ok (.aload_n 0, 1) := by decide +kernel
theorem dX2_readPairs_4 : decode cX2_readPairs 4 = .ok (.getfield 23, 3) := by decide +kernel
theorem dX2_readPairs_7 : decode cX2_readPairs 7 = .ok (.aload_n 0, 1) := by decide +kernel
theorem dX2_readPairs_8 : decode cX2_readPairs 8 = .ok (.getfield 27, 3) := by decide +kernel
theorem dX2_readPairs_11 : decode cX2_readPairs 11 = .ok (.invokevirtual 33, 3) := by decide +kernel
theorem dX2_readPairs_14 : decode cX2_readPairs 14 = .ok (.ireturn, 1) := by decide +kernel
theorem dX2_readRow_0 : decode cX2_readRow 0 = .ok (.iconst 0, 1) := by decide +kernel
theorem dX2_readRow_1 : decode cX2_readRow 1 = .ok (.istore 5, 2) := by decide +kernel
theorem dX2_readRow_3 : decode cX2_readRow 3 = .ok (.iconst 0, 1) := by decide +kernel
theorem dX2_readRow_4 : decode cX2_readRow 4 = .ok (.istore 6, 2) := by decide +kernel
theorem dX2_readRow_6 : decode cX2_readRow 6 = .ok (.iload 6, 2) := by decide +kernel
theorem dX2_readRow_8 : decode cX2_readRow 8 = .ok (.aload_n 0, 1) := by decide +kernel
theorem dX2_readRow_9 : decode cX2_readRow 9 = .ok (.getfield 9, 3) := by decide +kernel
theorem dX2_readRow_12 : decode cX2_readRow 12 = .ok (.if_icmp .ge 67, 3) := by decide +kernel
theorem dX2_readRow_15 : decode cX2_readRow 15 = .ok (.aload_n 1, 1) := by decide +kernel
theorem dX2_readRow_16 : decode cX2_readRow 16 = .ok (.iload_n 2, 1) := by decide +kernel
theorem dX2_readRow_17 : decode cX2_readRow 17 = .ok (.iload 6, 2) := by decide +kernel
theorem dX2_readRow_19 : decode cX2_readRow 19 = .ok (.iadd, 1) := by decide +kernel
theorem dX2_readRow_20 : decode cX2_readRow 20 = .ok (.iaload, 1) := by decide +kernel
theorem dX2_readRow_21 : decode cX2_readRow 21 = .ok (.istore 7, 2) := by decide +kernel
theorem dX2_readRow_23 : decode cX2_readRow 23 = .ok (.iload 7, 2) := by decide +kernel
theorem dX2_readRow_25 : decode cX2_readRow 25 = .ok (.iconst 0, 1) := by decide +kernel
theorem dX2_readRow_26 : decode cX2_readRow 26 = .ok (.aload_n 0, 1) := by decide +kernel
theorem dX2_readRow_27 : decode cX2_readRow 27 = .ok (.getfield 9, 3) := by decide +kernel
theorem dX2_readRow_30 : decode cX2_readRow 30 = .ok (.iconst 1, 1) := by decide +kernel
theorem dX2_readRow_31 : decode cX2_readRow 31 = .ok (.isub, 1) := by decide +kernel
theorem dX2_readRow_32 : decode cX2_readRow 32 = .ok (.invokestatic 37, 3) := by decide +kernel
theorem dX2_readRow_35 : decode cX2_readRow 35 = .ok (.ifCond .eq 14, 3) := by decide +kernel
theorem dX2_readRow_38 : decode cX2_readRow 38 = .ok (.iload 5, 2) := by decide +kernel
theorem dX2_readRow_40 : decode cX2_readRow 40 = .ok (.iload 7, 2) := by decide +kernel
theorem dX2_readRow_42 : decode cX2_readRow 42 = .ok (.ishr, 1) := by decide +kernel
theorem dX2_readRow_43 : decode cX2_readRow 43 = .ok (.iconst 1, 1) := by decide +kernel
theorem dX2_readRow_44 : decode cX2_readRow 44 = .ok (.iand, 1) := by decide +kernel
theorem dX2_readRow_45 : decode cX2_readRow 45 = .ok (.iconst 1, 1) := by decide +kernel
theorem dX2_readRow_46 : decode cX2_readRow 46 = .ok (.if_icmp .ne 5, 3) := by decide +kernel
theorem dX2_readRow_49 : decode cX2_readRow 49 = .ok (.iconst 0, 1) := by decide +kernel
theorem dX2_readRow_50 : decode cX2_readRow 50 = .ok (.ireturn, 1) := by decide +kernel
theorem dX2_readRow_51 : decode cX2_readRow 51 = .ok (.iload 5, 2) := by decide +kernel
theorem dX2_readRow_53 : decode cX2_readRow 53 = .ok (.iconst 1, 1) := by decide +kernel
theorem dX2_readRow_54 : decode cX2_readRow 54 = .ok (.iload 7, 2) := by decide +kernel
theorem dX2_readRow_56 : decode cX2_readRow 56 = .ok (.ishl, 1) := by decide +kernel
theorem dX2_readRow_57 : decode cX2_readRow 57 = .ok (.ior, 1) := by decide +kernel
theorem dX2_readRow_58 : decode cX2_readRow 58 = .ok (.istore 5, 2) := by decide +kernel
theorem dX2_readRow_60 : decode cX2_readRow 60 = .ok (.aload_n 3, 1) := by decide +kernel
theorem dX2_readRow_61 : decode cX2_readRow 61 = .ok (.iload 6, 2) := by decide +kernel
theorem dX2_readRow_63 : decode cX2_readRow 63 = .ok (.iload 7, 2) := by decide +kernel
theorem dX2_readRow_65 : decode cX2_readRow 65 = .ok (.iastore, 1) := by decide +kernel
theorem dX2_readRow_66 : decode cX2_readRow 66 = .ok (.aload 4, 2) := by decide +kernel
theorem dX2_readRow_68 : decode cX2_readRow 68 = .ok (.iload 7, 2) := by decide +kernel
theorem dX2_readRow_70 : decode cX2_readRow 70 = .ok (.iload 6, 2) := by decide +kernel
theorem dX2_readRow_72 : decode cX2_readRow 72 = .ok (.iastore, 1) := by decide +kernel
theorem dX2_readRow_73 : decode cX2_readRow 73 = .ok (.iinc 6 1, 3) := by decide +kernel
theorem dX2_readRow_76 : decode cX2_readRow 76 = .ok (.goto (-70), 3) := by decide +kernel
theorem dX2_readRow_79 : decode cX2_readRow 79 = .ok (.iconst 1, 1) := by decide +kernel
theorem dX2_readRow_80 : decode cX2_readRow 80 = .ok (.ireturn, 1) := by decide +kernel
theorem dX2_pairByBrides_0 : decode cX2_pairByBrides 0 = .ok (.aload_n 0, 1) := by decide +kernel
theorem dX2_pairByBrides_1 : decode cX2_pairByBrides 1 = .ok (.getfield 23, 3) := by decide +kernel
theorem dX2_pairByBrides_4 : decode cX2_pairByBrides 4 = .ok (.iconst (-1), 1) := by decide +kernel
theorem dX2_pairByBrides_5 : decode cX2_pairByBrides 5 = .ok (.invokestatic 41, 3) := by decide +kernel
theorem dX2_pairByBrides_8 : decode cX2_pairByBrides 8 = .ok (.aload_n 0, 1) := by decide +kernel
theorem dX2_pairByBrides_9 : decode cX2_pairByBrides 9 = .ok (.getfield 27, 3) := by decide +kernel
theorem dX2_pairByBrides_12 : decode cX2_pairByBrides 12 = .ok (.iconst (-1), 1) := by decide +kernel
theorem dX2_pairByBrides_13 : decode cX2_pairByBrides 13 = .ok (.invokestatic 41, 3) := by decide +kernel
theorem dX2_pairByBrides_16 : decode cX2_pairByBrides 16 = .ok (.aload_n 0, 1) := by decide +kernel
theorem dX2_pairByBrides_17 : decode cX2_pairByBrides 17 = .ok (.getfield 30, 3) := by decide +kernel
theorem dX2_pairByBrides_20 : decode cX2_pairByBrides 20 = .ok (.iconst 0, 1) := by decide +kernel
theorem dX2_pairByBrides_21 : decode cX2_pairByBrides 21 = .ok (.invokestatic 41, 3) := by decide +kernel
theorem dX2_pairByBrides_24 : decode cX2_pairByBrides 24 = .ok (.iconst 0, 1) := by decide +kernel
theorem dX2_pairByBrides_25 : decode cX2_pairByBrides 25 = .ok (.istore_n 1, 1) := by decide +kernel
theorem dX2_pairByBrides_26 : decode cX2_pairByBrides 26 = .ok (.iload_n 1, 1) := by decide +kernel
theorem dX2_pairByBrides_27 : decode cX2_pairByBrides 27 = .ok (.aload_n 0, 1) := by decide +kernel
theorem dX2_pairByBrides_28 : decode cX2_pairByBrides 28 = .ok (.getfield 9, 3) := by decide +kernel
theorem dX2_pairByBrides_31 : decode cX2_pairByBrides 31 = .ok (.aload_n 0, 1) := by decide +kernel
theorem dX2_pairByBrides_32 : decode cX2_pairByBrides 32 = .ok (.getfield 9, 3) := by decide +kernel
theorem dX2_pairByBrides_35 : decode cX2_pairByBrides 35 = .ok (.imul, 1) := by decide +kernel
theorem dX2_pairByBrides_36 : decode cX2_pairByBrides 36 = .ok (.if_icmp .ge 37, 3) := by decide +kernel
theorem dX2_pairByBrides_39 : decode cX2_pairByBrides 39 = .ok (.aload_n 0, 1) := by decide +kernel
theorem dX2_pairByBrides_40 : decode cX2_pairByBrides 40 = .ok (.invokevirtual 47, 3) := by decide +kernel
theorem dX2_pairByBrides_43 : decode cX2_pairByBrides 43 = .ok (.istore_n 2, 1) := by decide +kernel
theorem dX2_pairByBrides_44 : decode cX2_pairByBrides 44 = .ok (.iload_n 2, 1) := by decide +kernel
theorem dX2_pairByBrides_45 : decode cX2_pairByBrides 45 = .ok (.ifCond .lt 16, 3) := by decide +kernel
theorem dX2_pairByBrides_48 : decode cX2_pairByBrides 48 = .ok (.aload_n 0, 1) := by decide +kernel
theorem dX2_pairByBrides_49 : decode cX2_pairByBrides 49 = .ok (.getfield 30, 3) := by decide +kernel
theorem dX2_pairByBrides_52 : decode cX2_pairByBrides 52 = .ok (.iload_n 2, 1) := by decide +kernel
theorem dX2_pairByBrides_53 : decode cX2_pairByBrides 53 = .ok (.iaload, 1) := by decide +kernel
theorem dX2_pairByBrides_54 : decode cX2_pairByBrides 54 = .ok (.aload_n 0, 1) := by decide +kernel
theorem dX2_pairByBrides_55 : decode cX2_pairByBrides 55 = .ok (.getfield 9, 3) := by decide +kernel
theorem dX2_pairByBrides_58 : decode cX2_pairByBrides 58 = .ok (.if_icmp .lt 4, 3) := by decide +kernel
theorem dX2_pairByBrides_61 : decode cX2_pairByBrides 61 = .ok (.return_, 1) := by decide +kernel
theorem dX2_pairByBrides_62 : decode cX2_pairByBrides 62 = .ok (.aload_n 0, 1) := by decide +kernel
theorem dX2_pairByBrides_63 : decode cX2_pairByBrides 63 = .ok (.iload_n 2, 1) := by decide +kernel
theorem dX2_pairByBrides_64 : decode cX2_pairByBrides 64 = .ok (.invokevirtual 51, 3) := by decide +kernel
theorem dX2_pairByBrides_67 : decode cX2_pairByBrides 67 = .ok (.iinc 1 1, 3) := by decide +kernel
theorem dX2_pairByBrides_70 : decode cX2_pairByBrides 70 = .ok (.goto (-44), 3) := by decide +kernel
theorem dX2_pairByBrides_73 : decode cX2_pairByBrides 73 = .ok (.return_, 1) := by decide +kernel
theorem dX2_firstAlone_0 : decode cX2_firstAlone 0 = .ok (.iconst 0, 1) := by decide +kernel
theorem dX2_firstAlone_1 : decode cX2_firstAlone 1 = .ok (.istore_n 1, 1) := by decide +kernel
theorem dX2_firstAlone_2 : decode cX2_firstAlone 2 = .ok (.iload_n 1, 1) := by decide +kernel
theorem dX2_firstAlone_3 : decode cX2_firstAlone 3 = .ok (.aload_n 0, 1) := by decide +kernel
theorem dX2_firstAlone_4 : decode cX2_firstAlone 4 = .ok (.getfield 9, 3) := by decide +kernel
theorem dX2_firstAlone_7 : decode cX2_firstAlone 7 = .ok (.if_icmp .ge 20, 3) := by decide +kernel
theorem dX2_firstAlone_10 : decode cX2_firstAlone 10 = .ok (.aload_n 0, 1) := by decide +kernel
theorem dX2_firstAlone_11 : decode cX2_firstAlone 11 = .ok (.getfield 23, 3) := by decide +kernel
theorem dX2_firstAlone_14 : decode cX2_firstAlone 14 = .ok (.iload_n 1, 1) := by decide +kernel
theorem dX2_firstAlone_15 : decode cX2_firstAlone 15 = .ok (.iaload, 1) := by decide +kernel
theorem dX2_firstAlone_16 : decode cX2_firstAlone 16 = .ok (.ifCond .ge 5, 3) := by decide +kernel
theorem dX2_firstAlone_19 : decode cX2_firstAlone 19 = .ok (.iload_n 1, 1) := by decide +kernel
theorem dX2_firstAlone_20 : decode cX2_firstAlone 20 = .ok (.ireturn, 1) := by decide +kernel
theorem dX2_firstAlone_21 : decode cX2_firstAlone 21 = .ok (.iinc 1 1, 3) := by decide +kernel
theorem dX2_firstAlone_24 : decode cX2_firstAlone 24 = .ok (.goto (-22), 3) := by decide +kernel
theorem dX2_firstAlone_27 : decode cX2_firstAlone 27 = .ok (.iconst (-1), 1) := by decide +kernel
theorem dX2_firstAlone_28 : decode cX2_firstAlone 28 = .ok (.ireturn, 1) := by decide +kernel
theorem dX2_askNext_0 : decode cX2_askNext 0 = .ok (.aload_n 0, 1) := by decide +kernel
theorem dX2_askNext_1 : decode cX2_askNext 1 = .ok (.getfield 17, 3) := by decide +kernel
theorem dX2_askNext_4 : decode cX2_askNext 4 = .ok (.iload_n 1, 1) := by decide +kernel
theorem dX2_askNext_5 : decode cX2_askNext 5 = .ok (.aaload, 1) := by decide +kernel
theorem dX2_askNext_6 : decode cX2_askNext 6 = .ok (.aload_n 0, 1) := by decide +kernel
theorem dX2_askNext_7 : decode cX2_askNext 7 = .ok (.getfield 30, 3) := by decide +kernel
theorem dX2_askNext_10 : decode cX2_askNext 10 = .ok (.iload_n 1, 1) := by decide +kernel
theorem dX2_askNext_11 : decode cX2_askNext 11 = .ok (.iaload, 1) := by decide +kernel
theorem dX2_askNext_12 : decode cX2_askNext 12 = .ok (.iaload, 1) := by decide +kernel
theorem dX2_askNext_13 : decode cX2_askNext 13 = .ok (.istore_n 2, 1) := by decide +kernel
theorem dX2_askNext_14 : decode cX2_askNext 14 = .ok (.aload_n 0, 1) := by decide +kernel
theorem dX2_askNext_15 : decode cX2_askNext 15 = .ok (.getfield 30, 3) := by decide +kernel
theorem dX2_askNext_18 : decode cX2_askNext 18 = .ok (.iload_n 1, 1) := by decide +kernel
theorem dX2_askNext_19 : decode cX2_askNext 19 = .ok (.dup2, 1) := by decide +kernel
theorem dX2_askNext_20 : decode cX2_askNext 20 = .ok (.iaload, 1) := by decide +kernel
theorem dX2_askNext_21 : decode cX2_askNext 21 = .ok (.iconst 1, 1) := by decide +kernel
theorem dX2_askNext_22 : decode cX2_askNext 22 = .ok (.iadd, 1) := by decide +kernel
theorem dX2_askNext_23 : decode cX2_askNext 23 = .ok (.iastore, 1) := by decide +kernel
theorem dX2_askNext_24 : decode cX2_askNext 24 = .ok (.aload_n 0, 1) := by decide +kernel
theorem dX2_askNext_25 : decode cX2_askNext 25 = .ok (.getfield 27, 3) := by decide +kernel
theorem dX2_askNext_28 : decode cX2_askNext 28 = .ok (.iload_n 2, 1) := by decide +kernel
theorem dX2_askNext_29 : decode cX2_askNext 29 = .ok (.iaload, 1) := by decide +kernel
theorem dX2_askNext_30 : decode cX2_askNext 30 = .ok (.istore_n 3, 1) := by decide +kernel
theorem dX2_askNext_31 : decode cX2_askNext 31 = .ok (.iload_n 3, 1) := by decide +kernel
theorem dX2_askNext_32 : decode cX2_askNext 32 = .ok (.ifCond .lt 14, 3) := by decide +kernel
theorem dX2_askNext_35 : decode cX2_askNext 35 = .ok (.aload_n 0, 1) := by decide +kernel
theorem dX2_askNext_36 : decode cX2_askNext 36 = .ok (.iload_n 2, 1) := by decide +kernel
theorem dX2_askNext_37 : decode cX2_askNext 37 = .ok (.iload_n 1, 1) := by decide +kernel
theorem dX2_askNext_38 : decode cX2_askNext 38 = .ok (.iload_n 3, 1) := by decide +kernel
theorem dX2_askNext_39 : decode cX2_askNext 39 = .ok (.invokevirtual 55, 3) := by decide +kernel
theorem dX2_askNext_42 : decode cX2_askNext 42 = .ok (.ifCond .ne 4, 3) := by decide +kernel
theorem dX2_askNext_45 : decode cX2_askNext 45 = .ok (.return_, 1) := by decide +kernel
theorem dX2_askNext_46 : decode cX2_askNext 46 = .ok (.iload_n 3, 1) := by decide +kernel
theorem dX2_askNext_47 : decode cX2_askNext 47 = .ok (.ifCond .lt 10, 3) := by decide +kernel
theorem dX2_askNext_50 : decode cX2_askNext 50 = .ok (.aload_n 0, 1) := by decide +kernel
theorem dX2_askNext_51 : decode cX2_askNext 51 = .ok (.getfield 23, 3) := by decide +kernel
theorem dX2_askNext_54 : decode cX2_askNext 54 = .ok (.iload_n 3, 1) := by decide +kernel
theorem dX2_askNext_55 : decode cX2_askNext 55 = .ok (.iconst (-1), 1) := by decide +kernel
theorem dX2_askNext_56 : decode cX2_askNext 56 = .ok (.iastore, 1) := by decide +kernel
theorem dX2_askNext_57 : decode cX2_askNext 57 = .ok (.aload_n 0, 1) := by decide +kernel
theorem dX2_askNext_58 : decode cX2_askNext 58 = .ok (.getfield 27, 3) := by decide +kernel
theorem dX2_askNext_61 : decode cX2_askNext 61 = .ok (.iload_n 2, 1) := by decide +kernel
theorem dX2_askNext_62 : decode cX2_askNext 62 = .ok (.iload_n 1, 1) := by decide +kernel
theorem dX2_askNext_63 : decode cX2_askNext 63 = .ok (.iastore, 1) := by decide +kernel
theorem dX2_askNext_64 : decode cX2_askNext 64 = .ok (.aload_n 0, 1) := by decide +kernel
theorem dX2_askNext_65 : decode cX2_askNext 65 = .ok (.getfield 23, 3) := by decide +kernel
theorem dX2_askNext_68 : decode cX2_askNext 68 = .ok (.iload_n 1, 1) := by decide +kernel
theorem dX2_askNext_69 : decode cX2_askNext 69 = .ok (.iload_n 2, 1) := by decide +kernel
theorem dX2_askNext_70 : decode cX2_askNext 70 = .ok (.iastore, 1) := by decide +kernel
theorem dX2_askNext_71 : decode cX2_askNext 71 = .ok (.return_, 1) := by decide +kernel
theorem dX2_groomLikesMore_0 : decode cX2_groomLikesMore 0 = .ok (.aload_n 0, 1) := by decide +kernel
theorem dX2_groomLikesMore_1 : decode cX2_groomLikesMore 1 = .ok (.getfield 20, 3) := by decide +kernel
theorem dX2_groomLikesMore_4 : decode cX2_groomLikesMore 4 = .ok (.aload_n 0, 1) := by decide +kernel
theorem dX2_groomLikesMore_5 : decode cX2_groomLikesMore 5 = .ok (.getfield 9, 3) := by decide +kernel
theorem dX2_groomLikesMore_8 : decode cX2_groomLikesMore 8 = .ok (.iload_n 1, 1) := by decide +kernel
theorem dX2_groomLikesMore_9 : decode cX2_groomLikesMore 9 = .ok (.iadd, 1) := by decide +kernel
theorem dX2_groomLikesMore_10 : decode cX2_groomLikesMore 10 = .ok (.aaload, 1) := by decide +kernel
theorem dX2_groomLikesMore_11 : decode cX2_groomLikesMore 11 = .ok (.iload_n 2, 1) := by decide +kernel
theorem dX2_groomLikesMore_12 : decode cX2_groomLikesMore 12 = .ok (.iaload, 1) := by decide +kernel
theorem dX2_groomLikesMore_13 : decode cX2_groomLikesMore 13 = .ok (.aload_n 0, 1) := by decide +kernel
theorem dX2_groomLikesMore_14 : decode cX2_groomLikesMore 14 = .ok (.getfield 20, 3) := by decide +kernel
theorem dX2_groomLikesMore_17 : decode cX2_groomLikesMore 17 = .ok (.aload_n 0, 1) := by decide +kernel
theorem dX2_groomLikesMore_18 : decode cX2_groomLikesMore 18 = .ok (.getfield 9, 3) := by decide +kernel
theorem dX2_groomLikesMore_21 : decode cX2_groomLikesMore 21 = .ok (.iload_n 1, 1) := by decide +kernel
theorem dX2_groomLikesMore_22 : decode cX2_groomLikesMore 22 = .ok (.iadd, 1) := by decide +kernel
theorem dX2_groomLikesMore_23 : decode cX2_groomLikesMore 23 = .ok (.aaload, 1) := by decide +kernel
theorem dX2_groomLikesMore_24 : decode cX2_groomLikesMore 24 = .ok (.iload_n 3, 1) := by decide +kernel
theorem dX2_groomLikesMore_25 : decode cX2_groomLikesMore 25 = .ok (.iaload, 1) := by decide +kernel
theorem dX2_groomLikesMore_26 : decode cX2_groomLikesMore 26 = .ok (.if_icmp .ge 7, 3) := by decide +kernel
theorem dX2_groomLikesMore_29 : decode cX2_groomLikesMore 29 = .ok (.iconst 1, 1) := by decide +kernel
theorem dX2_groomLikesMore_30 : decode cX2_groomLikesMore 30 = .ok (.goto 4, 3) := by decide +kernel
theorem dX2_groomLikesMore_33 : decode cX2_groomLikesMore 33 = .ok (.iconst 0, 1) := by decide +kernel
theorem dX2_groomLikesMore_34 : decode cX2_groomLikesMore 34 = .ok (.ireturn, 1) := by decide +kernel
theorem dX2_wouldLeave_0 : decode cX2_wouldLeave 0 = .ok (.aload_n 0, 1) := by decide +kernel
theorem dX2_wouldLeave_1 : decode cX2_wouldLeave 1 = .ok (.getfield 20, 3) := by decide +kernel
theorem dX2_wouldLeave_4 : decode cX2_wouldLeave 4 = .ok (.iload_n 1, 1) := by decide +kernel
theorem dX2_wouldLeave_5 : decode cX2_wouldLeave 5 = .ok (.aaload, 1) := by decide +kernel
theorem dX2_wouldLeave_6 : decode cX2_wouldLeave 6 = .ok (.iload_n 2, 1) := by decide +kernel
theorem dX2_wouldLeave_7 : decode cX2_wouldLeave 7 = .ok (.iaload, 1) := by decide +kernel
theorem dX2_wouldLeave_8 : decode cX2_wouldLeave 8 = .ok (.aload_n 0, 1) := by decide +kernel
theorem dX2_wouldLeave_9 : decode cX2_wouldLeave 9 = .ok (.getfield 20, 3) := by decide +kernel
theorem dX2_wouldLeave_12 : decode cX2_wouldLeave 12 = .ok (.iload_n 1, 1) := by decide +kernel
theorem dX2_wouldLeave_13 : decode cX2_wouldLeave 13 = .ok (.aaload, 1) := by decide +kernel
theorem dX2_wouldLeave_14 : decode cX2_wouldLeave 14 = .ok (.aload_n 0, 1) := by decide +kernel
theorem dX2_wouldLeave_15 : decode cX2_wouldLeave 15 = .ok (.getfield 23, 3) := by decide +kernel
theorem dX2_wouldLeave_18 : decode cX2_wouldLeave 18 = .ok (.iload_n 1, 1) := by decide +kernel
theorem dX2_wouldLeave_19 : decode cX2_wouldLeave 19 = .ok (.iaload, 1) := by decide +kernel
theorem dX2_wouldLeave_20 : decode cX2_wouldLeave 20 = .ok (.iaload, 1) := by decide +kernel
theorem dX2_wouldLeave_21 : decode cX2_wouldLeave 21 = .ok (.if_icmp .ge 22, 3) := by decide +kernel
theorem dX2_wouldLeave_24 : decode cX2_wouldLeave 24 = .ok (.aload_n 0, 1) := by decide +kernel
theorem dX2_wouldLeave_25 : decode cX2_wouldLeave 25 = .ok (.iload_n 2, 1) := by decide +kernel
theorem dX2_wouldLeave_26 : decode cX2_wouldLeave 26 = .ok (.iload_n 1, 1) := by decide +kernel
theorem dX2_wouldLeave_27 : decode cX2_wouldLeave 27 = .ok (.aload_n 0, 1) := by decide +kernel
theorem dX2_wouldLeave_28 : decode cX2_wouldLeave 28 = .ok (.getfield 27, 3) := by decide +kernel
theorem dX2_wouldLeave_31 : decode cX2_wouldLeave 31 = .ok (.iload_n 2, 1) := by decide +kernel
theorem dX2_wouldLeave_32 : decode cX2_wouldLeave 32 = .ok (.iaload, 1) := by decide +kernel
theorem dX2_wouldLeave_33 : decode cX2_wouldLeave 33 = .ok (.invokevirtual 55, 3) := by decide +kernel
theorem dX2_wouldLeave_36 : decode cX2_wouldLeave 36 = .ok (.ifCond .eq 7, 3) := by decide +kernel
theorem dX2_wouldLeave_39 : decode cX2_wouldLeave 39 = .ok (.iconst 1, 1) := by decide +kernel
theorem dX2_wouldLeave_40 : decode cX2_wouldLeave 40 = .ok (.goto 4, 3) := by decide +kernel
theorem dX2_wouldLeave_43 : decode cX2_wouldLeave 43 = .ok (.iconst 0, 1) := by decide +kernel
theorem dX2_wouldLeave_44 : decode cX2_wouldLeave 44 = .ok (.ireturn, 1) := by decide +kernel
theorem dX2_firstToLeave_0 : decode cX2_firstToLeave 0 = .ok (.iconst 0, 1) := by decide +kernel
theorem dX2_firstToLeave_1 : decode cX2_firstToLeave 1 = .ok (.istore_n 1, 1) := by decide +kernel
theorem dX2_firstToLeave_2 : decode cX2_firstToLeave 2 = .ok (.iload_n 1, 1) := by decide +kernel
theorem dX2_firstToLeave_3 : decode cX2_firstToLeave 3 = .ok (.aload_n 0, 1) := by decide +kernel
theorem dX2_firstToLeave_4 : decode cX2_firstToLeave 4 = .ok (.getfield 9, 3) := by decide +kernel
theorem dX2_firstToLeave_7 : decode cX2_firstToLeave 7 = .ok (.if_icmp .ge 41, 3) := by decide +kernel
theorem dX2_firstToLeave_10 : decode cX2_firstToLeave 10 = .ok (.iconst 0, 1) := by decide +kernel
theorem dX2_firstToLeave_11 : decode cX2_firstToLeave 11 = .ok (.istore_n 2, 1) := by decide +kernel
theorem dX2_firstToLeave_12 : decode cX2_firstToLeave 12 = .ok (.iload_n 2, 1) := by decide +kernel
theorem dX2_firstToLeave_13 : decode cX2_firstToLeave 13 = .ok (.aload_n 0, 1) := by decide +kernel
theorem dX2_firstToLeave_14 : decode cX2_firstToLeave 14 = .ok (.getfield 9, 3) := by decide +kernel
theorem dX2_firstToLeave_17 : decode cX2_firstToLeave 17 = .ok (.if_icmp .ge 25, 3) := by decide +kernel
theorem dX2_firstToLeave_20 : decode cX2_firstToLeave 20 = .ok (.aload_n 0, 1) := by decide +kernel
theorem dX2_firstToLeave_21 : decode cX2_firstToLeave 21 = .ok (.iload_n 1, 1) := by decide +kernel
theorem dX2_firstToLeave_22 : decode cX2_firstToLeave 22 = .ok (.iload_n 2, 1) := by decide +kernel
theorem dX2_firstToLeave_23 : decode cX2_firstToLeave 23 = .ok (.invokevirtual 58, 3) := by decide +kernel
theorem dX2_firstToLeave_26 : decode cX2_firstToLeave 26 = .ok (.ifCond .eq 10, 3) := by decide +kernel
theorem dX2_firstToLeave_29 : decode cX2_firstToLeave 29 = .ok (.bipush 10, 2) := by decide +kernel
theorem dX2_firstToLeave_31 : decode cX2_firstToLeave 31 = .ok (.iload_n 1, 1) := by decide +kernel
theorem dX2_firstToLeave_32 : decode cX2_firstToLeave 32 = .ok (.imul, 1) := by decide +kernel
theorem dX2_firstToLeave_33 : decode cX2_firstToLeave 33 = .ok (.iload_n 2, 1) := by decide +kernel
theorem dX2_firstToLeave_34 : decode cX2_firstToLeave 34 = .ok (.iadd, 1) := by decide +kernel
theorem dX2_firstToLeave_35 : decode cX2_firstToLeave 35 = .ok (.ireturn, 1) := by decide +kernel
theorem dX2_firstToLeave_36 : decode cX2_firstToLeave 36 = .ok (.iinc 2 1, 3) := by decide +kernel
theorem dX2_firstToLeave_39 : decode cX2_firstToLeave 39 = .ok (.goto (-27), 3) := by decide +kernel
theorem dX2_firstToLeave_42 : decode cX2_firstToLeave 42 = .ok (.iinc 1 1, 3) := by decide +kernel
theorem dX2_firstToLeave_45 : decode cX2_firstToLeave 45 = .ok (.goto (-43), 3) := by decide +kernel
theorem dX2_firstToLeave_48 : decode cX2_firstToLeave 48 = .ok (.bipush (-4), 2) := by decide +kernel
theorem dX2_firstToLeave_50 : decode cX2_firstToLeave 50 = .ok (.ireturn, 1) := by decide +kernel
theorem dX3_init_0 : decode cX3_init 0 = .ok (.aload_n 0, 1) := by decide +kernel
theorem dX3_init_1 : decode cX3_init 1 = .ok (.invokespecial 3, 3) := by decide +kernel
theorem dX3_init_4 : decode cX3_init 4 = .ok (.aload_n 0, 1) := by decide +kernel
theorem dX3_init_5 : decode cX3_init 5 = .ok (.bipush 100, 2) := by decide +kernel
theorem dX3_init_7 : decode cX3_init 7 = .ok (.newarray .int, 2) := by decide +kernel
theorem dX3_init_9 : decode cX3_init 9 = .ok (.putfield 9, 3) := by decide +kernel
theorem dX3_init_12 : decode cX3_init 12 = .ok (.aload_n 0, 1) := by decide +kernel
theorem dX3_init_13 : decode cX3_init 13 = .ok (.iconst 0, 1) := by decide +kernel
theorem dX3_init_14 : decode cX3_init 14 = .ok (.putfield 15, 3) := by decide +kernel
theorem dX3_init_17 : decode cX3_init 17 = .ok (.aload_n 0, 1) := by decide +kernel
theorem dX3_init_18 : decode cX3_init 18 = .ok (.iconst 0, 1) := by decide +kernel
theorem dX3_init_19 : decode cX3_init 19 = .ok (.putfield 19, 3) := by decide +kernel
theorem dX3_init_22 : decode cX3_init 22 = .ok (.aload_n 0, 1) := by decide +kernel
theorem dX3_init_23 : decode cX3_init 23 = .ok (.iconst 0, 1) := by decide +kernel
theorem dX3_init_24 : decode cX3_init 24 = .ok (.putfield 23, 3) := by decide +kernel
theorem dX3_init_27 : decode cX3_init 27 = .ok (.return_, 1) := by decide +kernel
theorem dX3_renew_0 : decode cX3_renew 0 = .ok (.aload_n 0, 1) := by decide +kernel
theorem dX3_renew_1 : decode cX3_renew 1 = .ok (.getfield 9, 3) := by decide +kernel
theorem dX3_renew_4 : decode cX3_renew 4 = .ok (.iconst 0, 1) := by decide +kernel
theorem dX3_renew_5 : decode cX3_renew 5 = .ok (.invokestatic 26, 3) := by decide +kernel
theorem dX3_renew_8 : decode cX3_renew 8 = .ok (.aload_n 0, 1) := by decide +kernel
theorem dX3_renew_9 : decode cX3_renew 9 = .ok (.iconst 1, 1) := by decide +kernel
theorem dX3_renew_10 : decode cX3_renew 10 = .ok (.putfield 15, 3) := by decide +kernel
theorem dX3_renew_13 : decode cX3_renew 13 = .ok (.aload_n 0, 1) := by decide +kernel
theorem dX3_renew_14 : decode cX3_renew 14 = .ok (.iload_n 1, 1) := by decide +kernel
theorem dX3_renew_15 : decode cX3_renew 15 = .ok (.putfield 19, 3) := by decide +kernel
theorem dX3_renew_18 : decode cX3_renew 18 = .ok (.aload_n 0, 1) := by decide +kernel
theorem dX3_renew_19 : decode cX3_renew 19 = .ok (.iload_n 2, 1) := by decide +kernel
theorem dX3_renew_20 : decode cX3_renew 20 = .ok (.putfield 23, 3) := by decide +kernel
theorem dX3_renew_23 : decode cX3_renew 23 = .ok (.return_, 1) := by decide +kernel
theorem dX3_refusal_0 : decode cX3_refusal 0 = .ok (.aload_n 0, 1) := by decide +kernel
theorem dX3_refusal_1 : decode cX3_refusal 1 = .ok (.getfield 15, 3) := by decide +kernel
theorem dX3_refusal_4 : decode cX3_refusal 4 = .ok (.ifCond .ne 6, 3) := by decide +kernel
theorem dX3_refusal_7 : decode cX3_refusal 7 = .ok (.bipush (-11), 2) := by decide +kernel
theorem dX3_refusal_9 : decode cX3_refusal 9 = .ok (.ireturn, 1) := by decide +kernel
theorem dX3_refusal_10 : decode cX3_refusal 10 = .ok (.aload_n 0, 1) := by decide +kernel
theorem dX3_refusal_11 : decode cX3_refusal 11 = .ok (.getfield 19, 3) := by decide +kernel
theorem dX3_refusal_14 : decode cX3_refusal 14 = .ok (.iload_n 1, 1) := by decide +kernel
theorem dX3_refusal_15 : decode cX3_refusal 15 = .ok (.if_icmp .eq 6, 3) := by decide +kernel
theorem dX3_refusal_18 : decode cX3_refusal 18 = .ok (.bipush (-12), 2) := by decide +kernel
theorem dX3_refusal_20 : decode cX3_refusal 20 = .ok (.ireturn, 1) := by decide +kernel
theorem dX3_refusal_21 : decode cX3_refusal 21 = .ok (.iload_n 2, 1) := by decide +kernel
theorem dX3_refusal_22 : decode cX3_refusal 22 = .ok (.ifCond .lt 17, 3) := by decide +kernel
theorem dX3_refusal_25 : decode cX3_refusal 25 = .ok (.iload_n 3, 1) := by decide +kernel
theorem dX3_refusal_26 : decode cX3_refusal 26 = .ok (.ifCond .lt 13, 3) := by decide +kernel
theorem dX3_refusal_29 : decode cX3_refusal 29 = .ok (.iload_n 2, 1) := by decide +kernel
theorem dX3_refusal_30 : decode cX3_refusal 30 = .ok (.aload_n 0, 1) := by decide +kernel
theorem dX3_refusal_31 : decode cX3_refusal 31 = .ok (.getfield 23, 3) := by decide +kernel
theorem dX3_refusal_34 : decode cX3_refusal 34 = .ok (.iload_n 3, 1) := by decide +kernel
theorem dX3_refusal_35 : decode cX3_refusal 35 = .ok (.isub, 1) := by decide +kernel
theorem dX3_refusal_36 : decode cX3_refusal 36 = .ok (.if_icmp .le 8, 3) := by decide +kernel
theorem dX3_refusal_39 : decode cX3_refusal 39 = .ok (.bipush (-13), 2) := by decide +kernel
theorem dX3_refusal_41 : decode cX3_refusal 41 = .ok (.goto 4, 3) := by decide +kernel
theorem dX3_refusal_44 : decode cX3_refusal 44 = .ok (.iconst 0, 1) := by decide +kernel
theorem dX3_refusal_45 : decode cX3_refusal 45 = .ok (.ireturn, 1) := by decide +kernel
theorem dX3_cut_0 : decode cX3_cut 0 = .ok (.iload_n 0, 1) := by decide +kernel
theorem dX3_cut_1 : decode cX3_cut 1 = .ok (.ifCond .ne 6, 3) := by decide +kernel
theorem dX3_cut_4 : decode cX3_cut 4 = .ok (.iload_n 1, 1) := by decide +kernel
theorem dX3_cut_5 : decode cX3_cut 5 = .ok (.i2b, 1) := by decide +kernel
theorem dX3_cut_6 : decode cX3_cut 6 = .ok (.ireturn, 1) := by decide +kernel
theorem dX3_cut_7 : decode cX3_cut 7 = .ok (.iload_n 0, 1) := by decide +kernel
theorem dX3_cut_8 : decode cX3_cut 8 = .ok (.iconst 1, 1) := by decide +kernel
theorem dX3_cut_9 : decode cX3_cut 9 = .ok (.if_icmp .ne 8, 3) := by decide +kernel
theorem dX3_cut_12 : decode cX3_cut 12 = .ok (.iload_n 1, 1) := by decide +kernel
theorem dX3_cut_13 : decode cX3_cut 13 = .ok (.i2s, 1) := by decide +kernel
theorem dX3_cut_14 : decode cX3_cut 14 = .ok (.goto 4, 3) := by decide +kernel
theorem dX3_cut_17 : decode cX3_cut 17 = .ok (.iload_n 1, 1) := by decide +kernel
theorem dX3_cut_18 : decode cX3_cut 18 = .ok (.ireturn, 1) := by decide +kernel
theorem dX4_init_0 : decode cX4_init 0 = .ok (.aload_n 0, 1) := by decide +kernel
theorem dX4_init_1 : decode cX4_init 1 = .ok (.invokespecial 3, 3) := by decide +kernel
theorem dX4_init_4 : decode cX4_init 4 = .ok (.aload_n 0, 1) := by decide +kernel
theorem dX4_init_5 : decode cX4_init 5 = .ok (.bipush 120, 2) := by decide +kernel
theorem dX4_init_7 : decode cX4_init 7 = .ok (.newarray .int, 2) := by decide +kernel
theorem dX4_init_9 : decode cX4_init 9 = .ok (.putfield 9, 3) := by decide +kernel
theorem dX4_init_12 : decode cX4_init 12 = .ok (.aload_n 0, 1) := by decide +kernel
theorem dX4_init_13 : decode cX4_init 13 = .ok (.bipush 16, 2) := by decide +kernel
theorem dX4_init_15 : decode cX4_init 15 = .ok (.iconst 4, 1) := by decide +kernel
theorem dX4_init_16 : decode cX4_init 16 = .ok (.multianewarray 15 2, 4) := by decide +kernel
theorem dX4_init_20 : decode cX4_init 20 = .ok (.putfield 17, 3) := by decide +kernel
theorem dX4_init_23 : decode cX4_init 23 = .ok (.aload_n 0, 1) := by decide +kernel
theorem dX4_init_24 : decode cX4_init 24 = .ok (.iconst 0, 1) := by decide +kernel
theorem dX4_init_25 : decode cX4_init 25 = .ok (.putfield 20, 3) := by decide +kernel
theorem dX4_init_28 : decode cX4_init 28 = .ok (.aload_n 0, 1) := by decide +kernel
theorem dX4_init_29 : decode cX4_init 29 = .ok (.iconst 0, 1) := by decide +kernel
theorem dX4_init_30 : decode cX4_init 30 = .ok (.putfield 24, 3) := by decide +kernel
theorem dX4_init_33 : decode cX4_init 33 = .ok (.return_, 1) := by decide +kernel
theorem dX4_isTypable_0 : decode cX4_isTypable 0 = .ok (.iconst 0, 1) := by decide +kernel
theorem dX4_isTypable_1 : decode cX4_isTypable 1 = .ok (.istore_n 3, 1) := by decide +kernel
theorem dX4_isTypable_2 : decode cX4_isTypable 2 = .ok (.iload_n 3, 1) := by decide +kernel
theorem dX4_isTypable_3 : decode cX4_isTypable 3 = .ok (.iload_n 2, 1) := by decide +kernel
theorem dX4_isTypable_4 : decode cX4_isTypable 4 = .ok (.if_icmp .ge 32, 3) := by decide +kernel
theorem dX4_isTypable_7 : decode cX4_isTypable 7 = .ok (.lload_n 0, 1) := by decide +kernel
theorem dX4_isTypable_8 : decode cX4_isTypable 8 = .ok (.bipush 8, 2) := by decide +kernel
theorem dX4_isTypable_10 : decode cX4_isTypable 10 = .ok (.iload_n 3, 1) := by decide +kernel
theorem dX4_isTypable_11 : decode cX4_isTypable 11 = .ok (.imul, 1) := by decide +kernel
theorem dX4_isTypable_12 : decode cX4_isTypable 12 = .ok (.lushr, 1) := by decide +kernel
theorem dX4_isTypable_13 : decode cX4_isTypable 13 = .ok (.l2i, 1) := by decide +kernel
theorem dX4_isTypable_14 : decode cX4_isTypable 14 = .ok (.sipush 255, 3) := by decide +kernel
theorem dX4_isTypable_17 : decode cX4_isTypable 17 = .ok (.iand, 1) := by decide +kernel
theorem dX4_isTypable_18 : decode cX4_isTypable 18 = .ok (.bipush 32, 2) := by decide +kernel
theorem dX4_isTypable_20 : decode cX4_isTypable 20 = .ok (.bipush 126, 2) := by decide +kernel
theorem dX4_isTypable_22 : decode cX4_isTypable 22 = .ok (.invokestatic 27, 3) := by decide +kernel
theorem dX4_isTypable_25 : decode cX4_isTypable 25 = .ok (.ifCond .ne 5, 3) := by decide +kernel
theorem dX4_isTypable_28 : decode cX4_isTypable 28 = .ok (.iconst 0, 1) := by decide +kernel
theorem dX4_isTypable_29 : decode cX4_isTypable 29 = .ok (.ireturn, 1) := by decide +kernel
theorem dX4_isTypable_30 : decode cX4_isTypable 30 = .ok (.iinc 3 1, 3) := by decide +kernel
theorem dX4_isTypable_33 : decode cX4_isTypable 33 = .ok (.goto (-31), 3) := by decide +kernel
theorem dX4_isTypable_36 : decode cX4_isTypable 36 = .ok (.iconst 1, 1) := by decide +kernel
theorem dX4_isTypable_37 : decode cX4_isTypable 37 = .ok (.ireturn, 1) := by decide +kernel
theorem dX4_append_0 : decode cX4_append 0 = .ok (.iload_n 3, 1) := by decide +kernel
theorem dX4_append_1 : decode cX4_append 1 = .ok (.iconst 1, 1) := by decide +kernel
theorem dX4_append_2 : decode cX4_append 2 = .ok (.isub, 1) := by decide +kernel
theorem dX4_append_3 : decode cX4_append 3 = .ok (.istore 4, 2) := by decide +kernel
theorem dX4_append_5 : decode cX4_append 5 = .ok (.iload 4, 2) := by decide +kernel
theorem dX4_append_7 : decode cX4_append 7 = .ok (.ifCond .lt 40, 3) := by decide +kernel
theorem dX4_append_10 : decode cX4_append 10 = .ok (.aload_n 0, 1) := by decide +kernel
theorem dX4_append_11 : decode cX4_append 11 = .ok (.getfield 9, 3) := by decide +kernel
theorem dX4_append_14 : decode cX4_append 14 = .ok (.aload_n 0, 1) := by decide +kernel
theorem dX4_append_15 : decode cX4_append 15 = .ok (.getfield 20, 3) := by decide +kernel
theorem dX4_append_18 : decode cX4_append 18 = .ok (.lload_n 1, 1) := by decide +kernel
theorem dX4_append_19 : decode cX4_append 19 = .ok (.bipush 8, 2) := by decide +kernel
theorem dX4_append_21 : decode cX4_append 21 = .ok (.iload 4, 2) := by decide +kernel
theorem dX4_append_23 : decode cX4_append 23 = .ok (.imul, 1) := by decide +kernel
theorem dX4_append_24 : decode cX4_append 24 = .ok (.lushr, 1) := by decide +kernel
theorem dX4_append_25 : decode cX4_append 25 = .ok (.l2i, 1) := by decide +kernel
theorem dX4_append_26 : decode cX4_append 26 = .ok (.sipush 255, 3) := by decide +kernel
theorem dX4_append_29 : decode cX4_append 29 = .ok (.iand, 1) := by decide +kernel
theorem dX4_append_30 : decode cX4_append 30 = .ok (.iastore, 1) := by decide +kernel
theorem dX4_append_31 : decode cX4_append 31 = .ok (.aload_n 0, 1) := by decide +kernel
theorem dX4_append_32 : decode cX4_append 32 = .ok (.dup, 1) := by decide +kernel
theorem dX4_append_33 : decode cX4_append 33 = .ok (.getfield 20, 3) := by decide +kernel
theorem dX4_append_36 : decode cX4_append 36 = .ok (.iconst 1, 1) := by decide +kernel
theorem dX4_append_37 : decode cX4_append 37 = .ok (.iadd, 1) := by decide +kernel
theorem dX4_append_38 : decode cX4_append 38 = .ok (.putfield 20, 3) := by decide +kernel
theorem dX4_append_41 : decode cX4_append 41 = .ok (.iinc 4 (-1), 3) := by decide +kernel
theorem dX4_append_44 : decode cX4_append 44 = .ok (.goto (-39), 3) := by decide +kernel
theorem dX4_append_47 : decode cX4_append 47 = .ok (.return_, 1) := by decide +kernel
theorem dX4_readBrides_0 : decode cX4_readBrides 0 = .ok (.aload_n 0, 1) := by decide +kernel
theorem dX4_readBrides_1 : decode cX4_readBrides 1 = .ok (.iconst 0, 1) := by decide +kernel
theorem dX4_readBrides_2 : decode cX4_readBrides 2 = .ok (.putfield 24, 3) := by decide +kernel
theorem dX4_readBrides_5 : decode cX4_readBrides 5 = .ok (.iconst 0, 1) := by decide +kernel
theorem dX4_readBrides_6 : decode cX4_readBrides 6 = .ok (.istore_n 1, 1) := by decide +kernel
theorem dX4_readBrides_7 : decode cX4_readBrides 7 = .ok (.iload_n 1, 1) := by decide +kernel
theorem dX4_readBrides_8 : decode cX4_readBrides 8 = .ok (.bipush 7, 2) := by decide +kernel
theorem dX4_readBrides_10 : decode cX4_readBrides 10 = .ok (.if_icmp .ge 64, 3) := by decide +kernel
theorem dX4_readBrides_13 : decode cX4_readBrides 13 = .ok (.aload_n 0, 1) := by decide +kernel
theorem dX4_readBrides_14 : decode cX4_readBrides 14 = .ok (.aload_n 0, 1) := by decide +kernel
theorem dX4_readBrides_15 : decode cX4_readBrides 15 = .ok (.getfield 17, 3) := by decide +kernel
theorem dX4_readBrides_18 : decode cX4_readBrides 18 = .ok (.iload_n 1, 1) := by decide +kernel
theorem dX4_readBrides_19 : decode cX4_readBrides 19 = .ok (.aaload, 1) := by decide +kernel
theorem dX4_readBrides_20 : decode cX4_readBrides 20 = .ok (.invokevirtual 31, 3) := by decide +kernel
theorem dX4_readBrides_23 : decode cX4_readBrides 23 = .ok (.ifCond .ne 11, 3) := by decide +kernel
theorem dX4_readBrides_26 : decode cX4_readBrides 26 = .ok (.bipush (-20), 2) := by decide +kernel
theorem dX4_readBrides_28 : decode cX4_readBrides 28 = .ok (.aload_n 0, 1) := by decide +kernel
theorem dX4_readBrides_29 : decode cX4_readBrides 29 = .ok (.getfield 24, 3) := by decide +kernel
theorem dX4_readBrides_32 : decode cX4_readBrides 32 = .ok (.isub, 1) := by decide +kernel
theorem dX4_readBrides_33 : decode cX4_readBrides 33 = .ok (.ireturn, 1) := by decide +kernel
theorem dX4_readBrides_34 : decode cX4_readBrides 34 = .ok (.aload_n 0, 1) := by decide +kernel
theorem dX4_readBrides_35 : decode cX4_readBrides 35 = .ok (.invokevirtual 35, 3) := by decide +kernel
theorem dX4_readBrides_38 : decode cX4_readBrides 38 = .ok (.ifCond .ne 7, 3) := by decide +kernel
theorem dX4_readBrides_41 : decode cX4_readBrides 41 = .ok (.iload_n 1, 1) := by decide +kernel
theorem dX4_readBrides_42 : decode cX4_readBrides 42 = .ok (.iconst 1, 1) := by decide +kernel
theorem dX4_readBrides_43 : decode cX4_readBrides 43 = .ok (.iadd, 1) := by decide +kernel
theorem dX4_readBrides_44 : decode cX4_readBrides 44 = .ok (.ireturn, 1) := by decide +kernel
theorem dX4_readBrides_45 : decode cX4_readBrides 45 = .ok (.iload_n 1, 1) := by decide +kernel
theorem dX4_readBrides_46 : decode cX4_readBrides 46 = .ok (.bipush 6, 2) := by decide +kernel
theorem dX4_readBrides_48 : decode cX4_readBrides 48 = .ok (.if_icmp .eq 12, 3) := by decide +kernel
theorem dX4_readBrides_51 : decode cX4_readBrides 51 = .ok (.aload_n 0, 1) := by decide +kernel
theorem dX4_readBrides_52 : decode cX4_readBrides 52 = .ok (.bipush 44, 2) := by decide +kernel
theorem dX4_readBrides_54 : decode cX4_readBrides 54 = .ok (.invokevirtual 39, 3) := by decide +kernel
theorem dX4_readBrides_57 : decode cX4_readBrides 57 = .ok (.ifCond .ne 11, 3) := by decide +kernel
theorem dX4_readBrides_60 : decode cX4_readBrides 60 = .ok (.bipush (-20), 2) := by decide +kernel
theorem dX4_readBrides_62 : decode cX4_readBrides 62 = .ok (.aload_n 0, 1) := by decide +kernel
theorem dX4_readBrides_63 : decode cX4_readBrides 63 = .ok (.getfield 24, 3) := by decide +kernel
theorem dX4_readBrides_66 : decode cX4_readBrides 66 = .ok (.isub, 1) := by decide +kernel
theorem dX4_readBrides_67 : decode cX4_readBrides 67 = .ok (.ireturn, 1) := by decide +kernel
theorem dX4_readBrides_68 : decode cX4_readBrides 68 = .ok (.iinc 1 1, 3) := by decide +kernel
theorem dX4_readBrides_71 : decode cX4_readBrides 71 = .ok (.goto (-64), 3) := by decide +kernel
theorem dX4_readBrides_74 : decode cX4_readBrides 74 = .ok (.bipush (-20), 2) := by decide +kernel
theorem dX4_readBrides_76 : decode cX4_readBrides 76 = .ok (.aload_n 0, 1) := by decide +kernel
theorem dX4_readBrides_77 : decode cX4_readBrides 77 = .ok (.getfield 24, 3) := by decide +kernel
theorem dX4_readBrides_80 : decode cX4_readBrides 80 = .ok (.isub, 1) := by decide +kernel
theorem dX4_readBrides_81 : decode cX4_readBrides 81 = .ok (.ireturn, 1) := by decide +kernel
theorem dX4_readHeap_0 : decode cX4_readHeap 0 = .ok (.aload_n 0, 1) := by decide +kernel
theorem dX4_readHeap_1 : decode cX4_readHeap 1 = .ok (.iconst 0, 1) := by decide +kernel
theorem dX4_readHeap_2 : decode cX4_readHeap 2 = .ok (.putfield 24, 3) := by decide +kernel
theorem dX4_readHeap_5 : decode cX4_readHeap 5 = .ok (.iconst 0, 1) := by decide +kernel
theorem dX4_readHeap_6 : decode cX4_readHeap 6 = .ok (.istore_n 1, 1) := by decide +kernel
theorem dX4_readHeap_7 : decode cX4_readHeap 7 = .ok (.iload_n 1, 1) := by decide +kernel
theorem dX4_readHeap_8 : decode cX4_readHeap 8 = .ok (.bipush 16, 2) := by decide +kernel
theorem dX4_readHeap_10 : decode cX4_readHeap 10 = .ok (.if_icmp .ge 64, 3) := by decide +kernel
theorem dX4_readHeap_13 : decode cX4_readHeap 13 = .ok (.aload_n 0, 1) := by decide +kernel
theorem dX4_readHeap_14 : decode cX4_readHeap 14 = .ok (.aload_n 0, 1) := by decide +kernel
theorem dX4_readHeap_15 : decode cX4_readHeap 15 = .ok (.getfield 17, 3) := by decide +kernel
theorem dX4_readHeap_18 : decode cX4_readHeap 18 = .ok (.iload_n 1, 1) := by decide +kernel
theorem dX4_readHeap_19 : decode cX4_readHeap 19 = .ok (.aaload, 1) := by decide +kernel
theorem dX4_readHeap_20 : decode cX4_readHeap 20 = .ok (.invokevirtual 43, 3) := by decide +kernel
theorem dX4_readHeap_23 : decode cX4_readHeap 23 = .ok (.ifCond .ne 11, 3) := by decide +kernel
theorem dX4_readHeap_26 : decode cX4_readHeap 26 = .ok (.bipush (-20), 2) := by decide +kernel
theorem dX4_readHeap_28 : decode cX4_readHeap 28 = .ok (.aload_n 0, 1) := by decide +kernel
theorem dX4_readHeap_29 : decode cX4_readHeap 29 = .ok (.getfield 24, 3) := by decide +kernel
theorem dX4_readHeap_32 : decode cX4_readHeap 32 = .ok (.isub, 1) := by decide +kernel
theorem dX4_readHeap_33 : decode cX4_readHeap 33 = .ok (.ireturn, 1) := by decide +kernel
theorem dX4_readHeap_34 : decode cX4_readHeap 34 = .ok (.aload_n 0, 1) := by decide +kernel
theorem dX4_readHeap_35 : decode cX4_readHeap 35 = .ok (.invokevirtual 35, 3) := by decide +kernel
theorem dX4_readHeap_38 : decode cX4_readHeap 38 = .ok (.ifCond .ne 7, 3) := by decide +kernel
theorem dX4_readHeap_41 : decode cX4_readHeap 41 = .ok (.iload_n 1, 1) := by decide +kernel
theorem dX4_readHeap_42 : decode cX4_readHeap 42 = .ok (.iconst 1, 1) := by decide +kernel
theorem dX4_readHeap_43 : decode cX4_readHeap 43 = .ok (.iadd, 1) := by decide +kernel
theorem dX4_readHeap_44 : decode cX4_readHeap 44 = .ok (.ireturn, 1) := by decide +kernel
theorem dX4_readHeap_45 : decode cX4_readHeap 45 = .ok (.iload_n 1, 1) := by decide +kernel
theorem dX4_readHeap_46 : decode cX4_readHeap 46 = .ok (.bipush 15, 2) := by decide +kernel
theorem dX4_readHeap_48 : decode cX4_readHeap 48 = .ok (.if_icmp .eq 12, 3) := by decide +kernel
theorem dX4_readHeap_51 : decode cX4_readHeap 51 = .ok (.aload_n 0, 1) := by decide +kernel
theorem dX4_readHeap_52 : decode cX4_readHeap 52 = .ok (.bipush 44, 2) := by decide +kernel
theorem dX4_readHeap_54 : decode cX4_readHeap 54 = .ok (.invokevirtual 39, 3) := by decide +kernel
theorem dX4_readHeap_57 : decode cX4_readHeap 57 = .ok (.ifCond .ne 11, 3) := by decide +kernel
theorem dX4_readHeap_60 : decode cX4_readHeap 60 = .ok (.bipush (-20), 2) := by decide +kernel
theorem dX4_readHeap_62 : decode cX4_readHeap 62 = .ok (.aload_n 0, 1) := by decide +kernel
theorem dX4_readHeap_63 : decode cX4_readHeap 63 = .ok (.getfield 24, 3) := by decide +kernel
theorem dX4_readHeap_66 : decode cX4_readHeap 66 = .ok (.isub, 1) := by decide +kernel
theorem dX4_readHeap_67 : decode cX4_readHeap 67 = .ok (.ireturn, 1) := by decide +kernel
theorem dX4_readHeap_68 : decode cX4_readHeap 68 = .ok (.iinc 1 1, 3) := by decide +kernel
theorem dX4_readHeap_71 : decode cX4_readHeap 71 = .ok (.goto (-64), 3) := by decide +kernel
theorem dX4_readHeap_74 : decode cX4_readHeap 74 = .ok (.bipush (-20), 2) := by decide +kernel
theorem dX4_readHeap_76 : decode cX4_readHeap 76 = .ok (.aload_n 0, 1) := by decide +kernel
theorem dX4_readHeap_77 : decode cX4_readHeap 77 = .ok (.getfield 24, 3) := by decide +kernel
theorem dX4_readHeap_80 : decode cX4_readHeap 80 = .ok (.isub, 1) := by decide +kernel
theorem dX4_readHeap_81 : decode cX4_readHeap 81 = .ok (.ireturn, 1) := by decide +kernel
theorem dX4_readBride_0 : decode cX4_readBride 0 = .ok (.aload_n 1, 1) := by decide +kernel
theorem dX4_readBride_1 : decode cX4_readBride 1 = .ok (.iconst 2, 1) := by decide +kernel
theorem dX4_readBride_2 : decode cX4_readBride 2 = .ok (.iconst 0, 1) := by decide +kernel
theorem dX4_readBride_3 : decode cX4_readBride 3 = .ok (.iastore, 1) := by decide +kernel
theorem dX4_readBride_4 : decode cX4_readBride 4 = .ok (.aload_n 1, 1) := by decide +kernel
theorem dX4_readBride_5 : decode cX4_readBride 5 = .ok (.iconst 3, 1) := by decide +kernel
theorem dX4_readBride_6 : decode cX4_readBride 6 = .ok (.iconst 0, 1) := by decide +kernel
theorem dX4_readBride_7 : decode cX4_readBride 7 = .ok (.iastore, 1) := by decide +kernel
theorem dX4_readBride_8 : decode cX4_readBride 8 = .ok (.aload_n 0, 1) := by decide +kernel
theorem dX4_readBride_9 : decode cX4_readBride 9 = .ok (.aload_n 1, 1) := by decide +kernel
theorem dX4_readBride_10 : decode cX4_readBride 10 = .ok (.iconst 0, 1) := by decide +kernel
theorem dX4_readBride_11 : decode cX4_readBride 11 = .ok (.getstatic 46, 3) := by decide +kernel
theorem dX4_readBride_14 : decode cX4_readBride 14 = .ok (.iconst 0, 1) := by decide +kernel
theorem dX4_readBride_15 : decode cX4_readBride 15 = .ok (.iaload, 1) := by decide +kernel
theorem dX4_readBride_16 : decode cX4_readBride 16 = .ok (.getstatic 49, 3) := by decide +kernel
theorem dX4_readBride_19 : decode cX4_readBride 19 = .ok (.iconst 0, 1) := by decide +kernel
theorem dX4_readBride_20 : decode cX4_readBride 20 = .ok (.iaload, 1) := by decide +kernel
theorem dX4_readBride_21 : decode cX4_readBride 21 = .ok (.invokevirtual 52, 3) := by decide +kernel
theorem dX4_readBride_24 : decode cX4_readBride 24 = .ok (.ifCond .eq 12, 3) := by decide +kernel
theorem dX4_readBride_27 : decode cX4_readBride 27 = .ok (.aload_n 0, 1) := by decide +kernel
theorem dX4_readBride_28 : decode cX4_readBride 28 = .ok (.bipush 47, 2) := by decide +kernel
theorem dX4_readBride_30 : decode cX4_readBride 30 = .ok (.invokevirtual 39, 3) := by decide +kernel
theorem dX4_readBride_33 : decode cX4_readBride 33 = .ok (.ifCond .ne 5, 3) := by decide +kernel
theorem dX4_readBride_36 : decode cX4_readBride 36 = .ok (.iconst 0, 1) := by decide +kernel
theorem dX4_readBride_37 : decode cX4_readBride 37 = .ok (.ireturn, 1) := by decide +kernel
theorem dX4_readBride_38 : decode cX4_readBride 38 = .ok (.aload_n 0, 1) := by decide +kernel
theorem dX4_readBride_39 : decode cX4_readBride 39 = .ok (.aload_n 1, 1) := by decide +kernel
theorem dX4_readBride_40 : decode cX4_readBride 40 = .ok (.iconst 1, 1) := by decide +kernel
theorem dX4_readBride_41 : decode cX4_readBride 41 = .ok (.getstatic 46, 3) := by decide +kernel
theorem dX4_readBride_44 : decode cX4_readBride 44 = .ok (.iconst 1, 1) := by decide +kernel
theorem dX4_readBride_45 : decode cX4_readBride 45 = .ok (.iaload, 1) := by decide +kernel
theorem dX4_readBride_46 : decode cX4_readBride 46 = .ok (.getstatic 49, 3) := by decide +kernel
theorem dX4_readBride_49 : decode cX4_readBride 49 = .ok (.iconst 1, 1) := by decide +kernel
theorem dX4_readBride_50 : decode cX4_readBride 50 = .ok (.iaload, 1) := by decide +kernel
theorem dX4_readBride_51 : decode cX4_readBride 51 = .ok (.invokevirtual 52, 3) := by decide +kernel
theorem dX4_readBride_54 : decode cX4_readBride 54 = .ok (.ifCond .ne 5, 3) := by decide +kernel
theorem dX4_readBride_57 : decode cX4_readBride 57 = .ok (.iconst 0, 1) := by decide +kernel
theorem dX4_readBride_58 : decode cX4_readBride 58 = .ok (.ireturn, 1) := by decide +kernel
theorem dX4_readBride_59 : decode cX4_readBride 59 = .ok (.aload_n 0, 1) := by decide +kernel
theorem dX4_readBride_60 : decode cX4_readBride 60 = .ok (.bipush 115, 2) := by decide +kernel
theorem dX4_readBride_62 : decode cX4_readBride 62 = .ok (.invokevirtual 39, 3) := by decide +kernel
theorem dX4_readBride_65 : decode cX4_readBride 65 = .ok (.ifCond .eq 13, 3) := by decide +kernel
theorem dX4_readBride_68 : decode cX4_readBride 68 = .ok (.aload_n 0, 1) := by decide +kernel
theorem dX4_readBride_69 : decode cX4_readBride 69 = .ok (.aload_n 1, 1) := by decide +kernel
theorem dX4_readBride_70 : decode cX4_readBride 70 = .ok (.invokevirtual 56, 3) := by decide +kernel
theorem dX4_readBride_73 : decode cX4_readBride 73 = .ok (.ifCond .ne 5, 3) := by decide +kernel
theorem dX4_readBride_76 : decode cX4_readBride 76 = .ok (.iconst 0, 1) := by decide +kernel
theorem dX4_readBride_77 : decode cX4_readBride 77 = .ok (.ireturn, 1) := by decide +kernel
theorem dX4_readBride_78 : decode cX4_readBride 78 = .ok (.aload_n 0, 1) := by decide +kernel
theorem dX4_readBride_79 : decode cX4_readBride 79 = .ok (.bipush 104, 2) := by decide +kernel
theorem dX4_readBride_81 : decode cX4_readBride 81 = .ok (.invokevirtual 39, 3) := by decide +kernel
theorem dX4_readBride_84 : decode cX4_readBride 84 = .ok (.ifCond .eq 22, 3) := by decide +kernel
theorem dX4_readBride_87 : decode cX4_readBride 87 = .ok (.aload_n 0, 1) := by decide +kernel
theorem dX4_readBride_88 : decode cX4_readBride 88 = .ok (.aload_n 1, 1) := by decide +kernel
theorem dX4_readBride_89 : decode cX4_readBride 89 = .ok (.iconst 3, 1) := by decide +kernel
theorem dX4_readBride_90 : decode cX4_readBride 90 = .ok (.getstatic 46, 3) := by decide +kernel
theorem dX4_readBride_93 : decode cX4_readBride 93 = .ok (.iconst 3, 1) := by decide +kernel
theorem dX4_readBride_94 : decode cX4_readBride 94 = .ok (.iaload, 1) := by decide +kernel
theorem dX4_readBride_95 : decode cX4_readBride 95 = .ok (.getstatic 49, 3) := by decide +kernel
theorem dX4_readBride_98 : decode cX4_readBride 98 = .ok (.iconst 3, 1) := by decide +kernel
theorem dX4_readBride_99 : decode cX4_readBride 99 = .ok (.iaload, 1) := by decide +kernel
theorem dX4_readBride_100 : decode cX4_readBride 100 = .ok (.invokevirtual 52, 3) := by decide +kernel
theorem dX4_readBride_103 : decode cX4_readBride 103 = .ok (.ifCond .eq 7, 3) := by decide +kernel
theorem dX4_readBride_106 : decode cX4_readBride 106 = .ok (.iconst 1, 1) := by decide +kernel
theorem dX4_readBride_107 : decode cX4_readBride 107 = .ok (.goto 4, 3) := by decide +kernel
theorem dX4_readBride_110 : decode cX4_readBride 110 = .ok (.iconst 0, 1) := by decide +kernel
theorem dX4_readBride_111 : decode cX4_readBride 111 = .ok (.ireturn, 1) := by decide +kernel
theorem dX4_readSwell_0 : decode cX4_readSwell 0 = .ok (.aload_n 0, 1) := by decide +kernel
theorem dX4_readSwell_1 : decode cX4_readSwell 1 = .ok (.invokevirtual 35, 3) := by decide +kernel
theorem dX4_readSwell_4 : decode cX4_readSwell 4 = .ok (.bipush 48, 2) := by decide +kernel
theorem dX4_readSwell_6 : decode cX4_readSwell 6 = .ok (.isub, 1) := by decide +kernel
theorem dX4_readSwell_7 : decode cX4_readSwell 7 = .ok (.istore_n 2, 1) := by decide +kernel
theorem dX4_readSwell_8 : decode cX4_readSwell 8 = .ok (.iconst 2, 1) := by decide +kernel
theorem dX4_readSwell_9 : decode cX4_readSwell 9 = .ok (.iload_n 2, 1) := by decide +kernel
theorem dX4_readSwell_10 : decode cX4_readSwell 10 = .ok (.invokestatic 59, 3) := by decide +kernel
theorem dX4_readSwell_13 : decode cX4_readSwell 13 = .ok (.ifCond .ne 5, 3) := by decide +kernel
theorem dX4_readSwell_16 : decode cX4_readSwell 16 = .ok (.iconst 0, 1) := by decide +kernel
theorem dX4_readSwell_17 : decode cX4_readSwell 17 = .ok (.ireturn, 1) := by decide +kernel
theorem dX4_readSwell_18 : decode cX4_readSwell 18 = .ok (.aload_n 1, 1) := by decide +kernel
theorem dX4_readSwell_19 : decode cX4_readSwell 19 = .ok (.iconst 2, 1) := by decide +kernel
theorem dX4_readSwell_20 : decode cX4_readSwell 20 = .ok (.iload_n 2, 1) := by decide +kernel
theorem dX4_readSwell_21 : decode cX4_readSwell 21 = .ok (.iastore, 1) := by decide +kernel
theorem dX4_readSwell_22 : decode cX4_readSwell 22 = .ok (.aload_n 0, 1) := by decide +kernel
theorem dX4_readSwell_23 : decode cX4_readSwell 23 = .ok (.dup, 1) := by decide +kernel
theorem dX4_readSwell_24 : decode cX4_readSwell 24 = .ok (.getfield 24, 3) := by decide +kernel
theorem dX4_readSwell_27 : decode cX4_readSwell 27 = .ok (.iconst 1, 1) := by decide +kernel
theorem dX4_readSwell_28 : decode cX4_readSwell 28 = .ok (.iadd, 1) := by decide +kernel
theorem dX4_readSwell_29 : decode cX4_readSwell 29 = .ok (.putfield 24, 3) := by decide +kernel
theorem dX4_readSwell_32 : decode cX4_readSwell 32 = .ok (.iconst 1, 1) := by decide +kernel
theorem dX4_readSwell_33 : decode cX4_readSwell 33 = .ok (.ireturn, 1) := by decide +kernel
theorem dX4_readShoe_0 : decode cX4_readShoe 0 = .ok (.aload_n 1, 1) := by decide +kernel
theorem dX4_readShoe_1 : decode cX4_readShoe 1 = .ok (.iconst 2, 1) := by decide +kernel
theorem dX4_readShoe_2 : decode cX4_readShoe 2 = .ok (.iconst 0, 1) := by decide +kernel
theorem dX4_readShoe_3 : decode cX4_readShoe 3 = .ok (.iastore, 1) := by decide +kernel
theorem dX4_readShoe_4 : decode cX4_readShoe 4 = .ok (.aload_n 1, 1) := by decide +kernel
theorem dX4_readShoe_5 : decode cX4_readShoe 5 = .ok (.iconst 3, 1) := by decide +kernel
theorem dX4_readShoe_6 : decode cX4_readShoe 6 = .ok (.iconst 0, 1) := by decide +kernel
theorem dX4_readShoe_7 : decode cX4_readShoe 7 = .ok (.iastore, 1) := by decide +kernel
theorem dX4_readShoe_8 : decode cX4_readShoe 8 = .ok (.aload_n 1, 1) := by decide +kernel
theorem dX4_readShoe_9 : decode cX4_readShoe 9 = .ok (.iconst 0, 1) := by decide +kernel
theorem dX4_readShoe_10 : decode cX4_readShoe 10 = .ok (.aload_n 0, 1) := by decide +kernel
theorem dX4_readShoe_11 : decode cX4_readShoe 11 = .ok (.invokevirtual 35, 3) := by decide +kernel
theorem dX4_readShoe_14 : decode cX4_readShoe 14 = .ok (.bipush 108, 2) := by decide +kernel
theorem dX4_readShoe_16 : decode cX4_readShoe 16 = .ok (.if_icmp .ne 7, 3) := by decide +kernel
theorem dX4_readShoe_19 : decode cX4_readShoe 19 = .ok (.iconst 0, 1) := by decide +kernel
theorem dX4_readShoe_20 : decode cX4_readShoe 20 = .ok (.goto 4, 3) := by decide +kernel
theorem dX4_readShoe_23 : decode cX4_readShoe 23 = .ok (.iconst 1, 1) := by decide +kernel
theorem dX4_readShoe_24 : decode cX4_readShoe 24 = .ok (.iastore, 1) := by decide +kernel
theorem dX4_readShoe_25 : decode cX4_readShoe 25 = .ok (.aload_n 0, 1) := by decide +kernel
theorem dX4_readShoe_26 : decode cX4_readShoe 26 = .ok (.bipush 108, 2) := by decide +kernel
theorem dX4_readShoe_28 : decode cX4_readShoe 28 = .ok (.invokevirtual 39, 3) := by decide +kernel
theorem dX4_readShoe_31 : decode cX4_readShoe 31 = .ok (.ifCond .ne 14, 3) := by decide +kernel
theorem dX4_readShoe_34 : decode cX4_readShoe 34 = .ok (.aload_n 0, 1) := by decide +kernel
theorem dX4_readShoe_35 : decode cX4_readShoe 35 = .ok (.bipush 114, 2) := by decide +kernel
theorem dX4_readShoe_37 : decode cX4_readShoe 37 = .ok (.invokevirtual 39, 3) := by decide +kernel
theorem dX4_readShoe_40 : decode cX4_readShoe 40 = .ok (.ifCond .ne 5, 3) := by decide +kernel
theorem dX4_readShoe_43 : decode cX4_readShoe 43 = .ok (.iconst 0, 1) := by decide +kernel
theorem dX4_readShoe_44 : decode cX4_readShoe 44 = .ok (.ireturn, 1) := by decide +kernel
theorem dX4_readShoe_45 : decode cX4_readShoe 45 = .ok (.aload_n 0, 1) := by decide +kernel
theorem dX4_readShoe_46 : decode cX4_readShoe 46 = .ok (.aload_n 1, 1) := by decide +kernel
theorem dX4_readShoe_47 : decode cX4_readShoe 47 = .ok (.iconst 1, 1) := by decide +kernel
theorem dX4_readShoe_48 : decode cX4_readShoe 48 = .ok (.getstatic 63, 3) := by decide +kernel
theorem dX4_readShoe_51 : decode cX4_readShoe 51 = .ok (.iconst 1, 1) := by decide +kernel
theorem dX4_readShoe_52 : decode cX4_readShoe 52 = .ok (.iaload, 1) := by decide +kernel
theorem dX4_readShoe_53 : decode cX4_readShoe 53 = .ok (.getstatic 66, 3) := by decide +kernel
theorem dX4_readShoe_56 : decode cX4_readShoe 56 = .ok (.iconst 1, 1) := by decide +kernel
theorem dX4_readShoe_57 : decode cX4_readShoe 57 = .ok (.iaload, 1) := by decide +kernel
theorem dX4_readShoe_58 : decode cX4_readShoe 58 = .ok (.invokevirtual 52, 3) := by decide +kernel
theorem dX4_readShoe_61 : decode cX4_readShoe 61 = .ok (.ifCond .ne 5, 3) := by decide +kernel
theorem dX4_readShoe_64 : decode cX4_readShoe 64 = .ok (.iconst 0, 1) := by decide +kernel
theorem dX4_readShoe_65 : decode cX4_readShoe 65 = .ok (.ireturn, 1) := by decide +kernel
theorem dX4_readShoe_66 : decode cX4_readShoe 66 = .ok (.aload_n 0, 1) := by decide +kernel
theorem dX4_readShoe_67 : decode cX4_readShoe 67 = .ok (.bipush 103, 2) := by decide +kernel
theorem dX4_readShoe_69 : decode cX4_readShoe 69 = .ok (.invokevirtual 39, 3) := by decide +kernel
theorem dX4_readShoe_72 : decode cX4_readShoe 72 = .ok (.ifCond .eq 10, 3) := by decide +kernel
theorem dX4_readShoe_75 : decode cX4_readShoe 75 = .ok (.aload_n 1, 1) := by decide +kernel
theorem dX4_readShoe_76 : decode cX4_readShoe 76 = .ok (.iconst 2, 1) := by decide +kernel
theorem dX4_readShoe_77 : decode cX4_readShoe 77 = .ok (.iconst 1, 1) := by decide +kernel
theorem dX4_readShoe_78 : decode cX4_readShoe 78 = .ok (.iastore, 1) := by decide +kernel
theorem dX4_readShoe_79 : decode cX4_readShoe 79 = .ok (.goto 32, 3) := by decide +kernel
theorem dX4_readShoe_82 : decode cX4_readShoe 82 = .ok (.aload_n 0, 1) := by decide +kernel
theorem dX4_readShoe_83 : decode cX4_readShoe 83 = .ok (.bipush 118, 2) := by decide +kernel
theorem dX4_readShoe_85 : decode cX4_readShoe 85 = .ok (.invokevirtual 39, 3) := by decide +kernel
theorem dX4_readShoe_88 : decode cX4_readShoe 88 = .ok (.ifCond .eq 10, 3) := by decide +kernel
theorem dX4_readShoe_91 : decode cX4_readShoe 91 = .ok (.aload_n 1, 1) := by decide +kernel
theorem dX4_readShoe_92 : decode cX4_readShoe 92 = .ok (.iconst 2, 1) := by decide +kernel
theorem dX4_readShoe_93 : decode cX4_readShoe 93 = .ok (.iconst 2, 1) := by decide +kernel
theorem dX4_readShoe_94 : decode cX4_readShoe 94 = .ok (.iastore, 1) := by decide +kernel
theorem dX4_readShoe_95 : decode cX4_readShoe 95 = .ok (.goto 16, 3) := by decide +kernel
theorem dX4_readShoe_98 : decode cX4_readShoe 98 = .ok (.aload_n 0, 1) := by decide +kernel
theorem dX4_readShoe_99 : decode cX4_readShoe 99 = .ok (.bipush 112, 2) := by decide +kernel
theorem dX4_readShoe_101 : decode cX4_readShoe 101 = .ok (.invokevirtual 39, 3) := by decide +kernel
theorem dX4_readShoe_104 : decode cX4_readShoe 104 = .ok (.ifCond .eq 7, 3) := by decide +kernel
theorem dX4_readShoe_107 : decode cX4_readShoe 107 = .ok (.aload_n 1, 1) := by decide +kernel
theorem dX4_readShoe_108 : decode cX4_readShoe 108 = .ok (.iconst 2, 1) := by decide +kernel
theorem dX4_readShoe_109 : decode cX4_readShoe 109 = .ok (.iconst 3, 1) := by decide +kernel
theorem dX4_readShoe_110 : decode cX4_readShoe 110 = .ok (.iastore, 1) := by decide +kernel
theorem dX4_readShoe_111 : decode cX4_readShoe 111 = .ok (.iconst 1, 1) := by decide +kernel
theorem dX4_readShoe_112 : decode cX4_readShoe 112 = .ok (.ireturn, 1) := by decide +kernel
theorem dX4_next_0 : decode cX4_next 0 = .ok (.aload_n 0, 1) := by decide +kernel
theorem dX4_next_1 : decode cX4_next 1 = .ok (.getfield 24, 3) := by decide +kernel
theorem dX4_next_4 : decode cX4_next 4 = .ok (.aload_n 0, 1) := by decide +kernel
theorem dX4_next_5 : decode cX4_next 5 = .ok (.getfield 20, 3) := by decide +kernel
theorem dX4_next_8 : decode cX4_next 8 = .ok (.if_icmp .ge 30, 3) := by decide +kernel
theorem dX4_next_11 : decode cX4_next 11 = .ok (.aload_n 0, 1) := by decide +kernel
theorem dX4_next_12 : decode cX4_next 12 = .ok (.getfield 9, 3) := by decide +kernel
theorem dX4_next_15 : decode cX4_next 15 = .ok (.aload_n 0, 1) := by decide +kernel
theorem dX4_next_16 : decode cX4_next 16 = .ok (.getfield 24, 3) := by decide +kernel
theorem dX4_next_19 : decode cX4_next 19 = .ok (.iaload, 1) := by decide +kernel
theorem dX4_next_20 : decode cX4_next 20 = .ok (.bipush 32, 2) := by decide +kernel
theorem dX4_next_22 : decode cX4_next 22 = .ok (.if_icmp .ne 16, 3) := by decide +kernel
theorem dX4_next_25 : decode cX4_next 25 = .ok (.aload_n 0, 1) := by decide +kernel
theorem dX4_next_26 : decode cX4_next 26 = .ok (.dup, 1) := by decide +kernel
theorem dX4_next_27 : decode cX4_next 27 = .ok (.getfield 24, 3) := by decide +kernel
theorem dX4_next_30 : decode cX4_next 30 = .ok (.iconst 1, 1) := by decide +kernel
theorem dX4_next_31 : decode cX4_next 31 = .ok (.iadd, 1) := by decide +kernel
theorem dX4_next_32 : decode cX4_next 32 = .ok (.putfield 24, 3) := by decide +kernel
theorem dX4_next_35 : decode cX4_next 35 = .ok (.goto (-35), 3) := by decide +kernel
theorem dX4_next_38 : decode cX4_next 38 = .ok (.aload_n 0, 1) := by decide +kernel
theorem dX4_next_39 : decode cX4_next 39 = .ok (.getfield 24, 3) := by decide +kernel
theorem dX4_next_42 : decode cX4_next 42 = .ok (.aload_n 0, 1) := by decide +kernel
theorem dX4_next_43 : decode cX4_next 43 = .ok (.getfield 20, 3) := by decide +kernel
theorem dX4_next_46 : decode cX4_next 46 = .ok (.if_icmp .ge 15, 3) := by decide +kernel
theorem dX4_next_49 : decode cX4_next 49 = .ok (.aload_n 0, 1) := by decide +kernel
theorem dX4_next_50 : decode cX4_next 50 = .ok (.getfield 9, 3) := by decide +kernel
theorem dX4_next_53 : decode cX4_next 53 = .ok (.aload_n 0, 1) := by decide +kernel
theorem dX4_next_54 : decode cX4_next 54 = .ok (.getfield 24, 3) := by decide +kernel
theorem dX4_next_57 : decode cX4_next 57 = .ok (.iaload, 1) := by decide +kernel
theorem dX4_next_58 : decode cX4_next 58 = .ok (.goto 4, 3) := by decide +kernel
theorem dX4_next_61 : decode cX4_next 61 = .ok (.iconst 0, 1) := by decide +kernel
theorem dX4_next_62 : decode cX4_next 62 = .ok (.ireturn, 1) := by decide +kernel
theorem dX4_isPassed_0 : decode cX4_isPassed 0 = .ok (.aload_n 0, 1) := by decide +kernel
theorem dX4_isPassed_1 : decode cX4_isPassed 1 = .ok (.invokevirtual 35, 3) := by decide +kernel
theorem dX4_isPassed_4 : decode cX4_isPassed 4 = .ok (.iload_n 1, 1) := by decide +kernel
theorem dX4_isPassed_5 : decode cX4_isPassed 5 = .ok (.if_icmp .eq 5, 3) := by decide +kernel
theorem dX4_isPassed_8 : decode cX4_isPassed 8 = .ok (.iconst 0, 1) := by decide +kernel
theorem dX4_isPassed_9 : decode cX4_isPassed 9 = .ok (.ireturn, 1) := by decide +kernel
theorem dX4_isPassed_10 : decode cX4_isPassed 10 = .ok (.aload_n 0, 1) := by decide +kernel
theorem dX4_isPassed_11 : decode cX4_isPassed 11 = .ok (.dup, 1) := by decide +kernel
theorem dX4_isPassed_12 : decode cX4_isPassed 12 = .ok (.getfield 24, 3) := by decide +kernel
theorem dX4_isPassed_15 : decode cX4_isPassed 15 = .ok (.iconst 1, 1) := by decide +kernel
theorem dX4_isPassed_16 : decode cX4_isPassed 16 = .ok (.iadd, 1) := by decide +kernel
theorem dX4_isPassed_17 : decode cX4_isPassed 17 = .ok (.putfield 24, 3) := by decide +kernel
theorem dX4_isPassed_20 : decode cX4_isPassed 20 = .ok (.iconst 1, 1) := by decide +kernel
theorem dX4_isPassed_21 : decode cX4_isPassed 21 = .ok (.ireturn, 1) := by decide +kernel
theorem dX4_readNumber_0 : decode cX4_readNumber 0 = .ok (.aload_n 0, 1) := by decide +kernel
theorem dX4_readNumber_1 : decode cX4_readNumber 1 = .ok (.invokevirtual 35, 3) := by decide +kernel
theorem dX4_readNumber_4 : decode cX4_readNumber 4 = .ok (.pop, 1) := by decide +kernel
theorem dX4_readNumber_5 : decode cX4_readNumber 5 = .ok (.aload_n 0, 1) := by decide +kernel
theorem dX4_readNumber_6 : decode cX4_readNumber 6 = .ok (.getfield 24, 3) := by decide +kernel
theorem dX4_readNumber_9 : decode cX4_readNumber 9 = .ok (.istore 5, 2) := by decide +kernel
theorem dX4_readNumber_11 : decode cX4_readNumber 11 = .ok (.iconst 0, 1) := by decide +kernel
theorem dX4_readNumber_12 : decode cX4_readNumber 12 = .ok (.istore 6, 2) := by decide +kernel
theorem dX4_readNumber_14 : decode cX4_readNumber 14 = .ok (.aload_n 0, 1) := by decide +kernel
theorem dX4_readNumber_15 : decode cX4_readNumber 15 = .ok (.getfield 24, 3) := by decide +kernel
theorem dX4_readNumber_18 : decode cX4_readNumber 18 = .ok (.aload_n 0, 1) := by decide +kernel
theorem dX4_readNumber_19 : decode cX4_readNumber 19 = .ok (.getfield 20, 3) := by decide +kernel
theorem dX4_readNumber_22 : decode cX4_readNumber 22 = .ok (.if_icmp .ge 61, 3) := by decide +kernel
theorem dX4_readNumber_25 : decode cX4_readNumber 25 = .ok (.aload_n 0, 1) := by decide +kernel
theorem dX4_readNumber_26 : decode cX4_readNumber 26 = .ok (.getfield 9, 3) := by decide +kernel
theorem dX4_readNumber_29 : decode cX4_readNumber 29 = .ok (.aload_n 0, 1) := by decide +kernel
theorem dX4_readNumber_30 : decode cX4_readNumber 30 = .ok (.getfield 24, 3) := by decide +kernel
theorem dX4_readNumber_33 : decode cX4_readNumber 33 = .ok (.iaload, 1) := by decide +kernel
theorem dX4_readNumber_34 : decode cX4_readNumber 34 = .ok (.bipush 48, 2) := by decide +kernel
theorem dX4_readNumber_36 : decode cX4_readNumber 36 = .ok (.bipush 57, 2) := by decide +kernel
theorem dX4_readNumber_38 : decode cX4_readNumber 38 = .ok (.invokestatic 27, 3) := by decide +kernel
theorem dX4_readNumber_41 : decode cX4_readNumber 41 = .ok (.ifCond .eq 42, 3) := by decide +kernel
theorem dX4_readNumber_44 : decode cX4_readNumber 44 = .ok (.sipush 1000, 3) := by decide +kernel
theorem dX4_readNumber_47 : decode cX4_readNumber 47 = .ok (.bipush 10, 2) := by decide +kernel
theorem dX4_readNumber_49 : decode cX4_readNumber 49 = .ok (.iload 6, 2) := by decide +kernel
theorem dX4_readNumber_51 : decode cX4_readNumber 51 = .ok (.imul, 1) := by decide +kernel
theorem dX4_readNumber_52 : decode cX4_readNumber 52 = .ok (.aload_n 0, 1) := by decide +kernel
theorem dX4_readNumber_53 : decode cX4_readNumber 53 = .ok (.getfield 9, 3) := by decide +kernel
theorem dX4_readNumber_56 : decode cX4_readNumber 56 = .ok (.aload_n 0, 1) := by decide +kernel
theorem dX4_readNumber_57 : decode cX4_readNumber 57 = .ok (.getfield 24, 3) := by decide +kernel
theorem dX4_readNumber_60 : decode cX4_readNumber 60 = .ok (.iaload, 1) := by decide +kernel
theorem dX4_readNumber_61 : decode cX4_readNumber 61 = .ok (.iadd, 1) := by decide +kernel
theorem dX4_readNumber_62 : decode cX4_readNumber 62 = .ok (.bipush 48, 2) := by decide +kernel
theorem dX4_readNumber_64 : decode cX4_readNumber 64 = .ok (.isub, 1) := by decide +kernel
theorem dX4_readNumber_65 : decode cX4_readNumber 65 = .ok (.invokestatic 69, 3) := by decide +kernel
theorem dX4_readNumber_68 : decode cX4_readNumber 68 = .ok (.istore 6, 2) := by decide +kernel
theorem dX4_readNumber_70 : decode cX4_readNumber 70 = .ok (.aload_n 0, 1) := by decide +kernel
theorem dX4_readNumber_71 : decode cX4_readNumber 71 = .ok (.dup, 1) := by decide +kernel
theorem dX4_readNumber_72 : decode cX4_readNumber 72 = .ok (.getfield 24, 3) := by decide +kernel
theorem dX4_readNumber_75 : decode cX4_readNumber 75 = .ok (.iconst 1, 1) := by decide +kernel
theorem dX4_readNumber_76 : decode cX4_readNumber 76 = .ok (.iadd, 1) := by decide +kernel
theorem dX4_readNumber_77 : decode cX4_readNumber 77 = .ok (.putfield 24, 3) := by decide +kernel
theorem dX4_readNumber_80 : decode cX4_readNumber 80 = .ok (.goto (-66), 3) := by decide +kernel
theorem dX4_readNumber_83 : decode cX4_readNumber 83 = .ok (.aload_n 0, 1) := by decide +kernel
theorem dX4_readNumber_84 : decode cX4_readNumber 84 = .ok (.getfield 24, 3) := by decide +kernel
theorem dX4_readNumber_87 : decode cX4_readNumber 87 = .ok (.iload 5, 2) := by decide +kernel
theorem dX4_readNumber_89 : decode cX4_readNumber 89 = .ok (.if_icmp .eq 14, 3) := by decide +kernel
theorem dX4_readNumber_92 : decode cX4_readNumber 92 = .ok (.iload 6, 2) := by decide +kernel
theorem dX4_readNumber_94 : decode cX4_readNumber 94 = .ok (.iload_n 3, 1) := by decide +kernel
theorem dX4_readNumber_95 : decode cX4_readNumber 95 = .ok (.iload 4, 2) := by decide +kernel
theorem dX4_readNumber_97 : decode cX4_readNumber 97 = .ok (.invokestatic 27, 3) := by decide +kernel
theorem dX4_readNumber_100 : decode cX4_readNumber 100 = .ok (.ifCond .ne 11, 3) := by decide +kernel
theorem dX4_readNumber_103 : decode cX4_readNumber 103 = .ok (.aload_n 0, 1) := by decide +kernel
theorem dX4_readNumber_104 : decode cX4_readNumber 104 = .ok (.iload 5, 2) := by decide +kernel
theorem dX4_readNumber_106 : decode cX4_readNumber 106 = .ok (.putfield 24, 3) := by decide +kernel
theorem dX4_readNumber_109 : decode cX4_readNumber 109 = .ok (.iconst 0, 1) := by decide +kernel
theorem dX4_readNumber_110 : decode cX4_readNumber 110 = .ok (.ireturn, 1) := by decide +kernel
theorem dX4_readNumber_111 : decode cX4_readNumber 111 = .ok (.aload_n 1, 1) := by decide +kernel
theorem dX4_readNumber_112 : decode cX4_readNumber 112 = .ok (.iload_n 2, 1) := by decide +kernel
theorem dX4_readNumber_113 : decode cX4_readNumber 113 = .ok (.iload 6, 2) := by decide +kernel
theorem dX4_readNumber_115 : decode cX4_readNumber 115 = .ok (.iastore, 1) := by decide +kernel
theorem dX4_readNumber_116 : decode cX4_readNumber 116 = .ok (.iconst 1, 1) := by decide +kernel
theorem dX4_readNumber_117 : decode cX4_readNumber 117 = .ok (.ireturn, 1) := by decide +kernel
theorem dX5_init_0 : decode cX5_init 0 = .ok (.aload_n 0, 1) := by decide +kernel
theorem dX5_init_1 : decode cX5_init 1 = .ok (.invokespecial 3, 3) := by decide +kernel
theorem dX5_init_4 : decode cX5_init 4 = .ok (.aload_n 0, 1) := by decide +kernel
theorem dX5_init_5 : decode cX5_init 5 = .ok (.bipush 42, 2) := by decide +kernel
theorem dX5_init_7 : decode cX5_init 7 = .ok (.bipush 42, 2) := by decide +kernel
theorem dX5_init_9 : decode cX5_init 9 = .ok (.multianewarray 11 2, 4) := by decide +kernel
theorem dX5_init_13 : decode cX5_init 13 = .ok (.putfield 13, 3) := by decide +kernel
theorem dX5_init_16 : decode cX5_init 16 = .ok (.aload_n 0, 1) := by decide +kernel
theorem dX5_init_17 : decode cX5_init 17 = .ok (.lconst 0, 1) := by decide +kernel
theorem dX5_init_18 : decode cX5_init 18 = .ok (.putfield 16, 3) := by decide +kernel
theorem dX5_init_21 : decode cX5_init 21 = .ok (.return_, 1) := by decide +kernel
theorem dX5_findFewest_0 : decode cX5_findFewest 0 = .ok (.aload_n 0, 1) := by decide +kernel
theorem dX5_findFewest_1 : decode cX5_findFewest 1 = .ok (.lconst 0, 1) := by decide +kernel
theorem dX5_findFewest_2 : decode cX5_findFewest 2 = .ok (.putfield 16, 3) := by decide +kernel
theorem dX5_findFewest_5 : decode cX5_findFewest 5 = .ok (.iconst 0, 1) := by decide +kernel
theorem dX5_findFewest_6 : decode cX5_findFewest 6 = .ok (.istore 5, 2) := by decide +kernel
theorem dX5_findFewest_8 : decode cX5_findFewest 8 = .ok (.iload 5, 2) := by decide +kernel
theorem dX5_findFewest_10 : decode cX5_findFewest 10 = .ok (.aload_n 1, 1) := by decide +kernel
theorem dX5_findFewest_11 : decode cX5_findFewest 11 = .ok (.getfield 20, 3) := by decide +kernel
theorem dX5_findFewest_14 : decode cX5_findFewest 14 = .ok (.if_icmp .ge 42, 3) := by decide +kernel
theorem dX5_findFewest_17 : decode cX5_findFewest 17 = .ok (.aload_n 1, 1) := by decide +kernel
theorem dX5_findFewest_18 : decode cX5_findFewest 18 = .ok (.iload 5, 2) := by decide +kernel
theorem dX5_findFewest_20 : decode cX5_findFewest 20 = .ok (.iload_n 2, 1) := by decide +kernel
theorem dX5_findFewest_21 : decode cX5_findFewest 21 = .ok (.invokevirtual 26, 3) := by decide +kernel
theorem dX5_findFewest_24 : decode cX5_findFewest 24 = .ok (.ifCond .eq 26, 3) := by decide +kernel
theorem dX5_findFewest_27 : decode cX5_findFewest 27 = .ok (.aload_n 0, 1) := by decide +kernel
theorem dX5_findFewest_28 : decode cX5_findFewest 28 = .ok (.dup, 1) := by decide +kernel
theorem dX5_findFewest_29 : decode cX5_findFewest 29 = .ok (.getfield 16, 3) := by decide +kernel
theorem dX5_findFewest_32 : decode cX5_findFewest 32 = .ok (.lconst 1, 1) := by decide +kernel
theorem dX5_findFewest_33 : decode cX5_findFewest 33 = .ok (.aload_n 1, 1) := by decide +kernel
theorem dX5_findFewest_34 : decode cX5_findFewest 34 = .ok (.getfield 30, 3) := by decide +kernel
theorem dX5_findFewest_37 : decode cX5_findFewest 37 = .ok (.iload 5, 2) := by decide +kernel
theorem dX5_findFewest_39 : decode cX5_findFewest 39 = .ok (.aaload, 1) := by decide +kernel
theorem dX5_findFewest_40 : decode cX5_findFewest 40 = .ok (.iconst 1, 1) := by decide +kernel
theorem dX5_findFewest_41 : decode cX5_findFewest 41 = .ok (.iaload, 1) := by decide +kernel
theorem dX5_findFewest_42 : decode cX5_findFewest 42 = .ok (.bipush 20, 2) := by decide +kernel
theorem dX5_findFewest_44 : decode cX5_findFewest 44 = .ok (.isub, 1) := by decide +kernel
theorem dX5_findFewest_45 : decode cX5_findFewest 45 = .ok (.lshl, 1) := by decide +kernel
theorem dX5_findFewest_46 : decode cX5_findFewest 46 = .ok (.lor, 1) := by decide +kernel
theorem dX5_findFewest_47 : decode cX5_findFewest 47 = .ok (.putfield 16, 3) := by decide +kernel
theorem dX5_findFewest_50 : decode cX5_findFewest 50 = .ok (.iinc 5 1, 3) := by decide +kernel
theorem dX5_findFewest_53 : decode cX5_findFewest 53 = .ok (.goto (-45), 3) := by decide +kernel
theorem dX5_findFewest_56 : decode cX5_findFewest 56 = .ok (.iload_n 3, 1) := by decide +kernel
theorem dX5_findFewest_57 : decode cX5_findFewest 57 = .ok (.bipush 20, 2) := by decide +kernel
theorem dX5_findFewest_59 : decode cX5_findFewest 59 = .ok (.isub, 1) := by decide +kernel
theorem dX5_findFewest_60 : decode cX5_findFewest 60 = .ok (.istore 5, 2) := by decide +kernel
theorem dX5_findFewest_62 : decode cX5_findFewest 62 = .ok (.iload 4, 2) := by decide +kernel
theorem dX5_findFewest_64 : decode cX5_findFewest 64 = .ok (.bipush 20, 2) := by decide +kernel
theorem dX5_findFewest_66 : decode cX5_findFewest 66 = .ok (.isub, 1) := by decide +kernel
theorem dX5_findFewest_67 : decode cX5_findFewest 67 = .ok (.iconst 1, 1) := by decide +kernel
theorem dX5_findFewest_68 : decode cX5_findFewest 68 = .ok (.iadd, 1) := by decide +kernel
theorem dX5_findFewest_69 : decode cX5_findFewest 69 = .ok (.istore 6, 2) := by decide +kernel
theorem dX5_findFewest_71 : decode cX5_findFewest 71 = .ok (.iconst 0, 1) := by decide +kernel
theorem dX5_findFewest_72 : decode cX5_findFewest 72 = .ok (.istore 7, 2) := by decide +kernel
theorem dX5_findFewest_74 : decode cX5_findFewest 74 = .ok (.iload 7, 2) := by decide +kernel
theorem dX5_findFewest_76 : decode cX5_findFewest 76 = .ok (.iload 6, 2) := by decide +kernel
theorem dX5_findFewest_78 : decode cX5_findFewest 78 = .ok (.iload 5, 2) := by decide +kernel
theorem dX5_findFewest_80 : decode cX5_findFewest 80 = .ok (.isub, 1) := by decide +kernel
theorem dX5_findFewest_81 : decode cX5_findFewest 81 = .ok (.if_icmp .gt 63, 3) := by decide +kernel
theorem dX5_findFewest_84 : decode cX5_findFewest 84 = .ok (.iload 5, 2) := by decide +kernel
theorem dX5_findFewest_86 : decode cX5_findFewest 86 = .ok (.istore 8, 2) := by decide +kernel
theorem dX5_findFewest_88 : decode cX5_findFewest 88 = .ok (.iload 8, 2) := by decide +kernel
theorem dX5_findFewest_90 : decode cX5_findFewest 90 = .ok (.iload 7, 2) := by decide +kernel
theorem dX5_findFewest_92 : decode cX5_findFewest 92 = .ok (.iadd, 1) := by decide +kernel
theorem dX5_findFewest_93 : decode cX5_findFewest 93 = .ok (.iload 6, 2) := by decide +kernel
theorem dX5_findFewest_95 : decode cX5_findFewest 95 = .ok (.if_icmp .gt 43, 3) := by decide +kernel
theorem dX5_findFewest_98 : decode cX5_findFewest 98 = .ok (.aload_n 0, 1) := by decide +kernel
theorem dX5_findFewest_99 : decode cX5_findFewest 99 = .ok (.getfield 13, 3) := by decide +kernel
theorem dX5_findFewest_102 : decode cX5_findFewest 102 = .ok (.iload 8, 2) := by decide +kernel
theorem dX5_findFewest_104 : decode cX5_findFewest 104 = .ok (.aaload, 1) := by decide +kernel
theorem dX5_findFewest_105 : decode cX5_findFewest 105 = .ok (.iload 8, 2) := by decide +kernel
theorem dX5_findFewest_107 : decode cX5_findFewest 107 = .ok (.iload 7, 2) := by decide +kernel
theorem dX5_findFewest_109 : decode cX5_findFewest 109 = .ok (.iadd, 1) := by decide +kernel
theorem dX5_findFewest_110 : decode cX5_findFewest 110 = .ok (.iload 7, 2) := by decide +kernel
theorem dX5_findFewest_112 : decode cX5_findFewest 112 = .ok (.iconst 2, 1) := by decide +kernel
theorem dX5_findFewest_113 : decode cX5_findFewest 113 = .ok (.if_icmp .ge 7, 3) := by decide +kernel
theorem dX5_findFewest_116 : decode cX5_findFewest 116 = .ok (.iconst 0, 1) := by decide +kernel
theorem dX5_findFewest_117 : decode cX5_findFewest 117 = .ok (.goto 14, 3) := by decide +kernel
theorem dX5_findFewest_120 : decode cX5_findFewest 120 = .ok (.aload_n 0, 1) := by decide +kernel
theorem dX5_findFewest_121 : decode cX5_findFewest 121 = .ok (.iload 8, 2) := by decide +kernel
theorem dX5_findFewest_123 : decode cX5_findFewest 123 = .ok (.iload 8, 2) := by decide +kernel
theorem dX5_findFewest_125 : decode cX5_findFewest 125 = .ok (.iload 7, 2) := by decide +kernel
theorem dX5_findFewest_127 : decode cX5_findFewest 127 = .ok (.iadd, 1) := by decide +kernel
theorem dX5_findFewest_128 : decode cX5_findFewest 128 = .ok (.invokevirtual 33, 3) := by decide +kernel
theorem dX5_findFewest_131 : decode cX5_findFewest 131 = .ok (.iastore, 1) := by decide +kernel
theorem dX5_findFewest_132 : decode cX5_findFewest 132 = .ok (.iinc 8 1, 3) := by decide +kernel
theorem dX5_findFewest_135 : decode cX5_findFewest 135 = .ok (.goto (-47), 3) := by decide +kernel
theorem dX5_findFewest_138 : decode cX5_findFewest 138 = .ok (.iinc 7 1, 3) := by decide +kernel
theorem dX5_findFewest_141 : decode cX5_findFewest 141 = .ok (.goto (-67), 3) := by decide +kernel
theorem dX5_findFewest_144 : decode cX5_findFewest 144 = .ok (.return_, 1) := by decide +kernel
theorem dX5_fewestOf_0 : decode cX5_fewestOf 0 = .ok (.bipush 100, 2) := by decide +kernel
theorem dX5_fewestOf_2 : decode cX5_fewestOf 2 = .ok (.istore_n 3, 1) := by decide +kernel
theorem dX5_fewestOf_3 : decode cX5_fewestOf 3 = .ok (.iload_n 1, 1) := by decide +kernel
theorem dX5_fewestOf_4 : decode cX5_fewestOf 4 = .ok (.istore 4, 2) := by decide +kernel
theorem dX5_fewestOf_6 : decode cX5_fewestOf 6 = .ok (.iload 4, 2) := by decide +kernel
theorem dX5_fewestOf_8 : decode cX5_fewestOf 8 = .ok (.iload_n 2, 1) := by decide +kernel
theorem dX5_fewestOf_9 : decode cX5_fewestOf 9 = .ok (.if_icmp .ge 22, 3) := by decide +kernel
theorem dX5_fewestOf_12 : decode cX5_fewestOf 12 = .ok (.iload_n 3, 1) := by decide +kernel
theorem dX5_fewestOf_13 : decode cX5_fewestOf 13 = .ok (.aload_n 0, 1) := by decide +kernel
theorem dX5_fewestOf_14 : decode cX5_fewestOf 14 = .ok (.iload 4, 2) := by decide +kernel
theorem dX5_fewestOf_16 : decode cX5_fewestOf 16 = .ok (.iload_n 1, 1) := by decide +kernel
theorem dX5_fewestOf_17 : decode cX5_fewestOf 17 = .ok (.iload_n 2, 1) := by decide +kernel
theorem dX5_fewestOf_18 : decode cX5_fewestOf 18 = .ok (.invokevirtual 37, 3) := by decide +kernel
theorem dX5_fewestOf_21 : decode cX5_fewestOf 21 = .ok (.invokestatic 41, 3) := by decide +kernel
theorem dX5_fewestOf_24 : decode cX5_fewestOf 24 = .ok (.istore_n 3, 1) := by decide +kernel
theorem dX5_fewestOf_25 : decode cX5_fewestOf 25 = .ok (.iinc 4 1, 3) := by decide +kernel
theorem dX5_fewestOf_28 : decode cX5_fewestOf 28 = .ok (.goto (-22), 3) := by decide +kernel
theorem dX5_fewestOf_31 : decode cX5_fewestOf 31 = .ok (.iload_n 3, 1) := by decide +kernel
theorem dX5_fewestOf_32 : decode cX5_fewestOf 32 = .ok (.ireturn, 1) := by decide +kernel
theorem dX5_fewestBy_0 : decode cX5_fewestBy 0 = .ok (.aload_n 0, 1) := by decide +kernel
theorem dX5_fewestBy_1 : decode cX5_fewestBy 1 = .ok (.getfield 16, 3) := by decide +kernel
theorem dX5_fewestBy_4 : decode cX5_fewestBy 4 = .ok (.iload_n 1, 1) := by decide +kernel
theorem dX5_fewestBy_5 : decode cX5_fewestBy 5 = .ok (.lshr, 1) := by decide +kernel
theorem dX5_fewestBy_6 : decode cX5_fewestBy 6 = .ok (.lconst 1, 1) := by decide +kernel
theorem dX5_fewestBy_7 : decode cX5_fewestBy 7 = .ok (.land, 1) := by decide +kernel
theorem dX5_fewestBy_8 : decode cX5_fewestBy 8 = .ok (.lconst 0, 1) := by decide +kernel
theorem dX5_fewestBy_9 : decode cX5_fewestBy 9 = .ok (.lcmp, 1) := by decide +kernel
theorem dX5_fewestBy_10 : decode cX5_fewestBy 10 = .ok (.ifCond .ne 6, 3) := by decide +kernel
theorem dX5_fewestBy_13 : decode cX5_fewestBy 13 = .ok (.bipush 100, 2) := by decide +kernel
theorem dX5_fewestBy_15 : decode cX5_fewestBy 15 = .ok (.ireturn, 1) := by decide +kernel
theorem dX5_fewestBy_16 : decode cX5_fewestBy 16 = .ok (.bipush 100, 2) := by decide +kernel
theorem dX5_fewestBy_18 : decode cX5_fewestBy 18 = .ok (.iconst 1, 1) := by decide +kernel
theorem dX5_fewestBy_19 : decode cX5_fewestBy 19 = .ok (.aload_n 0, 1) := by decide +kernel
theorem dX5_fewestBy_20 : decode cX5_fewestBy 20 = .ok (.getfield 13, 3) := by decide +kernel
theorem dX5_fewestBy_23 : decode cX5_fewestBy 23 = .ok (.iload_n 2, 1) := by decide +kernel
theorem dX5_fewestBy_24 : decode cX5_fewestBy 24 = .ok (.aaload, 1) := by decide +kernel
theorem dX5_fewestBy_25 : decode cX5_fewestBy 25 = .ok (.iload_n 1, 1) := by decide +kernel
theorem dX5_fewestBy_26 : decode cX5_fewestBy 26 = .ok (.iaload, 1) := by decide +kernel
theorem dX5_fewestBy_27 : decode cX5_fewestBy 27 = .ok (.aload_n 0, 1) := by decide +kernel
theorem dX5_fewestBy_28 : decode cX5_fewestBy 28 = .ok (.getfield 13, 3) := by decide +kernel
theorem dX5_fewestBy_31 : decode cX5_fewestBy 31 = .ok (.iload_n 1, 1) := by decide +kernel
theorem dX5_fewestBy_32 : decode cX5_fewestBy 32 = .ok (.iconst 1, 1) := by decide +kernel
theorem dX5_fewestBy_33 : decode cX5_fewestBy 33 = .ok (.iadd, 1) := by decide +kernel
theorem dX5_fewestBy_34 : decode cX5_fewestBy 34 = .ok (.aaload, 1) := by decide +kernel
theorem dX5_fewestBy_35 : decode cX5_fewestBy 35 = .ok (.iload_n 3, 1) := by decide +kernel
theorem dX5_fewestBy_36 : decode cX5_fewestBy 36 = .ok (.iaload, 1) := by decide +kernel
theorem dX5_fewestBy_37 : decode cX5_fewestBy 37 = .ok (.invokestatic 46, 3) := by decide +kernel
theorem dX5_fewestBy_40 : decode cX5_fewestBy 40 = .ok (.iadd, 1) := by decide +kernel
theorem dX5_fewestBy_41 : decode cX5_fewestBy 41 = .ok (.invokestatic 41, 3) := by decide +kernel
theorem dX5_fewestBy_44 : decode cX5_fewestBy 44 = .ok (.ireturn, 1) := by decide +kernel
theorem dX5_fewestTries_0 : decode cX5_fewestTries 0 = .ok (.aload_n 0, 1) := by decide +kernel
theorem dX5_fewestTries_1 : decode cX5_fewestTries 1 = .ok (.getfield 13, 3) := by decide +kernel
theorem dX5_fewestTries_4 : decode cX5_fewestTries 4 = .ok (.iload_n 1, 1) := by decide +kernel
theorem dX5_fewestTries_5 : decode cX5_fewestTries 5 = .ok (.bipush 20, 2) := by decide +kernel
theorem dX5_fewestTries_7 : decode cX5_fewestTries 7 = .ok (.isub, 1) := by decide +kernel
theorem dX5_fewestTries_8 : decode cX5_fewestTries 8 = .ok (.aaload, 1) := by decide +kernel
theorem dX5_fewestTries_9 : decode cX5_fewestTries 9 = .ok (.iload_n 2, 1) := by decide +kernel
theorem dX5_fewestTries_10 : decode cX5_fewestTries 10 = .ok (.bipush 20, 2) := by decide +kernel
theorem dX5_fewestTries_12 : decode cX5_fewestTries 12 = .ok (.isub, 1) := by decide +kernel
theorem dX5_fewestTries_13 : decode cX5_fewestTries 13 = .ok (.iconst 1, 1) := by decide +kernel
theorem dX5_fewestTries_14 : decode cX5_fewestTries 14 = .ok (.iadd, 1) := by decide +kernel
theorem dX5_fewestTries_15 : decode cX5_fewestTries 15 = .ok (.iaload, 1) := by decide +kernel
theorem dX5_fewestTries_16 : decode cX5_fewestTries 16 = .ok (.istore_n 3, 1) := by decide +kernel
theorem dX5_fewestTries_17 : decode cX5_fewestTries 17 = .ok (.iload_n 3, 1) := by decide +kernel
theorem dX5_fewestTries_18 : decode cX5_fewestTries 18 = .ok (.bipush 100, 2) := by decide +kernel
theorem dX5_fewestTries_20 : decode cX5_fewestTries 20 = .ok (.if_icmp .ne 8, 3) := by decide +kernel
theorem dX5_fewestTries_23 : decode cX5_fewestTries 23 = .ok (.bipush (-4), 2) := by decide +kernel
theorem dX5_fewestTries_25 : decode cX5_fewestTries 25 = .ok (.goto 4, 3) := by decide +kernel
theorem dX5_fewestTries_28 : decode cX5_fewestTries 28 = .ok (.iload_n 3, 1) := by decide +kernel
theorem dX5_fewestTries_29 : decode cX5_fewestTries 29 = .ok (.ireturn, 1) := by decide +kernel
theorem dX5_firstTried_0 : decode cX5_firstTried 0 = .ok (.iload_n 1, 1) := by decide +kernel
theorem dX5_firstTried_1 : decode cX5_firstTried 1 = .ok (.bipush 20, 2) := by decide +kernel
theorem dX5_firstTried_3 : decode cX5_firstTried 3 = .ok (.isub, 1) := by decide +kernel
theorem dX5_firstTried_4 : decode cX5_firstTried 4 = .ok (.istore_n 3, 1) := by decide +kernel
theorem dX5_firstTried_5 : decode cX5_firstTried 5 = .ok (.iload_n 2, 1) := by decide +kernel
theorem dX5_firstTried_6 : decode cX5_firstTried 6 = .ok (.bipush 20, 2) := by decide +kernel
theorem dX5_firstTried_8 : decode cX5_firstTried 8 = .ok (.isub, 1) := by decide +kernel
theorem dX5_firstTried_9 : decode cX5_firstTried 9 = .ok (.iconst 1, 1) := by decide +kernel
theorem dX5_firstTried_10 : decode cX5_firstTried 10 = .ok (.iadd, 1) := by decide +kernel
theorem dX5_firstTried_11 : decode cX5_firstTried 11 = .ok (.istore 4, 2) := by decide +kernel
theorem dX5_firstTried_13 : decode cX5_firstTried 13 = .ok (.aload_n 0, 1) := by decide +kernel
theorem dX5_firstTried_14 : decode cX5_firstTried 14 = .ok (.getfield 13, 3) := by decide +kernel
theorem dX5_firstTried_17 : decode cX5_firstTried 17 = .ok (.iload_n 3, 1) := by decide +kernel
theorem dX5_firstTried_18 : decode cX5_firstTried 18 = .ok (.aaload, 1) := by decide +kernel
theorem dX5_firstTried_19 : decode cX5_firstTried 19 = .ok (.iload 4, 2) := by decide +kernel
theorem dX5_firstTried_21 : decode cX5_firstTried 21 = .ok (.iaload, 1) := by decide +kernel
theorem dX5_firstTried_22 : decode cX5_firstTried 22 = .ok (.istore 5, 2) := by decide +kernel
theorem dX5_firstTried_24 : decode cX5_firstTried 24 = .ok (.iload 5, 2) := by decide +kernel
theorem dX5_firstTried_26 : decode cX5_firstTried 26 = .ok (.ifCond .eq 10, 3) := by decide +kernel
theorem dX5_firstTried_29 : decode cX5_firstTried 29 = .ok (.iload 5, 2) := by decide +kernel
theorem dX5_firstTried_31 : decode cX5_firstTried 31 = .ok (.bipush 100, 2) := by decide +kernel
theorem dX5_firstTried_33 : decode cX5_firstTried 33 = .ok (.if_icmp .ne 6, 3) := by decide +kernel
theorem dX5_firstTried_36 : decode cX5_firstTried 36 = .ok (.bipush (-4), 2) := by decide +kernel
theorem dX5_firstTried_38 : decode cX5_firstTried 38 = .ok (.ireturn, 1) := by decide +kernel
theorem dX5_firstTried_39 : decode cX5_firstTried 39 = .ok (.iload_n 3, 1) := by decide +kernel
theorem dX5_firstTried_40 : decode cX5_firstTried 40 = .ok (.istore 6, 2) := by decide +kernel
theorem dX5_firstTried_42 : decode cX5_firstTried 42 = .ok (.iload 6, 2) := by decide +kernel
theorem dX5_firstTried_44 : decode cX5_firstTried 44 = .ok (.iload 4, 2) := by decide +kernel
theorem dX5_firstTried_46 : decode cX5_firstTried 46 = .ok (.if_icmp .ge 29, 3) := by decide +kernel
theorem dX5_firstTried_49 : decode cX5_firstTried 49 = .ok (.aload_n 0, 1) := by decide +kernel
theorem dX5_firstTried_50 : decode cX5_firstTried 50 = .ok (.iload 6, 2) := by decide +kernel
theorem dX5_firstTried_52 : decode cX5_firstTried 52 = .ok (.iload_n 3, 1) := by decide +kernel
theorem dX5_firstTried_53 : decode cX5_firstTried 53 = .ok (.iload 4, 2) := by decide +kernel
theorem dX5_firstTried_55 : decode cX5_firstTried 55 = .ok (.invokevirtual 37, 3) := by decide +kernel
theorem dX5_firstTried_58 : decode cX5_firstTried 58 = .ok (.iload 5, 2) := by decide +kernel
theorem dX5_firstTried_60 : decode cX5_firstTried 60 = .ok (.if_icmp .ne 9, 3) := by decide +kernel
theorem dX5_firstTried_63 : decode cX5_firstTried 63 = .ok (.iload 6, 2) := by decide +kernel
theorem dX5_firstTried_65 : decode cX5_firstTried 65 = .ok (.bipush 20, 2) := by decide +kernel
theorem dX5_firstTried_67 : decode cX5_firstTried 67 = .ok (.iadd, 1) := by decide +kernel
theorem dX5_firstTried_68 : decode cX5_firstTried 68 = .ok (.ireturn, 1) := by decide +kernel
theorem dX5_firstTried_69 : decode cX5_firstTried 69 = .ok (.iinc 6 1, 3) := by decide +kernel
theorem dX5_firstTried_72 : decode cX5_firstTried 72 = .ok (.goto (-30), 3) := by decide +kernel
theorem dX5_firstTried_75 : decode cX5_firstTried 75 = .ok (.bipush (-4), 2) := by decide +kernel
theorem dX5_firstTried_77 : decode cX5_firstTried 77 = .ok (.ireturn, 1) := by decide +kernel
theorem dX6_init_0 : decode cX6_init 0 = .ok (.aload_n 0, 1) := by decide +kernel
theorem dX6_init_1 : decode cX6_init 1 = .ok (.invokespecial 5, 3) := by decide +kernel
theorem dX6_init_4 : decode cX6_init 4 = .ok (.aload_n 0, 1) := by decide +kernel
theorem dX6_init_5 : decode cX6_init 5 = .ok (.bipush 16, 2) := by decide +kernel
theorem dX6_init_7 : decode cX6_init 7 = .ok (.bipush 7, 2) := by decide +kernel
theorem dX6_init_9 : decode cX6_init 9 = .ok (.multianewarray 11 2, 4) := by decide +kernel
theorem dX6_init_13 : decode cX6_init 13 = .ok (.putfield 13, 3) := by decide +kernel
theorem dX6_init_16 : decode cX6_init 16 = .ok (.aload_n 0, 1) := by decide +kernel
theorem dX6_init_17 : decode cX6_init 17 = .ok (.sipush 128, 3) := by decide +kernel
theorem dX6_init_20 : decode cX6_init 20 = .ok (.newarray .long, 2) := by decide +kernel
theorem dX6_init_22 : decode cX6_init 22 = .ok (.putfield 16, 3) := by decide +kernel
theorem dX6_init_25 : decode cX6_init 25 = .ok (.aload_n 0, 1) := by decide +kernel
theorem dX6_init_26 : decode cX6_init 26 = .ok (.bipush 7, 2) := by decide +kernel
theorem dX6_init_28 : decode cX6_init 28 = .ok (.newarray .int, 2) := by decide +kernel
theorem dX6_init_30 : decode cX6_init 30 = .ok (.putfield 20, 3) := by decide +kernel
theorem dX6_init_33 : decode cX6_init 33 = .ok (.aload_n 0, 1) := by decide +kernel
theorem dX6_init_34 : decode cX6_init 34 = .ok (.iconst 0, 1) := by decide +kernel
theorem dX6_init_35 : decode cX6_init 35 = .ok (.putfield 24, 3) := by decide +kernel
theorem dX6_init_38 : decode cX6_init 38 = .ok (.return_, 1) := by decide +kernel
theorem dX6_findForAll_0 : decode cX6_findForAll 0 = .ok (.aload_n 0, 1) := by decide +kernel
theorem dX6_findForAll_1 : decode cX6_findForAll 1 = .ok (.aload_n 1, 1) := by decide +kernel
theorem dX6_findForAll_2 : decode cX6_findForAll 2 = .ok (.iload_n 2, 1) := by decide +kernel
theorem dX6_findForAll_3 : decode cX6_findForAll 3 = .ok (.invokevirtual 28, 3) := by decide +kernel
theorem dX6_findForAll_6 : decode cX6_findForAll 6 = .ok (.aload_n 0, 1) := by decide +kernel
theorem dX6_findForAll_7 : decode cX6_findForAll 7 = .ok (.aload_n 1, 1) := by decide +kernel
theorem dX6_findForAll_8 : decode cX6_findForAll 8 = .ok (.invokevirtual 32, 3) := by decide +kernel
theorem dX6_findForAll_11 : decode cX6_findForAll 11 = .ok (.aload_n 0, 1) := by decide +kernel
theorem dX6_findForAll_12 : decode cX6_findForAll 12 = .ok (.getfield 16, 3) := by decide +kernel
theorem dX6_findForAll_15 : decode cX6_findForAll 15 = .ok (.iconst 1, 1) := by decide +kernel
theorem dX6_findForAll_16 : decode cX6_findForAll 16 = .ok (.aload_n 1, 1) := by decide +kernel
theorem dX6_findForAll_17 : decode cX6_findForAll 17 = .ok (.getfield 36, 3) := by decide +kernel
theorem dX6_findForAll_20 : decode cX6_findForAll 20 = .ok (.ishl, 1) := by decide +kernel
theorem dX6_findForAll_21 : decode cX6_findForAll 21 = .ok (.iconst 1, 1) := by decide +kernel
theorem dX6_findForAll_22 : decode cX6_findForAll 22 = .ok (.isub, 1) := by decide +kernel
theorem dX6_findForAll_23 : decode cX6_findForAll 23 = .ok (.laload, 1) := by decide +kernel
theorem dX6_findForAll_24 : decode cX6_findForAll 24 = .ok (.lstore_n 3, 1) := by decide +kernel
theorem dX6_findForAll_25 : decode cX6_findForAll 25 = .ok (.lload_n 3, 1) := by decide +kernel
theorem dX6_findForAll_26 : decode cX6_findForAll 26 = .ok (.ldc2_w 41, 3) := by decide +kernel
theorem dX6_findForAll_29 : decode cX6_findForAll 29 = .ok (.lcmp, 1) := by decide +kernel
theorem dX6_findForAll_30 : decode cX6_findForAll 30 = .ok (.ifCond .ne 5, 3) := by decide +kernel
theorem dX6_findForAll_33 : decode cX6_findForAll 33 = .ok (.iconst 0, 1) := by decide +kernel
theorem dX6_findForAll_34 : decode cX6_findForAll 34 = .ok (.ireturn, 1) := by decide +kernel
theorem dX6_findForAll_35 : decode cX6_findForAll 35 = .ok (.aload_n 0, 1) := by decide +kernel
theorem dX6_findForAll_36 : decode cX6_findForAll 36 = .ok (.lload_n 3, 1) := by decide +kernel
theorem dX6_findForAll_37 : decode cX6_findForAll 37 = .ok (.bipush 28, 2) := by decide +kernel
theorem dX6_findForAll_39 : decode cX6_findForAll 39 = .ok (.lushr, 1) := by decide +kernel
theorem dX6_findForAll_40 : decode cX6_findForAll 40 = .ok (.l2i, 1) := by decide +kernel
theorem dX6_findForAll_41 : decode cX6_findForAll 41 = .ok (.putfield 24, 3) := by decide +kernel
theorem dX6_findForAll_44 : decode cX6_findForAll 44 = .ok (.iconst 0, 1) := by decide +kernel
theorem dX6_findForAll_45 : decode cX6_findForAll 45 = .ok (.istore 5, 2) := by decide +kernel
theorem dX6_findForAll_47 : decode cX6_findForAll 47 = .ok (.iload 5, 2) := by decide +kernel
theorem dX6_findForAll_49 : decode cX6_findForAll 49 = .ok (.aload_n 1, 1) := by decide +kernel
theorem dX6_findForAll_50 : decode cX6_findForAll 50 = .ok (.getfield 36, 3) := by decide +kernel
theorem dX6_findForAll_53 : decode cX6_findForAll 53 = .ok (.if_icmp .ge 27, 3) := by decide +kernel
theorem dX6_findForAll_56 : decode cX6_findForAll 56 = .ok (.aload_n 0, 1) := by decide +kernel
theorem dX6_findForAll_57 : decode cX6_findForAll 57 = .ok (.getfield 20, 3) := by decide +kernel
theorem dX6_findForAll_60 : decode cX6_findForAll 60 = .ok (.iload 5, 2) := by decide +kernel
theorem dX6_findForAll_62 : decode cX6_findForAll 62 = .ok (.lload_n 3, 1) := by decide +kernel
theorem dX6_findForAll_63 : decode cX6_findForAll 63 = .ok (.iload 5, 2) := by decide +kernel
theorem dX6_findForAll_65 : decode cX6_findForAll 65 = .ok (.invokestatic 43, 3) := by decide +kernel
theorem dX6_findForAll_68 : decode cX6_findForAll 68 = .ok (.lushr, 1) := by decide +kernel
theorem dX6_findForAll_69 : decode cX6_findForAll 69 = .ok (.l2i, 1) := by decide +kernel
theorem dX6_findForAll_70 : decode cX6_findForAll 70 = .ok (.bipush 15, 2) := by decide +kernel
theorem dX6_findForAll_72 : decode cX6_findForAll 72 = .ok (.iand, 1) := by decide +kernel
theorem dX6_findForAll_73 : decode cX6_findForAll 73 = .ok (.iastore, 1) := by decide +kernel
theorem dX6_findForAll_74 : decode cX6_findForAll 74 = .ok (.iinc 5 1, 3) := by decide +kernel
theorem dX6_findForAll_77 : decode cX6_findForAll 77 = .ok (.goto (-30), 3) := by decide +kernel
theorem dX6_findForAll_80 : decode cX6_findForAll 80 = .ok (.iconst 1, 1) := by decide +kernel
theorem dX6_findForAll_81 : decode cX6_findForAll 81 = .ok (.ireturn, 1) := by decide +kernel
theorem dX6_findMost_0 : decode cX6_findMost 0 = .ok (.aload_n 0, 1) := by decide +kernel
theorem dX6_findMost_1 : decode cX6_findMost 1 = .ok (.aload_n 1, 1) := by decide +kernel
theorem dX6_findMost_2 : decode cX6_findMost 2 = .ok (.iload_n 2, 1) := by decide +kernel
theorem dX6_findMost_3 : decode cX6_findMost 3 = .ok (.invokevirtual 28, 3) := by decide +kernel
theorem dX6_findMost_6 : decode cX6_findMost 6 = .ok (.aload_n 0, 1) := by decide +kernel
theorem dX6_findMost_7 : decode cX6_findMost 7 = .ok (.aload_n 1, 1) := by decide +kernel
theorem dX6_findMost_8 : decode cX6_findMost 8 = .ok (.invokevirtual 32, 3) := by decide +kernel
theorem dX6_findMost_11 : decode cX6_findMost 11 = .ok (.iconst 0, 1) := by decide +kernel
theorem dX6_findMost_12 : decode cX6_findMost 12 = .ok (.istore_n 3, 1) := by decide +kernel
theorem dX6_findMost_13 : decode cX6_findMost 13 = .ok (.iconst 0, 1) := by decide +kernel
theorem dX6_findMost_14 : decode cX6_findMost 14 = .ok (.istore 4, 2) := by decide +kernel
theorem dX6_findMost_16 : decode cX6_findMost 16 = .ok (.iload 4, 2) := by decide +kernel
theorem dX6_findMost_18 : decode cX6_findMost 18 = .ok (.iconst 1, 1) := by decide +kernel
theorem dX6_findMost_19 : decode cX6_findMost 19 = .ok (.aload_n 1, 1) := by decide +kernel
theorem dX6_findMost_20 : decode cX6_findMost 20 = .ok (.getfield 36, 3) := by decide +kernel
theorem dX6_findMost_23 : decode cX6_findMost 23 = .ok (.ishl, 1) := by decide +kernel
theorem dX6_findMost_24 : decode cX6_findMost 24 = .ok (.if_icmp .ge 33, 3) := by decide +kernel
theorem dX6_findMost_27 : decode cX6_findMost 27 = .ok (.aload_n 0, 1) := by decide +kernel
theorem dX6_findMost_28 : decode cX6_findMost 28 = .ok (.getfield 16, 3) := by decide +kernel
theorem dX6_findMost_31 : decode cX6_findMost 31 = .ok (.iload 4, 2) := by decide +kernel
theorem dX6_findMost_33 : decode cX6_findMost 33 = .ok (.laload, 1) := by decide +kernel
theorem dX6_findMost_34 : decode cX6_findMost 34 = .ok (.ldc2_w 41, 3) := by decide +kernel
theorem dX6_findMost_37 : decode cX6_findMost 37 = .ok (.lcmp, 1) := by decide +kernel
theorem dX6_findMost_38 : decode cX6_findMost 38 = .ok (.ifCond .eq 13, 3) := by decide +kernel
theorem dX6_findMost_41 : decode cX6_findMost 41 = .ok (.iload_n 3, 1) := by decide +kernel
theorem dX6_findMost_42 : decode cX6_findMost 42 = .ok (.iload 4, 2) := by decide +kernel
theorem dX6_findMost_44 : decode cX6_findMost 44 = .ok (.invokestatic 47, 3) := by decide +kernel
theorem dX6_findMost_47 : decode cX6_findMost 47 = .ok (.invokestatic 52, 3) := by decide +kernel
theorem dX6_findMost_50 : decode cX6_findMost 50 = .ok (.istore_n 3, 1) := by decide +kernel
theorem dX6_findMost_51 : decode cX6_findMost 51 = .ok (.iinc 4 1, 3) := by decide +kernel
theorem dX6_findMost_54 : decode cX6_findMost 54 = .ok (.goto (-38), 3) := by decide +kernel
theorem dX6_findMost_57 : decode cX6_findMost 57 = .ok (.iload_n 3, 1) := by decide +kernel
theorem dX6_findMost_58 : decode cX6_findMost 58 = .ok (.ireturn, 1) := by decide +kernel
theorem dX6_findChain_0 : decode cX6_findChain 0 = .ok (.iconst 0, 1) := by decide +kernel
theorem dX6_findChain_1 : decode cX6_findChain 1 = .ok (.istore_n 3, 1) := by decide +kernel
theorem dX6_findChain_2 : decode cX6_findChain 2 = .ok (.iload_n 3, 1) := by decide +kernel
theorem dX6_findChain_3 : decode cX6_findChain 3 = .ok (.aload_n 1, 1) := by decide +kernel
theorem dX6_findChain_4 : decode cX6_findChain 4 = .ok (.getfield 58, 3) := by decide +kernel
theorem dX6_findChain_7 : decode cX6_findChain 7 = .ok (.if_icmp .ge 88, 3) := by decide +kernel
theorem dX6_findChain_10 : decode cX6_findChain 10 = .ok (.iconst 0, 1) := by decide +kernel
theorem dX6_findChain_11 : decode cX6_findChain 11 = .ok (.istore 4, 2) := by decide +kernel
theorem dX6_findChain_13 : decode cX6_findChain 13 = .ok (.iload 4, 2) := by decide +kernel
theorem dX6_findChain_15 : decode cX6_findChain 15 = .ok (.aload_n 1, 1) := by decide +kernel
theorem dX6_findChain_16 : decode cX6_findChain 16 = .ok (.getfield 36, 3) := by decide +kernel
theorem dX6_findChain_19 : decode cX6_findChain 19 = .ok (.if_icmp .ge 70, 3) := by decide +kernel
theorem dX6_findChain_22 : decode cX6_findChain 22 = .ok (.iload_n 3, 1) := by decide +kernel
theorem dX6_findChain_23 : decode cX6_findChain 23 = .ok (.iload_n 2, 1) := by decide +kernel
theorem dX6_findChain_24 : decode cX6_findChain 24 = .ok (.if_icmp .ne 18, 3) := by decide +kernel
theorem dX6_findChain_27 : decode cX6_findChain 27 = .ok (.aload_n 0, 1) := by decide +kernel
theorem dX6_findChain_28 : decode cX6_findChain 28 = .ok (.getfield 13, 3) := by decide +kernel
theorem dX6_findChain_31 : decode cX6_findChain 31 = .ok (.iload_n 3, 1) := by decide +kernel
theorem dX6_findChain_32 : decode cX6_findChain 32 = .ok (.aaload, 1) := by decide +kernel
theorem dX6_findChain_33 : decode cX6_findChain 33 = .ok (.iload 4, 2) := by decide +kernel
theorem dX6_findChain_35 : decode cX6_findChain 35 = .ok (.ldc2_w 41, 3) := by decide +kernel
theorem dX6_findChain_38 : decode cX6_findChain 38 = .ok (.lastore, 1) := by decide +kernel
theorem dX6_findChain_39 : decode cX6_findChain 39 = .ok (.goto 44, 3) := by decide +kernel
theorem dX6_findChain_42 : decode cX6_findChain 42 = .ok (.aload_n 0, 1) := by decide +kernel
theorem dX6_findChain_43 : decode cX6_findChain 43 = .ok (.getfield 13, 3) := by decide +kernel
theorem dX6_findChain_46 : decode cX6_findChain 46 = .ok (.iload_n 3, 1) := by decide +kernel
theorem dX6_findChain_47 : decode cX6_findChain 47 = .ok (.aaload, 1) := by decide +kernel
theorem dX6_findChain_48 : decode cX6_findChain 48 = .ok (.iload 4, 2) := by decide +kernel
theorem dX6_findChain_50 : decode cX6_findChain 50 = .ok (.laload, 1) := by decide +kernel
theorem dX6_findChain_51 : decode cX6_findChain 51 = .ok (.ldc2_w 41, 3) := by decide +kernel
theorem dX6_findChain_54 : decode cX6_findChain 54 = .ok (.lcmp, 1) := by decide +kernel
theorem dX6_findChain_55 : decode cX6_findChain 55 = .ok (.ifCond .eq 28, 3) := by decide +kernel
theorem dX6_findChain_58 : decode cX6_findChain 58 = .ok (.aload_n 0, 1) := by decide +kernel
theorem dX6_findChain_59 : decode cX6_findChain 59 = .ok (.getfield 13, 3) := by decide +kernel
theorem dX6_findChain_62 : decode cX6_findChain 62 = .ok (.iload_n 3, 1) := by decide +kernel
theorem dX6_findChain_63 : decode cX6_findChain 63 = .ok (.aaload, 1) := by decide +kernel
theorem dX6_findChain_64 : decode cX6_findChain 64 = .ok (.iload 4, 2) := by decide +kernel
theorem dX6_findChain_66 : decode cX6_findChain 66 = .ok (.aload_n 0, 1) := by decide +kernel
theorem dX6_findChain_67 : decode cX6_findChain 67 = .ok (.getfield 20, 3) := by decide +kernel
theorem dX6_findChain_70 : decode cX6_findChain 70 = .ok (.iload 4, 2) := by decide +kernel
theorem dX6_findChain_72 : decode cX6_findChain 72 = .ok (.iaload, 1) := by decide +kernel
theorem dX6_findChain_73 : decode cX6_findChain 73 = .ok (.iload_n 3, 1) := by decide +kernel
theorem dX6_findChain_74 : decode cX6_findChain 74 = .ok (.if_icmp .ne 7, 3) := by decide +kernel
theorem dX6_findChain_77 : decode cX6_findChain 77 = .ok (.lconst 0, 1) := by decide +kernel
theorem dX6_findChain_78 : decode cX6_findChain 78 = .ok (.goto 4, 3) := by decide +kernel
theorem dX6_findChain_81 : decode cX6_findChain 81 = .ok (.lconst 1, 1) := by decide +kernel
theorem dX6_findChain_82 : decode cX6_findChain 82 = .ok (.lastore, 1) := by decide +kernel
theorem dX6_findChain_83 : decode cX6_findChain 83 = .ok (.iinc 4 1, 3) := by decide +kernel
theorem dX6_findChain_86 : decode cX6_findChain 86 = .ok (.goto (-73), 3) := by decide +kernel
theorem dX6_findChain_89 : decode cX6_findChain 89 = .ok (.iinc 3 1, 3) := by decide +kernel
theorem dX6_findChain_92 : decode cX6_findChain 92 = .ok (.goto (-90), 3) := by decide +kernel
theorem dX6_findChain_95 : decode cX6_findChain 95 = .ok (.aload_n 0, 1) := by decide +kernel
theorem dX6_findChain_96 : decode cX6_findChain 96 = .ok (.aload_n 1, 1) := by decide +kernel
theorem dX6_findChain_97 : decode cX6_findChain 97 = .ok (.invokevirtual 32, 3) := by decide +kernel
theorem dX6_findChain_100 : decode cX6_findChain 100 = .ok (.aload_n 0, 1) := by decide +kernel
theorem dX6_findChain_101 : decode cX6_findChain 101 = .ok (.getfield 16, 3) := by decide +kernel
theorem dX6_findChain_104 : decode cX6_findChain 104 = .ok (.iconst 1, 1) := by decide +kernel
theorem dX6_findChain_105 : decode cX6_findChain 105 = .ok (.aload_n 1, 1) := by decide +kernel
theorem dX6_findChain_106 : decode cX6_findChain 106 = .ok (.getfield 36, 3) := by decide +kernel
theorem dX6_findChain_109 : decode cX6_findChain 109 = .ok (.ishl, 1) := by decide +kernel
theorem dX6_findChain_110 : decode cX6_findChain 110 = .ok (.iconst 1, 1) := by decide +kernel
theorem dX6_findChain_111 : decode cX6_findChain 111 = .ok (.isub, 1) := by decide +kernel
theorem dX6_findChain_112 : decode cX6_findChain 112 = .ok (.laload, 1) := by decide +kernel
theorem dX6_findChain_113 : decode cX6_findChain 113 = .ok (.lstore_n 3, 1) := by decide +kernel
theorem dX6_findChain_114 : decode cX6_findChain 114 = .ok (.lload_n 3, 1) := by decide +kernel
theorem dX6_findChain_115 : decode cX6_findChain 115 = .ok (.ldc2_w 41, 3) := by decide +kernel
theorem dX6_findChain_118 : decode cX6_findChain 118 = .ok (.lcmp, 1) := by decide +kernel
theorem dX6_findChain_119 : decode cX6_findChain 119 = .ok (.ifCond .ne 8, 3) := by decide +kernel
theorem dX6_findChain_122 : decode cX6_findChain 122 = .ok (.bipush (-4), 2) := by decide +kernel
theorem dX6_findChain_124 : decode cX6_findChain 124 = .ok (.goto 5, 3) := by decide +kernel
theorem dX6_findChain_127 : decode cX6_findChain 127 = .ok (.lload_n 3, 1) := by decide +kernel
theorem dX6_findChain_128 : decode cX6_findChain 128 = .ok (.l2i, 1) := by decide +kernel
theorem dX6_findChain_129 : decode cX6_findChain 129 = .ok (.ireturn, 1) := by decide +kernel
theorem dX6_isWorn_0 : decode cX6_isWorn 0 = .ok (.iconst 0, 1) := by decide +kernel
theorem dX6_isWorn_1 : decode cX6_isWorn 1 = .ok (.istore_n 3, 1) := by decide +kernel
theorem dX6_isWorn_2 : decode cX6_isWorn 2 = .ok (.iload_n 3, 1) := by decide +kernel
theorem dX6_isWorn_3 : decode cX6_isWorn 3 = .ok (.aload_n 1, 1) := by decide +kernel
theorem dX6_isWorn_4 : decode cX6_isWorn 4 = .ok (.getfield 36, 3) := by decide +kernel
theorem dX6_isWorn_7 : decode cX6_isWorn 7 = .ok (.if_icmp .ge 21, 3) := by decide +kernel
theorem dX6_isWorn_10 : decode cX6_isWorn 10 = .ok (.aload_n 0, 1) := by decide +kernel
theorem dX6_isWorn_11 : decode cX6_isWorn 11 = .ok (.getfield 20, 3) := by decide +kernel
theorem dX6_isWorn_14 : decode cX6_isWorn 14 = .ok (.iload_n 3, 1) := by decide +kernel
theorem dX6_isWorn_15 : decode cX6_isWorn 15 = .ok (.iaload, 1) := by decide +kernel
theorem dX6_isWorn_16 : decode cX6_isWorn 16 = .ok (.iload_n 2, 1) := by decide +kernel
theorem dX6_isWorn_17 : decode cX6_isWorn 17 = .ok (.if_icmp .ne 5, 3) := by decide +kernel
theorem dX6_isWorn_20 : decode cX6_isWorn 20 = .ok (.iconst 1, 1) := by decide +kernel
theorem dX6_isWorn_21 : decode cX6_isWorn 21 = .ok (.ireturn, 1) := by decide +kernel
theorem dX6_isWorn_22 : decode cX6_isWorn 22 = .ok (.iinc 3 1, 3) := by decide +kernel
theorem dX6_isWorn_25 : decode cX6_isWorn 25 = .ok (.goto (-23), 3) := by decide +kernel
theorem dX6_isWorn_28 : decode cX6_isWorn 28 = .ok (.iconst 0, 1) := by decide +kernel
theorem dX6_isWorn_29 : decode cX6_isWorn 29 = .ok (.ireturn, 1) := by decide +kernel
theorem dX6_shiftOf_0 : decode cX6_shiftOf 0 = .ok (.iconst 4, 1) := by decide +kernel
theorem dX6_shiftOf_1 : decode cX6_shiftOf 1 = .ok (.bipush 6, 2) := by decide +kernel
theorem dX6_shiftOf_3 : decode cX6_shiftOf 3 = .ok (.iload_n 0, 1) := by decide +kernel
theorem dX6_shiftOf_4 : decode cX6_shiftOf 4 = .ok (.isub, 1) := by decide +kernel
theorem dX6_shiftOf_5 : decode cX6_shiftOf 5 = .ok (.imul, 1) := by decide +kernel
theorem dX6_shiftOf_6 : decode cX6_shiftOf 6 = .ok (.ireturn, 1) := by decide +kernel
theorem dX6_priceAsked_0 : decode cX6_priceAsked 0 = .ok (.iconst 0, 1) := by decide +kernel
theorem dX6_priceAsked_1 : decode cX6_priceAsked 1 = .ok (.istore_n 3, 1) := by decide +kernel
theorem dX6_priceAsked_2 : decode cX6_priceAsked 2 = .ok (.iload_n 3, 1) := by decide +kernel
theorem dX6_priceAsked_3 : decode cX6_priceAsked 3 = .ok (.aload_n 1, 1) := by decide +kernel
theorem dX6_priceAsked_4 : decode cX6_priceAsked 4 = .ok (.getfield 58, 3) := by decide +kernel
theorem dX6_priceAsked_7 : decode cX6_priceAsked 7 = .ok (.if_icmp .ge 96, 3) := by decide +kernel
theorem dX6_priceAsked_10 : decode cX6_priceAsked 10 = .ok (.iconst 0, 1) := by decide +kernel
theorem dX6_priceAsked_11 : decode cX6_priceAsked 11 = .ok (.istore 4, 2) := by decide +kernel
theorem dX6_priceAsked_13 : decode cX6_priceAsked 13 = .ok (.iload 4, 2) := by decide +kernel
theorem dX6_priceAsked_15 : decode cX6_priceAsked 15 = .ok (.aload_n 1, 1) := by decide +kernel
theorem dX6_priceAsked_16 : decode cX6_priceAsked 16 = .ok (.getfield 36, 3) := by decide +kernel
theorem dX6_priceAsked_19 : decode cX6_priceAsked 19 = .ok (.if_icmp .ge 78, 3) := by decide +kernel
theorem dX6_priceAsked_22 : decode cX6_priceAsked 22 = .ok (.aload_n 1, 1) := by decide +kernel
theorem dX6_priceAsked_23 : decode cX6_priceAsked 23 = .ok (.iload_n 3, 1) := by decide +kernel
theorem dX6_priceAsked_24 : decode cX6_priceAsked 24 = .ok (.iload_n 2, 1) := by decide +kernel
theorem dX6_priceAsked_25 : decode cX6_priceAsked 25 = .ok (.invokevirtual 61, 3) := by decide +kernel
theorem dX6_priceAsked_28 : decode cX6_priceAsked 28 = .ok (.ifCond .eq 22, 3) := by decide +kernel
theorem dX6_priceAsked_31 : decode cX6_priceAsked 31 = .ok (.aload_n 1, 1) := by decide +kernel
theorem dX6_priceAsked_32 : decode cX6_priceAsked 32 = .ok (.iload_n 3, 1) := by decide +kernel
theorem dX6_priceAsked_33 : decode cX6_priceAsked 33 = .ok (.iload 4, 2) := by decide +kernel
theorem dX6_priceAsked_35 : decode cX6_priceAsked 35 = .ok (.aload_n 1, 1) := by decide +kernel
theorem dX6_priceAsked_36 : decode cX6_priceAsked 36 = .ok (.getfield 65, 3) := by decide +kernel
theorem dX6_priceAsked_39 : decode cX6_priceAsked 39 = .ok (.iload 4, 2) := by decide +kernel
theorem dX6_priceAsked_41 : decode cX6_priceAsked 41 = .ok (.aaload, 1) := by decide +kernel
theorem dX6_priceAsked_42 : decode cX6_priceAsked 42 = .ok (.iconst 3, 1) := by decide +kernel
theorem dX6_priceAsked_43 : decode cX6_priceAsked 43 = .ok (.iaload, 1) := by decide +kernel
theorem dX6_priceAsked_44 : decode cX6_priceAsked 44 = .ok (.invokevirtual 69, 3) := by decide +kernel
theorem dX6_priceAsked_47 : decode cX6_priceAsked 47 = .ok (.goto 5, 3) := by decide +kernel
theorem dX6_priceAsked_50 : decode cX6_priceAsked 50 = .ok (.bipush (-4), 2) := by decide +kernel
theorem dX6_priceAsked_52 : decode cX6_priceAsked 52 = .ok (.istore 5, 2) := by decide +kernel
theorem dX6_priceAsked_54 : decode cX6_priceAsked 54 = .ok (.aload_n 0, 1) := by decide +kernel
theorem dX6_priceAsked_55 : decode cX6_priceAsked 55 = .ok (.getfield 13, 3) := by decide +kernel
theorem dX6_priceAsked_58 : decode cX6_priceAsked 58 = .ok (.iload_n 3, 1) := by decide +kernel
theorem dX6_priceAsked_59 : decode cX6_priceAsked 59 = .ok (.aaload, 1) := by decide +kernel
theorem dX6_priceAsked_60 : decode cX6_priceAsked 60 = .ok (.iload 4, 2) := by decide +kernel
theorem dX6_priceAsked_62 : decode cX6_priceAsked 62 = .ok (.iload 5, 2) := by decide +kernel
theorem dX6_priceAsked_64 : decode cX6_priceAsked 64 = .ok (.bipush (-4), 2) := by decide +kernel
theorem dX6_priceAsked_66 : decode cX6_priceAsked 66 = .ok (.if_icmp .ne 9, 3) := by decide +kernel
theorem dX6_priceAsked_69 : decode cX6_priceAsked 69 = .ok (.ldc2_w 41, 3) := by decide +kernel
theorem dX6_priceAsked_72 : decode cX6_priceAsked 72 = .ok (.goto 18, 3) := by decide +kernel
theorem dX6_priceAsked_75 : decode cX6_priceAsked 75 = .ok (.iload 5, 2) := by decide +kernel
theorem dX6_priceAsked_77 : decode cX6_priceAsked 77 = .ok (.i2l, 1) := by decide +kernel
theorem dX6_priceAsked_78 : decode cX6_priceAsked 78 = .ok (.bipush 28, 2) := by decide +kernel
theorem dX6_priceAsked_80 : decode cX6_priceAsked 80 = .ok (.lshl, 1) := by decide +kernel
theorem dX6_priceAsked_81 : decode cX6_priceAsked 81 = .ok (.iload_n 3, 1) := by decide +kernel
theorem dX6_priceAsked_82 : decode cX6_priceAsked 82 = .ok (.i2l, 1) := by decide +kernel
theorem dX6_priceAsked_83 : decode cX6_priceAsked 83 = .ok (.iload 4, 2) := by decide +kernel
theorem dX6_priceAsked_85 : decode cX6_priceAsked 85 = .ok (.invokestatic 43, 3) := by decide +kernel
theorem dX6_priceAsked_88 : decode cX6_priceAsked 88 = .ok (.lshl, 1) := by decide +kernel
theorem dX6_priceAsked_89 : decode cX6_priceAsked 89 = .ok (.ladd, 1) := by decide +kernel
theorem dX6_priceAsked_90 : decode cX6_priceAsked 90 = .ok (.lastore, 1) := by decide +kernel
theorem dX6_priceAsked_91 : decode cX6_priceAsked 91 = .ok (.iinc 4 1, 3) := by decide +kernel
theorem dX6_priceAsked_94 : decode cX6_priceAsked 94 = .ok (.goto (-81), 3) := by decide +kernel
theorem dX6_priceAsked_97 : decode cX6_priceAsked 97 = .ok (.iinc 3 1, 3) := by decide +kernel
theorem dX6_priceAsked_100 : decode cX6_priceAsked 100 = .ok (.goto (-98), 3) := by decide +kernel
theorem dX6_priceAsked_103 : decode cX6_priceAsked 103 = .ok (.return_, 1) := by decide +kernel
theorem dX6_addShoes_0 : decode cX6_addShoes 0 = .ok (.aload_n 0, 1) := by decide +kernel
theorem dX6_addShoes_1 : decode cX6_addShoes 1 = .ok (.getfield 16, 3) := by decide +kernel
theorem dX6_addShoes_4 : decode cX6_addShoes 4 = .ok (.ldc2_w 41, 3) := by decide +kernel
theorem dX6_addShoes_7 : decode cX6_addShoes 7 = .ok (.invokestatic 73, 3) := by decide +kernel
theorem dX6_addShoes_10 : decode cX6_addShoes 10 = .ok (.aload_n 0, 1) := by decide +kernel
theorem dX6_addShoes_11 : decode cX6_addShoes 11 = .ok (.getfield 16, 3) := by decide +kernel
theorem dX6_addShoes_14 : decode cX6_addShoes 14 = .ok (.iconst 0, 1) := by decide +kernel
theorem dX6_addShoes_15 : decode cX6_addShoes 15 = .ok (.lconst 0, 1) := by decide +kernel
theorem dX6_addShoes_16 : decode cX6_addShoes 16 = .ok (.lastore, 1) := by decide +kernel
theorem dX6_addShoes_17 : decode cX6_addShoes 17 = .ok (.iconst 0, 1) := by decide +kernel
theorem dX6_addShoes_18 : decode cX6_addShoes 18 = .ok (.istore_n 2, 1) := by decide +kernel
theorem dX6_addShoes_19 : decode cX6_addShoes 19 = .ok (.iload_n 2, 1) := by decide +kernel
theorem dX6_addShoes_20 : decode cX6_addShoes 20 = .ok (.aload_n 1, 1) := by decide +kernel
theorem dX6_addShoes_21 : decode cX6_addShoes 21 = .ok (.getfield 58, 3) := by decide +kernel
theorem dX6_addShoes_24 : decode cX6_addShoes 24 = .ok (.if_icmp .ge 23, 3) := by decide +kernel
theorem dX6_addShoes_27 : decode cX6_addShoes 27 = .ok (.aload_n 0, 1) := by decide +kernel
theorem dX6_addShoes_28 : decode cX6_addShoes 28 = .ok (.aload_n 0, 1) := by decide +kernel
theorem dX6_addShoes_29 : decode cX6_addShoes 29 = .ok (.getfield 13, 3) := by decide +kernel
theorem dX6_addShoes_32 : decode cX6_addShoes 32 = .ok (.iload_n 2, 1) := by decide +kernel
theorem dX6_addShoes_33 : decode cX6_addShoes 33 = .ok (.aaload, 1) := by decide +kernel
theorem dX6_addShoes_34 : decode cX6_addShoes 34 = .ok (.aload_n 1, 1) := by decide +kernel
theorem dX6_addShoes_35 : decode cX6_addShoes 35 = .ok (.getfield 36, 3) := by decide +kernel
theorem dX6_addShoes_38 : decode cX6_addShoes 38 = .ok (.invokevirtual 79, 3) := by decide +kernel
theorem dX6_addShoes_41 : decode cX6_addShoes 41 = .ok (.iinc 2 1, 3) := by decide +kernel
theorem dX6_addShoes_44 : decode cX6_addShoes 44 = .ok (.goto (-25), 3) := by decide +kernel
theorem dX6_addShoes_47 : decode cX6_addShoes 47 = .ok (.return_, 1) := by decide +kernel
theorem dX6_addShoe_0 : decode cX6_addShoe 0 = .ok (.iconst 1, 1) := by decide +kernel
theorem dX6_addShoe_1 : decode cX6_addShoe 1 = .ok (.iload_n 2, 1) := by decide +kernel
theorem dX6_addShoe_2 : decode cX6_addShoe 2 = .ok (.ishl, 1) := by decide +kernel
theorem dX6_addShoe_3 : decode cX6_addShoe 3 = .ok (.iconst 1, 1) := by decide +kernel
theorem dX6_addShoe_4 : decode cX6_addShoe 4 = .ok (.isub, 1) := by decide +kernel
theorem dX6_addShoe_5 : decode cX6_addShoe 5 = .ok (.istore_n 3, 1) := by decide +kernel
theorem dX6_addShoe_6 : decode cX6_addShoe 6 = .ok (.iload_n 3, 1) := by decide +kernel
theorem dX6_addShoe_7 : decode cX6_addShoe 7 = .ok (.ifCond .le 119, 3) := by decide +kernel
theorem dX6_addShoe_10 : decode cX6_addShoe 10 = .ok (.iconst 0, 1) := by decide +kernel
theorem dX6_addShoe_11 : decode cX6_addShoe 11 = .ok (.istore 4, 2) := by decide +kernel
theorem dX6_addShoe_13 : decode cX6_addShoe 13 = .ok (.iload 4, 2) := by decide +kernel
theorem dX6_addShoe_15 : decode cX6_addShoe 15 = .ok (.iload_n 2, 1) := by decide +kernel
theorem dX6_addShoe_16 : decode cX6_addShoe 16 = .ok (.if_icmp .ge 104, 3) := by decide +kernel
theorem dX6_addShoe_19 : decode cX6_addShoe 19 = .ok (.iload_n 3, 1) := by decide +kernel
theorem dX6_addShoe_20 : decode cX6_addShoe 20 = .ok (.iload 4, 2) := by decide +kernel
theorem dX6_addShoe_22 : decode cX6_addShoe 22 = .ok (.ishr, 1) := by decide +kernel
theorem dX6_addShoe_23 : decode cX6_addShoe 23 = .ok (.iconst 1, 1) := by decide +kernel
theorem dX6_addShoe_24 : decode cX6_addShoe 24 = .ok (.iand, 1) := by decide +kernel
theorem dX6_addShoe_25 : decode cX6_addShoe 25 = .ok (.iconst 1, 1) := by decide +kernel
theorem dX6_addShoe_26 : decode cX6_addShoe 26 = .ok (.if_icmp .ne 17, 3) := by decide +kernel
theorem dX6_addShoe_29 : decode cX6_addShoe 29 = .ok (.aload_n 0, 1) := by decide +kernel
theorem dX6_addShoe_30 : decode cX6_addShoe 30 = .ok (.getfield 16, 3) := by decide +kernel
theorem dX6_addShoe_33 : decode cX6_addShoe 33 = .ok (.iload_n 3, 1) := by decide +kernel
theorem dX6_addShoe_34 : decode cX6_addShoe 34 = .ok (.iconst 1, 1) := by decide +kernel
theorem dX6_addShoe_35 : decode cX6_addShoe 35 = .ok (.iload 4, 2) := by decide +kernel
theorem dX6_addShoe_37 : decode cX6_addShoe 37 = .ok (.ishl, 1) := by decide +kernel
theorem dX6_addShoe_38 : decode cX6_addShoe 38 = .ok (.ixor, 1) := by decide +kernel
theorem dX6_addShoe_39 : decode cX6_addShoe 39 = .ok (.laload, 1) := by decide +kernel
theorem dX6_addShoe_40 : decode cX6_addShoe 40 = .ok (.goto 6, 3) := by decide +kernel
theorem dX6_addShoe_43 : decode cX6_addShoe 43 = .ok (.ldc2_w 41, 3) := by decide +kernel
theorem dX6_addShoe_46 : decode cX6_addShoe 46 = .ok (.lstore 5, 2) := by decide +kernel
theorem dX6_addShoe_48 : decode cX6_addShoe 48 = .ok (.lload 5, 2) := by decide +kernel
theorem dX6_addShoe_50 : decode cX6_addShoe 50 = .ok (.ldc2_w 41, 3) := by decide +kernel
theorem dX6_addShoe_53 : decode cX6_addShoe 53 = .ok (.lcmp, 1) := by decide +kernel
theorem dX6_addShoe_54 : decode cX6_addShoe 54 = .ok (.ifCond .eq 60, 3) := by decide +kernel
theorem dX6_addShoe_57 : decode cX6_addShoe 57 = .ok (.aload_n 1, 1) := by decide +kernel
end
section
theorem dX6_addShoe_58 : decode cX6_addShoe 58 = .ok (.iload 4, 2) := by decide +kernel
theorem dX6_addShoe_60 : decode cX6_addShoe 60 = .ok (.laload, 1) := by decide +kernel
theorem dX6_addShoe_61 : decode cX6_addShoe 61 = .ok (.ldc2_w 41, 3) := by decide +kernel
theorem dX6_addShoe_64 : decode cX6_addShoe 64 = .ok (.lcmp, 1) := by decide +kernel
theorem dX6_addShoe_65 : decode cX6_addShoe 65 = .ok (.ifCond .ne 6, 3) := by decide +kernel
theorem dX6_addShoe_68 : decode cX6_addShoe 68 = .ok (.goto 46, 3) := by decide +kernel
theorem dX6_addShoe_71 : decode cX6_addShoe 71 = .ok (.aload_n 0, 1) := by decide +kernel
theorem dX6_addShoe_72 : decode cX6_addShoe 72 = .ok (.getfield 16, 3) := by decide +kernel
theorem dX6_addShoe_75 : decode cX6_addShoe 75 = .ok (.iload_n 3, 1) := by decide +kernel
theorem dX6_addShoe_76 : decode cX6_addShoe 76 = .ok (.laload, 1) := by decide +kernel
theorem dX6_addShoe_77 : decode cX6_addShoe 77 = .ok (.ldc2_w 41, 3) := by decide +kernel
theorem dX6_addShoe_80 : decode cX6_addShoe 80 = .ok (.lcmp, 1) := by decide +kernel
theorem dX6_addShoe_81 : decode cX6_addShoe 81 = .ok (.ifCond .eq 20, 3) := by decide +kernel
theorem dX6_addShoe_84 : decode cX6_addShoe 84 = .ok (.lload 5, 2) := by decide +kernel
theorem dX6_addShoe_86 : decode cX6_addShoe 86 = .ok (.aload_n 1, 1) := by decide +kernel
theorem dX6_addShoe_87 : decode cX6_addShoe 87 = .ok (.iload 4, 2) := by decide +kernel
theorem dX6_addShoe_89 : decode cX6_addShoe 89 = .ok (.laload, 1) := by decide +kernel
theorem dX6_addShoe_90 : decode cX6_addShoe 90 = .ok (.ladd, 1) := by decide +kernel
theorem dX6_addShoe_91 : decode cX6_addShoe 91 = .ok (.aload_n 0, 1) := by decide +kernel
theorem dX6_addShoe_92 : decode cX6_addShoe 92 = .ok (.getfield 16, 3) := by decide +kernel
theorem dX6_addShoe_95 : decode cX6_addShoe 95 = .ok (.iload_n 3, 1) := by decide +kernel
theorem dX6_addShoe_96 : decode cX6_addShoe 96 = .ok (.laload, 1) := by decide +kernel
theorem dX6_addShoe_97 : decode cX6_addShoe 97 = .ok (.lcmp, 1) := by decide +kernel
theorem dX6_addShoe_98 : decode cX6_addShoe 98 = .ok (.ifCond .ge 16, 3) := by decide +kernel
theorem dX6_addShoe_101 : decode cX6_addShoe 101 = .ok (.aload_n 0, 1) := by decide +kernel
theorem dX6_addShoe_102 : decode cX6_addShoe 102 = .ok (.getfield 16, 3) := by decide +kernel
theorem dX6_addShoe_105 : decode cX6_addShoe 105 = .ok (.iload_n 3, 1) := by decide +kernel
theorem dX6_addShoe_106 : decode cX6_addShoe 106 = .ok (.lload 5, 2) := by decide +kernel
theorem dX6_addShoe_108 : decode cX6_addShoe 108 = .ok (.aload_n 1, 1) := by decide +kernel
theorem dX6_addShoe_109 : decode cX6_addShoe 109 = .ok (.iload 4, 2) := by decide +kernel
theorem dX6_addShoe_111 : decode cX6_addShoe 111 = .ok (.laload, 1) := by decide +kernel
theorem dX6_addShoe_112 : decode cX6_addShoe 112 = .ok (.ladd, 1) := by decide +kernel
theorem dX6_addShoe_113 : decode cX6_addShoe 113 = .ok (.lastore, 1) := by decide +kernel
theorem dX6_addShoe_114 : decode cX6_addShoe 114 = .ok (.iinc 4 1, 3) := by decide +kernel
theorem dX6_addShoe_117 : decode cX6_addShoe 117 = .ok (.goto (-104), 3) := by decide +kernel
theorem dX6_addShoe_120 : decode cX6_addShoe 120 = .ok (.iinc 3 (-1), 3) := by decide +kernel
theorem dX6_addShoe_123 : decode cX6_addShoe 123 = .ok (.goto (-117), 3) := by decide +kernel
theorem dX6_addShoe_126 : decode cX6_addShoe 126 = .ok (.return_, 1) := by decide +kernel
theorem dX7_init_0 : decode cX7_init 0 = .ok (.aload_n 0, 1) := by decide +kernel
theorem dX7_init_1 : decode cX7_init 1 = .ok (.invokespecial 1, 3) := by decide +kernel
theorem dX7_init_4 : decode cX7_init 4 = .ok (.aload_n 0, 1) := by decide +kernel
theorem dX7_init_5 : decode cX7_init 5 = .ok (.new 7, 3) := by decide +kernel
theorem dX7_init_8 : decode cX7_init 8 = .ok (.dup, 1) := by decide +kernel
theorem dX7_init_9 : decode cX7_init 9 = .ok (.invokespecial 9, 3) := by decide +kernel
theorem dX7_init_12 : decode cX7_init 12 = .ok (.putfield 10, 3) := by decide +kernel
theorem dX7_init_15 : decode cX7_init 15 = .ok (.aload_n 0, 1) := by decide +kernel
theorem dX7_init_16 : decode cX7_init 16 = .ok (.new 7, 3) := by decide +kernel
theorem dX7_init_19 : decode cX7_init 19 = .ok (.dup, 1) := by decide +kernel
theorem dX7_init_20 : decode cX7_init 20 = .ok (.invokespecial 9, 3) := by decide +kernel
theorem dX7_init_23 : decode cX7_init 23 = .ok (.putfield 16, 3) := by decide +kernel
theorem dX7_init_26 : decode cX7_init 26 = .ok (.aload_n 0, 1) := by decide +kernel
theorem dX7_init_27 : decode cX7_init 27 = .ok (.iconst 0, 1) := by decide +kernel
theorem dX7_init_28 : decode cX7_init 28 = .ok (.putfield 19, 3) := by decide +kernel
theorem dX7_init_31 : decode cX7_init 31 = .ok (.aload_n 0, 1) := by decide +kernel
theorem dX7_init_32 : decode cX7_init 32 = .ok (.new 23, 3) := by decide +kernel
theorem dX7_init_35 : decode cX7_init 35 = .ok (.dup, 1) := by decide +kernel
theorem dX7_init_36 : decode cX7_init 36 = .ok (.invokespecial 25, 3) := by decide +kernel
theorem dX7_init_39 : decode cX7_init 39 = .ok (.putfield 26, 3) := by decide +kernel
theorem dX7_init_42 : decode cX7_init 42 = .ok (.aload_n 0, 1) := by decide +kernel
theorem dX7_init_43 : decode cX7_init 43 = .ok (.new 30, 3) := by decide +kernel
theorem dX7_init_46 : decode cX7_init 46 = .ok (.dup, 1) := by decide +kernel
theorem dX7_init_47 : decode cX7_init 47 = .ok (.invokespecial 32, 3) := by decide +kernel
theorem dX7_init_50 : decode cX7_init 50 = .ok (.putfield 33, 3) := by decide +kernel
theorem dX7_init_53 : decode cX7_init 53 = .ok (.aload_n 0, 1) := by decide +kernel
theorem dX7_init_54 : decode cX7_init 54 = .ok (.new 37, 3) := by decide +kernel
theorem dX7_init_57 : decode cX7_init 57 = .ok (.dup, 1) := by decide +kernel
theorem dX7_init_58 : decode cX7_init 58 = .ok (.invokespecial 39, 3) := by decide +kernel
theorem dX7_init_61 : decode cX7_init 61 = .ok (.putfield 40, 3) := by decide +kernel
theorem dX7_init_64 : decode cX7_init 64 = .ok (.aload_n 0, 1) := by decide +kernel
theorem dX7_init_65 : decode cX7_init 65 = .ok (.new 44, 3) := by decide +kernel
theorem dX7_init_68 : decode cX7_init 68 = .ok (.dup, 1) := by decide +kernel
theorem dX7_init_69 : decode cX7_init 69 = .ok (.invokespecial 46, 3) := by decide +kernel
theorem dX7_init_72 : decode cX7_init 72 = .ok (.putfield 47, 3) := by decide +kernel
theorem dX7_init_75 : decode cX7_init 75 = .ok (.aload_n 0, 1) := by decide +kernel
theorem dX7_init_76 : decode cX7_init 76 = .ok (.new 51, 3) := by decide +kernel
theorem dX7_init_79 : decode cX7_init 79 = .ok (.dup, 1) := by decide +kernel
theorem dX7_init_80 : decode cX7_init 80 = .ok (.invokespecial 53, 3) := by decide +kernel
theorem dX7_init_83 : decode cX7_init 83 = .ok (.putfield 54, 3) := by decide +kernel
theorem dX7_init_86 : decode cX7_init 86 = .ok (.aload_n 0, 1) := by decide +kernel
theorem dX7_init_87 : decode cX7_init 87 = .ok (.iconst 4, 1) := by decide +kernel
theorem dX7_init_88 : decode cX7_init 88 = .ok (.anewarray 58, 3) := by decide +kernel
theorem dX7_init_91 : decode cX7_init 91 = .ok (.putfield 60, 3) := by decide +kernel
theorem dX7_init_94 : decode cX7_init 94 = .ok (.iconst 0, 1) := by decide +kernel
theorem dX7_init_95 : decode cX7_init 95 = .ok (.istore_n 1, 1) := by decide +kernel
theorem dX7_init_96 : decode cX7_init 96 = .ok (.iload_n 1, 1) := by decide +kernel
theorem dX7_init_97 : decode cX7_init 97 = .ok (.iconst 4, 1) := by decide +kernel
theorem dX7_init_98 : decode cX7_init 98 = .ok (.if_icmp .ge 22, 3) := by decide +kernel
theorem dX7_init_101 : decode cX7_init 101 = .ok (.aload_n 0, 1) := by decide +kernel
theorem dX7_init_102 : decode cX7_init 102 = .ok (.getfield 60, 3) := by decide +kernel
theorem dX7_init_105 : decode cX7_init 105 = .ok (.iload_n 1, 1) := by decide +kernel
theorem dX7_init_106 : decode cX7_init 106 = .ok (.new 58, 3) := by decide +kernel
theorem dX7_init_109 : decode cX7_init 109 = .ok (.dup, 1) := by decide +kernel
theorem dX7_init_110 : decode cX7_init 110 = .ok (.invokespecial 64, 3) := by decide +kernel
theorem dX7_init_113 : decode cX7_init 113 = .ok (.aastore, 1) := by decide +kernel
theorem dX7_init_114 : decode cX7_init 114 = .ok (.iinc 1 1, 3) := by decide +kernel
theorem dX7_init_117 : decode cX7_init 117 = .ok (.goto (-21), 3) := by decide +kernel
theorem dX7_init_120 : decode cX7_init 120 = .ok (.return_, 1) := by decide +kernel
theorem dX7_bride_0 : decode cX7_bride 0 = .ok (.iconst 0, 1) := by decide +kernel
theorem dX7_bride_1 : decode cX7_bride 1 = .ok (.iload_n 1, 1) := by decide +kernel
theorem dX7_bride_2 : decode cX7_bride 2 = .ok (.invokestatic 65, 3) := by decide +kernel
theorem dX7_bride_5 : decode cX7_bride 5 = .ok (.ifCond .eq 11, 3) := by decide +kernel
theorem dX7_bride_8 : decode cX7_bride 8 = .ok (.iconst 1, 1) := by decide +kernel
theorem dX7_bride_9 : decode cX7_bride 9 = .ok (.iload_n 2, 1) := by decide +kernel
theorem dX7_bride_10 : decode cX7_bride 10 = .ok (.invokestatic 65, 3) := by decide +kernel
theorem dX7_bride_13 : decode cX7_bride 13 = .ok (.ifCond .ne 5, 3) := by decide +kernel
theorem dX7_bride_16 : decode cX7_bride 16 = .ok (.iconst (-1), 1) := by decide +kernel
theorem dX7_bride_17 : decode cX7_bride 17 = .ok (.ireturn, 1) := by decide +kernel
theorem dX7_bride_18 : decode cX7_bride 18 = .ok (.iconst 2, 1) := by decide +kernel
theorem dX7_bride_19 : decode cX7_bride 19 = .ok (.iload_n 3, 1) := by decide +kernel
theorem dX7_bride_20 : decode cX7_bride 20 = .ok (.invokestatic 65, 3) := by decide +kernel
theorem dX7_bride_23 : decode cX7_bride 23 = .ok (.ifCond .eq 12, 3) := by decide +kernel
theorem dX7_bride_26 : decode cX7_bride 26 = .ok (.iconst 3, 1) := by decide +kernel
theorem dX7_bride_27 : decode cX7_bride 27 = .ok (.iload 4, 2) := by decide +kernel
theorem dX7_bride_29 : decode cX7_bride 29 = .ok (.invokestatic 65, 3) := by decide +kernel
theorem dX7_bride_32 : decode cX7_bride 32 = .ok (.ifCond .ne 5, 3) := by decide +kernel
theorem dX7_bride_35 : decode cX7_bride 35 = .ok (.iconst (-1), 1) := by decide +kernel
theorem dX7_bride_36 : decode cX7_bride 36 = .ok (.ireturn, 1) := by decide +kernel
theorem dX7_bride_37 : decode cX7_bride 37 = .ok (.aload_n 0, 1) := by decide +kernel
theorem dX7_bride_38 : decode cX7_bride 38 = .ok (.getfield 10, 3) := by decide +kernel
theorem dX7_bride_41 : decode cX7_bride 41 = .ok (.getfield 69, 3) := by decide +kernel
theorem dX7_bride_44 : decode cX7_bride 44 = .ok (.bipush 7, 2) := by decide +kernel
theorem dX7_bride_46 : decode cX7_bride 46 = .ok (.if_icmp .lt 6, 3) := by decide +kernel
theorem dX7_bride_49 : decode cX7_bride 49 = .ok (.bipush (-3), 2) := by decide +kernel
theorem dX7_bride_51 : decode cX7_bride 51 = .ok (.ireturn, 1) := by decide +kernel
theorem dX7_bride_52 : decode cX7_bride 52 = .ok (.aload_n 0, 1) := by decide +kernel
theorem dX7_bride_53 : decode cX7_bride 53 = .ok (.getfield 10, 3) := by decide +kernel
theorem dX7_bride_56 : decode cX7_bride 56 = .ok (.getfield 73, 3) := by decide +kernel
theorem dX7_bride_59 : decode cX7_bride 59 = .ok (.aload_n 0, 1) := by decide +kernel
theorem dX7_bride_60 : decode cX7_bride 60 = .ok (.getfield 10, 3) := by decide +kernel
theorem dX7_bride_63 : decode cX7_bride 63 = .ok (.getfield 69, 3) := by decide +kernel
theorem dX7_bride_66 : decode cX7_bride 66 = .ok (.aaload, 1) := by decide +kernel
theorem dX7_bride_67 : decode cX7_bride 67 = .ok (.astore 5, 2) := by decide +kernel
theorem dX7_bride_69 : decode cX7_bride 69 = .ok (.aload 5, 2) := by decide +kernel
theorem dX7_bride_71 : decode cX7_bride 71 = .ok (.iconst 0, 1) := by decide +kernel
theorem dX7_bride_72 : decode cX7_bride 72 = .ok (.iload_n 1, 1) := by decide +kernel
theorem dX7_bride_73 : decode cX7_bride 73 = .ok (.iastore, 1) := by decide +kernel
theorem dX7_bride_74 : decode cX7_bride 74 = .ok (.aload 5, 2) := by decide +kernel
theorem dX7_bride_76 : decode cX7_bride 76 = .ok (.iconst 1, 1) := by decide +kernel
theorem dX7_bride_77 : decode cX7_bride 77 = .ok (.iload_n 2, 1) := by decide +kernel
theorem dX7_bride_78 : decode cX7_bride 78 = .ok (.iastore, 1) := by decide +kernel
theorem dX7_bride_79 : decode cX7_bride 79 = .ok (.aload 5, 2) := by decide +kernel
theorem dX7_bride_81 : decode cX7_bride 81 = .ok (.iconst 2, 1) := by decide +kernel
theorem dX7_bride_82 : decode cX7_bride 82 = .ok (.iload_n 3, 1) := by decide +kernel
theorem dX7_bride_83 : decode cX7_bride 83 = .ok (.iastore, 1) := by decide +kernel
theorem dX7_bride_84 : decode cX7_bride 84 = .ok (.aload 5, 2) := by decide +kernel
theorem dX7_bride_86 : decode cX7_bride 86 = .ok (.iconst 3, 1) := by decide +kernel
theorem dX7_bride_87 : decode cX7_bride 87 = .ok (.iload 4, 2) := by decide +kernel
theorem dX7_bride_89 : decode cX7_bride 89 = .ok (.iastore, 1) := by decide +kernel
theorem dX7_bride_90 : decode cX7_bride 90 = .ok (.aload_n 0, 1) := by decide +kernel
theorem dX7_bride_91 : decode cX7_bride 91 = .ok (.getfield 10, 3) := by decide +kernel
theorem dX7_bride_94 : decode cX7_bride 94 = .ok (.dup, 1) := by decide +kernel
theorem dX7_bride_95 : decode cX7_bride 95 = .ok (.getfield 69, 3) := by decide +kernel
theorem dX7_bride_98 : decode cX7_bride 98 = .ok (.dup_x1, 1) := by decide +kernel
theorem dX7_bride_99 : decode cX7_bride 99 = .ok (.iconst 1, 1) := by decide +kernel
theorem dX7_bride_100 : decode cX7_bride 100 = .ok (.iadd, 1) := by decide +kernel
theorem dX7_bride_101 : decode cX7_bride 101 = .ok (.putfield 69, 3) := by decide +kernel
theorem dX7_bride_104 : decode cX7_bride 104 = .ok (.ireturn, 1) := by decide +kernel
theorem dX7_make_0 : decode cX7_make 0 = .ok (.aload_n 0, 1) := by decide +kernel
theorem dX7_make_1 : decode cX7_make 1 = .ok (.iload_n 1, 1) := by decide +kernel
theorem dX7_make_2 : decode cX7_make 2 = .ok (.invokevirtual 77, 3) := by decide +kernel
theorem dX7_make_5 : decode cX7_make 5 = .ok (.ifCond .eq 20, 3) := by decide +kernel
theorem dX7_make_8 : decode cX7_make 8 = .ok (.iload_n 2, 1) := by decide +kernel
theorem dX7_make_9 : decode cX7_make 9 = .ok (.iconst 0, 1) := by decide +kernel
theorem dX7_make_10 : decode cX7_make 10 = .ok (.iconst 3, 1) := by decide +kernel
theorem dX7_make_11 : decode cX7_make 11 = .ok (.invokestatic 81, 3) := by decide +kernel
theorem dX7_make_14 : decode cX7_make 14 = .ok (.ifCond .eq 11, 3) := by decide +kernel
theorem dX7_make_17 : decode cX7_make 17 = .ok (.iload_n 2, 1) := by decide +kernel
theorem dX7_make_18 : decode cX7_make 18 = .ok (.iload_n 3, 1) := by decide +kernel
theorem dX7_make_19 : decode cX7_make 19 = .ok (.invokestatic 65, 3) := by decide +kernel
theorem dX7_make_22 : decode cX7_make 22 = .ok (.ifCond .ne 5, 3) := by decide +kernel
theorem dX7_make_25 : decode cX7_make 25 = .ok (.iconst (-1), 1) := by decide +kernel
theorem dX7_make_26 : decode cX7_make 26 = .ok (.ireturn, 1) := by decide +kernel
theorem dX7_make_27 : decode cX7_make 27 = .ok (.aload_n 0, 1) := by decide +kernel
theorem dX7_make_28 : decode cX7_make 28 = .ok (.getfield 10, 3) := by decide +kernel
theorem dX7_make_31 : decode cX7_make 31 = .ok (.getfield 73, 3) := by decide +kernel
theorem dX7_make_34 : decode cX7_make 34 = .ok (.iload_n 1, 1) := by decide +kernel
theorem dX7_make_35 : decode cX7_make 35 = .ok (.aaload, 1) := by decide +kernel
theorem dX7_make_36 : decode cX7_make 36 = .ok (.iload_n 2, 1) := by decide +kernel
theorem dX7_make_37 : decode cX7_make 37 = .ok (.iaload, 1) := by decide +kernel
theorem dX7_make_38 : decode cX7_make 38 = .ok (.istore 4, 2) := by decide +kernel
theorem dX7_make_40 : decode cX7_make 40 = .ok (.aload_n 0, 1) := by decide +kernel
theorem dX7_make_41 : decode cX7_make 41 = .ok (.getfield 10, 3) := by decide +kernel
theorem dX7_make_44 : decode cX7_make 44 = .ok (.getfield 73, 3) := by decide +kernel
theorem dX7_make_47 : decode cX7_make 47 = .ok (.iload_n 1, 1) := by decide +kernel
theorem dX7_make_48 : decode cX7_make 48 = .ok (.aaload, 1) := by decide +kernel
theorem dX7_make_49 : decode cX7_make 49 = .ok (.iload_n 2, 1) := by decide +kernel
theorem dX7_make_50 : decode cX7_make 50 = .ok (.iload_n 3, 1) := by decide +kernel
theorem dX7_make_51 : decode cX7_make 51 = .ok (.iastore, 1) := by decide +kernel
theorem dX7_make_52 : decode cX7_make 52 = .ok (.iload 4, 2) := by decide +kernel
theorem dX7_make_54 : decode cX7_make 54 = .ok (.ireturn, 1) := by decide +kernel
theorem dX7_shoe_0 : decode cX7_shoe 0 = .ok (.iconst 0, 1) := by decide +kernel
theorem dX7_shoe_1 : decode cX7_shoe 1 = .ok (.iload_n 1, 1) := by decide +kernel
theorem dX7_shoe_2 : decode cX7_shoe 2 = .ok (.invokestatic 85, 3) := by decide +kernel
theorem dX7_shoe_5 : decode cX7_shoe 5 = .ok (.ifCond .eq 19, 3) := by decide +kernel
theorem dX7_shoe_8 : decode cX7_shoe 8 = .ok (.iconst 1, 1) := by decide +kernel
theorem dX7_shoe_9 : decode cX7_shoe 9 = .ok (.iload_n 2, 1) := by decide +kernel
theorem dX7_shoe_10 : decode cX7_shoe 10 = .ok (.invokestatic 85, 3) := by decide +kernel
theorem dX7_shoe_13 : decode cX7_shoe 13 = .ok (.ifCond .eq 11, 3) := by decide +kernel
theorem dX7_shoe_16 : decode cX7_shoe 16 = .ok (.iconst 2, 1) := by decide +kernel
theorem dX7_shoe_17 : decode cX7_shoe 17 = .ok (.iload_n 3, 1) := by decide +kernel
theorem dX7_shoe_18 : decode cX7_shoe 18 = .ok (.invokestatic 85, 3) := by decide +kernel
theorem dX7_shoe_21 : decode cX7_shoe 21 = .ok (.ifCond .ne 5, 3) := by decide +kernel
theorem dX7_shoe_24 : decode cX7_shoe 24 = .ok (.iconst (-1), 1) := by decide +kernel
theorem dX7_shoe_25 : decode cX7_shoe 25 = .ok (.ireturn, 1) := by decide +kernel
theorem dX7_shoe_26 : decode cX7_shoe 26 = .ok (.aload_n 0, 1) := by decide +kernel
theorem dX7_shoe_27 : decode cX7_shoe 27 = .ok (.getfield 10, 3) := by decide +kernel
theorem dX7_shoe_30 : decode cX7_shoe 30 = .ok (.getfield 88, 3) := by decide +kernel
theorem dX7_shoe_33 : decode cX7_shoe 33 = .ok (.bipush 16, 2) := by decide +kernel
theorem dX7_shoe_35 : decode cX7_shoe 35 = .ok (.if_icmp .lt 6, 3) := by decide +kernel
theorem dX7_shoe_38 : decode cX7_shoe 38 = .ok (.bipush (-3), 2) := by decide +kernel
theorem dX7_shoe_40 : decode cX7_shoe 40 = .ok (.ireturn, 1) := by decide +kernel
theorem dX7_shoe_41 : decode cX7_shoe 41 = .ok (.aload_n 0, 1) := by decide +kernel
theorem dX7_shoe_42 : decode cX7_shoe 42 = .ok (.getfield 10, 3) := by decide +kernel
theorem dX7_shoe_45 : decode cX7_shoe 45 = .ok (.getfield 91, 3) := by decide +kernel
theorem dX7_shoe_48 : decode cX7_shoe 48 = .ok (.aload_n 0, 1) := by decide +kernel
theorem dX7_shoe_49 : decode cX7_shoe 49 = .ok (.getfield 10, 3) := by decide +kernel
theorem dX7_shoe_52 : decode cX7_shoe 52 = .ok (.getfield 88, 3) := by decide +kernel
theorem dX7_shoe_55 : decode cX7_shoe 55 = .ok (.aaload, 1) := by decide +kernel
theorem dX7_shoe_56 : decode cX7_shoe 56 = .ok (.astore 4, 2) := by decide +kernel
theorem dX7_shoe_58 : decode cX7_shoe 58 = .ok (.aload 4, 2) := by decide +kernel
theorem dX7_shoe_60 : decode cX7_shoe 60 = .ok (.iconst 0, 1) := by decide +kernel
theorem dX7_shoe_61 : decode cX7_shoe 61 = .ok (.iload_n 1, 1) := by decide +kernel
theorem dX7_shoe_62 : decode cX7_shoe 62 = .ok (.iastore, 1) := by decide +kernel
theorem dX7_shoe_63 : decode cX7_shoe 63 = .ok (.aload 4, 2) := by decide +kernel
theorem dX7_shoe_65 : decode cX7_shoe 65 = .ok (.iconst 1, 1) := by decide +kernel
theorem dX7_shoe_66 : decode cX7_shoe 66 = .ok (.iload_n 2, 1) := by decide +kernel
theorem dX7_shoe_67 : decode cX7_shoe 67 = .ok (.iastore, 1) := by decide +kernel
theorem dX7_shoe_68 : decode cX7_shoe 68 = .ok (.aload 4, 2) := by decide +kernel
theorem dX7_shoe_70 : decode cX7_shoe 70 = .ok (.iconst 2, 1) := by decide +kernel
theorem dX7_shoe_71 : decode cX7_shoe 71 = .ok (.iload_n 3, 1) := by decide +kernel
theorem dX7_shoe_72 : decode cX7_shoe 72 = .ok (.iastore, 1) := by decide +kernel
theorem dX7_shoe_73 : decode cX7_shoe 73 = .ok (.aload 4, 2) := by decide +kernel
theorem dX7_shoe_75 : decode cX7_shoe 75 = .ok (.iconst 3, 1) := by decide +kernel
theorem dX7_shoe_76 : decode cX7_shoe 76 = .ok (.iconst 0, 1) := by decide +kernel
theorem dX7_shoe_77 : decode cX7_shoe 77 = .ok (.iastore, 1) := by decide +kernel
theorem dX7_shoe_78 : decode cX7_shoe 78 = .ok (.aload_n 0, 1) := by decide +kernel
theorem dX7_shoe_79 : decode cX7_shoe 79 = .ok (.getfield 10, 3) := by decide +kernel
theorem dX7_shoe_82 : decode cX7_shoe 82 = .ok (.dup, 1) := by decide +kernel
theorem dX7_shoe_83 : decode cX7_shoe 83 = .ok (.getfield 88, 3) := by decide +kernel
theorem dX7_shoe_86 : decode cX7_shoe 86 = .ok (.dup_x1, 1) := by decide +kernel
theorem dX7_shoe_87 : decode cX7_shoe 87 = .ok (.iconst 1, 1) := by decide +kernel
theorem dX7_shoe_88 : decode cX7_shoe 88 = .ok (.iadd, 1) := by decide +kernel
theorem dX7_shoe_89 : decode cX7_shoe 89 = .ok (.putfield 88, 3) := by decide +kernel
theorem dX7_shoe_92 : decode cX7_shoe 92 = .ok (.ireturn, 1) := by decide +kernel
theorem dX7_told_0 : decode cX7_told 0 = .ok (.aload_n 0, 1) := by decide +kernel
theorem dX7_told_1 : decode cX7_told 1 = .ok (.iload_n 1, 1) := by decide +kernel
theorem dX7_told_2 : decode cX7_told 2 = .ok (.invokevirtual 94, 3) := by decide +kernel
theorem dX7_told_5 : decode cX7_told 5 = .ok (.ifCond .eq 12, 3) := by decide +kernel
theorem dX7_told_8 : decode cX7_told 8 = .ok (.iload_n 2, 1) := by decide +kernel
theorem dX7_told_9 : decode cX7_told 9 = .ok (.iconst 0, 1) := by decide +kernel
theorem dX7_told_10 : decode cX7_told 10 = .ok (.iconst 3, 1) := by decide +kernel
theorem dX7_told_11 : decode cX7_told 11 = .ok (.invokestatic 81, 3) := by decide +kernel
theorem dX7_told_14 : decode cX7_told 14 = .ok (.ifCond .ne 5, 3) := by decide +kernel
theorem dX7_told_17 : decode cX7_told 17 = .ok (.iconst (-1), 1) := by decide +kernel
theorem dX7_told_18 : decode cX7_told 18 = .ok (.ireturn, 1) := by decide +kernel
theorem dX7_told_19 : decode cX7_told 19 = .ok (.aload_n 0, 1) := by decide +kernel
theorem dX7_told_20 : decode cX7_told 20 = .ok (.getfield 10, 3) := by decide +kernel
theorem dX7_told_23 : decode cX7_told 23 = .ok (.getfield 91, 3) := by decide +kernel
theorem dX7_told_26 : decode cX7_told 26 = .ok (.iload_n 1, 1) := by decide +kernel
theorem dX7_told_27 : decode cX7_told 27 = .ok (.aaload, 1) := by decide +kernel
theorem dX7_told_28 : decode cX7_told 28 = .ok (.iload_n 2, 1) := by decide +kernel
theorem dX7_told_29 : decode cX7_told 29 = .ok (.iaload, 1) := by decide +kernel
theorem dX7_told_30 : decode cX7_told 30 = .ok (.ireturn, 1) := by decide +kernel
theorem dX7_lose_0 : decode cX7_lose 0 = .ok (.aload_n 0, 1) := by decide +kernel
theorem dX7_lose_1 : decode cX7_lose 1 = .ok (.iload_n 1, 1) := by decide +kernel
theorem dX7_lose_2 : decode cX7_lose 2 = .ok (.invokevirtual 94, 3) := by decide +kernel
theorem dX7_lose_5 : decode cX7_lose 5 = .ok (.ifCond .ne 5, 3) := by decide +kernel
theorem dX7_lose_8 : decode cX7_lose 8 = .ok (.iconst (-1), 1) := by decide +kernel
theorem dX7_lose_9 : decode cX7_lose 9 = .ok (.ireturn, 1) := by decide +kernel
theorem dX7_lose_10 : decode cX7_lose 10 = .ok (.aload_n 0, 1) := by decide +kernel
theorem dX7_lose_11 : decode cX7_lose 11 = .ok (.getfield 10, 3) := by decide +kernel
theorem dX7_lose_14 : decode cX7_lose 14 = .ok (.getfield 91, 3) := by decide +kernel
theorem dX7_lose_17 : decode cX7_lose 17 = .ok (.iload_n 1, 1) := by decide +kernel
theorem dX7_lose_18 : decode cX7_lose 18 = .ok (.aaload, 1) := by decide +kernel
theorem dX7_lose_19 : decode cX7_lose 19 = .ok (.iconst 3, 1) := by decide +kernel
theorem dX7_lose_20 : decode cX7_lose 20 = .ok (.iaload, 1) := by decide +kernel
theorem dX7_lose_21 : decode cX7_lose 21 = .ok (.istore_n 3, 1) := by decide +kernel
theorem dX7_lose_22 : decode cX7_lose 22 = .ok (.aload_n 0, 1) := by decide +kernel
theorem dX7_lose_23 : decode cX7_lose 23 = .ok (.getfield 10, 3) := by decide +kernel
theorem dX7_lose_26 : decode cX7_lose 26 = .ok (.getfield 91, 3) := by decide +kernel
theorem dX7_lose_29 : decode cX7_lose 29 = .ok (.iload_n 1, 1) := by decide +kernel
theorem dX7_lose_30 : decode cX7_lose 30 = .ok (.aaload, 1) := by decide +kernel
theorem dX7_lose_31 : decode cX7_lose 31 = .ok (.iconst 3, 1) := by decide +kernel
theorem dX7_lose_32 : decode cX7_lose 32 = .ok (.iload_n 2, 1) := by decide +kernel
theorem dX7_lose_33 : decode cX7_lose 33 = .ok (.ifCond .eq 7, 3) := by decide +kernel
theorem dX7_lose_36 : decode cX7_lose 36 = .ok (.iconst 1, 1) := by decide +kernel
theorem dX7_lose_37 : decode cX7_lose 37 = .ok (.goto 4, 3) := by decide +kernel
theorem dX7_lose_40 : decode cX7_lose 40 = .ok (.iconst 0, 1) := by decide +kernel
theorem dX7_lose_41 : decode cX7_lose 41 = .ok (.iastore, 1) := by decide +kernel
theorem dX7_lose_42 : decode cX7_lose 42 = .ok (.iload_n 3, 1) := by decide +kernel
theorem dX7_lose_43 : decode cX7_lose 43 = .ok (.ireturn, 1) := by decide +kernel
theorem dX7_set_0 : decode cX7_set 0 = .ok (.iload_n 1, 1) := by decide +kernel
theorem dX7_set_1 : decode cX7_set 1 = .ok (.iconst 0, 1) := by decide +kernel
theorem dX7_set_2 : decode cX7_set 2 = .ok (.iconst 1, 1) := by decide +kernel
theorem dX7_set_3 : decode cX7_set 3 = .ok (.invokestatic 81, 3) := by decide +kernel
theorem dX7_set_6 : decode cX7_set 6 = .ok (.ifCond .eq 13, 3) := by decide +kernel
theorem dX7_set_9 : decode cX7_set 9 = .ok (.iload_n 2, 1) := by decide +kernel
theorem dX7_set_10 : decode cX7_set 10 = .ok (.iconst 0, 1) := by decide +kernel
theorem dX7_set_11 : decode cX7_set 11 = .ok (.bipush 6, 2) := by decide +kernel
theorem dX7_set_13 : decode cX7_set 13 = .ok (.invokestatic 81, 3) := by decide +kernel
theorem dX7_set_16 : decode cX7_set 16 = .ok (.ifCond .ne 5, 3) := by decide +kernel
theorem dX7_set_19 : decode cX7_set 19 = .ok (.iconst (-1), 1) := by decide +kernel
theorem dX7_set_20 : decode cX7_set 20 = .ok (.ireturn, 1) := by decide +kernel
theorem dX7_set_21 : decode cX7_set 21 = .ok (.aload_n 0, 1) := by decide +kernel
theorem dX7_set_22 : decode cX7_set 22 = .ok (.getfield 10, 3) := by decide +kernel
theorem dX7_set_25 : decode cX7_set 25 = .ok (.getfield 97, 3) := by decide +kernel
theorem dX7_set_28 : decode cX7_set 28 = .ok (.iload_n 1, 1) := by decide +kernel
theorem dX7_set_29 : decode cX7_set 29 = .ok (.iaload, 1) := by decide +kernel
theorem dX7_set_30 : decode cX7_set 30 = .ok (.istore_n 3, 1) := by decide +kernel
theorem dX7_set_31 : decode cX7_set 31 = .ok (.aload_n 0, 1) := by decide +kernel
theorem dX7_set_32 : decode cX7_set 32 = .ok (.getfield 10, 3) := by decide +kernel
theorem dX7_set_35 : decode cX7_set 35 = .ok (.getfield 97, 3) := by decide +kernel
theorem dX7_set_38 : decode cX7_set 38 = .ok (.iload_n 1, 1) := by decide +kernel
theorem dX7_set_39 : decode cX7_set 39 = .ok (.iload_n 2, 1) := by decide +kernel
theorem dX7_set_40 : decode cX7_set 40 = .ok (.iastore, 1) := by decide +kernel
theorem dX7_set_41 : decode cX7_set 41 = .ok (.iload_n 3, 1) := by decide +kernel
theorem dX7_set_42 : decode cX7_set 42 = .ok (.ireturn, 1) := by decide +kernel
theorem dX7_foot_0 : decode cX7_foot 0 = .ok (.aload_n 0, 1) := by decide +kernel
theorem dX7_foot_1 : decode cX7_foot 1 = .ok (.iload_n 1, 1) := by decide +kernel
theorem dX7_foot_2 : decode cX7_foot 2 = .ok (.invokevirtual 77, 3) := by decide +kernel
theorem dX7_foot_5 : decode cX7_foot 5 = .ok (.ifCond .eq 17, 3) := by decide +kernel
theorem dX7_foot_8 : decode cX7_foot 8 = .ok (.iload_n 2, 1) := by decide +kernel
theorem dX7_foot_9 : decode cX7_foot 9 = .ok (.invokestatic 101, 3) := by decide +kernel
theorem dX7_foot_12 : decode cX7_foot 12 = .ok (.ifCond .eq 10, 3) := by decide +kernel
theorem dX7_foot_15 : decode cX7_foot 15 = .ok (.iload_n 3, 1) := by decide +kernel
theorem dX7_foot_16 : decode cX7_foot 16 = .ok (.invokestatic 104, 3) := by decide +kernel
theorem dX7_foot_19 : decode cX7_foot 19 = .ok (.ifCond .ne 5, 3) := by decide +kernel
theorem dX7_foot_22 : decode cX7_foot 22 = .ok (.iconst (-1), 1) := by decide +kernel
theorem dX7_foot_23 : decode cX7_foot 23 = .ok (.ireturn, 1) := by decide +kernel
theorem dX7_foot_24 : decode cX7_foot 24 = .ok (.aload_n 0, 1) := by decide +kernel
theorem dX7_foot_25 : decode cX7_foot 25 = .ok (.getfield 10, 3) := by decide +kernel
theorem dX7_foot_28 : decode cX7_foot 28 = .ok (.iload_n 1, 1) := by decide +kernel
theorem dX7_foot_29 : decode cX7_foot 29 = .ok (.iload_n 2, 1) := by decide +kernel
theorem dX7_foot_30 : decode cX7_foot 30 = .ok (.iload_n 3, 1) := by decide +kernel
theorem dX7_foot_31 : decode cX7_foot 31 = .ok (.invokevirtual 107, 3) := by decide +kernel
theorem dX7_foot_34 : decode cX7_foot 34 = .ok (.ireturn, 1) := by decide +kernel
theorem dX7_asked_0 : decode cX7_asked 0 = .ok (.aload_n 0, 1) := by decide +kernel
theorem dX7_asked_1 : decode cX7_asked 1 = .ok (.iload_n 1, 1) := by decide +kernel
theorem dX7_asked_2 : decode cX7_asked 2 = .ok (.invokevirtual 94, 3) := by decide +kernel
theorem dX7_asked_5 : decode cX7_asked 5 = .ok (.ifCond .eq 18, 3) := by decide +kernel
theorem dX7_asked_8 : decode cX7_asked 8 = .ok (.aload_n 0, 1) := by decide +kernel
theorem dX7_asked_9 : decode cX7_asked 9 = .ok (.iload_n 2, 1) := by decide +kernel
theorem dX7_asked_10 : decode cX7_asked 10 = .ok (.invokevirtual 77, 3) := by decide +kernel
theorem dX7_asked_13 : decode cX7_asked 13 = .ok (.ifCond .eq 10, 3) := by decide +kernel
theorem dX7_asked_16 : decode cX7_asked 16 = .ok (.iload_n 3, 1) := by decide +kernel
theorem dX7_asked_17 : decode cX7_asked 17 = .ok (.invokestatic 104, 3) := by decide +kernel
theorem dX7_asked_20 : decode cX7_asked 20 = .ok (.ifCond .ne 5, 3) := by decide +kernel
theorem dX7_asked_23 : decode cX7_asked 23 = .ok (.iconst (-1), 1) := by decide +kernel
theorem dX7_asked_24 : decode cX7_asked 24 = .ok (.ireturn, 1) := by decide +kernel
theorem dX7_asked_25 : decode cX7_asked 25 = .ok (.aload_n 0, 1) := by decide +kernel
theorem dX7_asked_26 : decode cX7_asked 26 = .ok (.getfield 10, 3) := by decide +kernel
theorem dX7_asked_29 : decode cX7_asked 29 = .ok (.iload_n 1, 1) := by decide +kernel
theorem dX7_asked_30 : decode cX7_asked 30 = .ok (.iload_n 2, 1) := by decide +kernel
theorem dX7_asked_31 : decode cX7_asked 31 = .ok (.iload_n 3, 1) := by decide +kernel
theorem dX7_asked_32 : decode cX7_asked 32 = .ok (.invokevirtual 111, 3) := by decide +kernel
theorem dX7_asked_35 : decode cX7_asked 35 = .ok (.ireturn, 1) := by decide +kernel
theorem dX7_whose_0 : decode cX7_whose 0 = .ok (.aload_n 0, 1) := by decide +kernel
theorem dX7_whose_1 : decode cX7_whose 1 = .ok (.iload_n 1, 1) := by decide +kernel
theorem dX7_whose_2 : decode cX7_whose 2 = .ok (.invokevirtual 94, 3) := by decide +kernel
theorem dX7_whose_5 : decode cX7_whose 5 = .ok (.ifCond .eq 10, 3) := by decide +kernel
theorem dX7_whose_8 : decode cX7_whose 8 = .ok (.iload_n 2, 1) := by decide +kernel
theorem dX7_whose_9 : decode cX7_whose 9 = .ok (.invokestatic 104, 3) := by decide +kernel
theorem dX7_whose_12 : decode cX7_whose 12 = .ok (.ifCond .ne 5, 3) := by decide +kernel
theorem dX7_whose_15 : decode cX7_whose 15 = .ok (.iconst (-1), 1) := by decide +kernel
theorem dX7_whose_16 : decode cX7_whose 16 = .ok (.ireturn, 1) := by decide +kernel
theorem dX7_whose_17 : decode cX7_whose 17 = .ok (.iconst 0, 1) := by decide +kernel
theorem dX7_whose_18 : decode cX7_whose 18 = .ok (.istore_n 3, 1) := by decide +kernel
theorem dX7_whose_19 : decode cX7_whose 19 = .ok (.iconst 0, 1) := by decide +kernel
theorem dX7_whose_20 : decode cX7_whose 20 = .ok (.istore 4, 2) := by decide +kernel
theorem dX7_whose_22 : decode cX7_whose 22 = .ok (.iload 4, 2) := by decide +kernel
theorem dX7_whose_24 : decode cX7_whose 24 = .ok (.aload_n 0, 1) := by decide +kernel
theorem dX7_whose_25 : decode cX7_whose 25 = .ok (.getfield 10, 3) := by decide +kernel
theorem dX7_whose_28 : decode cX7_whose 28 = .ok (.getfield 69, 3) := by decide +kernel
theorem dX7_whose_31 : decode cX7_whose 31 = .ok (.if_icmp .ge 32, 3) := by decide +kernel
theorem dX7_whose_34 : decode cX7_whose 34 = .ok (.aload_n 0, 1) := by decide +kernel
theorem dX7_whose_35 : decode cX7_whose 35 = .ok (.getfield 10, 3) := by decide +kernel
theorem dX7_whose_38 : decode cX7_whose 38 = .ok (.iload_n 1, 1) := by decide +kernel
theorem dX7_whose_39 : decode cX7_whose 39 = .ok (.iload 4, 2) := by decide +kernel
theorem dX7_whose_41 : decode cX7_whose 41 = .ok (.iload_n 2, 1) := by decide +kernel
theorem dX7_whose_42 : decode cX7_whose 42 = .ok (.invokevirtual 111, 3) := by decide +kernel
theorem dX7_whose_45 : decode cX7_whose 45 = .ok (.bipush (-4), 2) := by decide +kernel
theorem dX7_whose_47 : decode cX7_whose 47 = .ok (.if_icmp .eq 10, 3) := by decide +kernel
theorem dX7_whose_50 : decode cX7_whose 50 = .ok (.iload_n 3, 1) := by decide +kernel
theorem dX7_whose_51 : decode cX7_whose 51 = .ok (.iconst 1, 1) := by decide +kernel
theorem dX7_whose_52 : decode cX7_whose 52 = .ok (.iload 4, 2) := by decide +kernel
theorem dX7_whose_54 : decode cX7_whose 54 = .ok (.ishl, 1) := by decide +kernel
theorem dX7_whose_55 : decode cX7_whose 55 = .ok (.ior, 1) := by decide +kernel
theorem dX7_whose_56 : decode cX7_whose 56 = .ok (.istore_n 3, 1) := by decide +kernel
theorem dX7_whose_57 : decode cX7_whose 57 = .ok (.iinc 4 1, 3) := by decide +kernel
theorem dX7_whose_60 : decode cX7_whose 60 = .ok (.goto (-38), 3) := by decide +kernel
theorem dX7_whose_63 : decode cX7_whose 63 = .ok (.iload_n 3, 1) := by decide +kernel
theorem dX7_whose_64 : decode cX7_whose 64 = .ok (.ireturn, 1) := by decide +kernel
theorem dX7_type_0 : decode cX7_type 0 = .ok (.iload_n 3, 1) := by decide +kernel
theorem dX7_type_1 : decode cX7_type 1 = .ok (.iconst 1, 1) := by decide +kernel
theorem dX7_type_2 : decode cX7_type 2 = .ok (.bipush 8, 2) := by decide +kernel
theorem dX7_type_4 : decode cX7_type 4 = .ok (.invokestatic 81, 3) := by decide +kernel
theorem dX7_type_7 : decode cX7_type 7 = .ok (.ifCond .eq 11, 3) := by decide +kernel
theorem dX7_type_10 : decode cX7_type 10 = .ok (.lload_n 1, 1) := by decide +kernel
theorem dX7_type_11 : decode cX7_type 11 = .ok (.iload_n 3, 1) := by decide +kernel
theorem dX7_type_12 : decode cX7_type 12 = .ok (.invokestatic 114, 3) := by decide +kernel
theorem dX7_type_15 : decode cX7_type 15 = .ok (.ifCond .ne 5, 3) := by decide +kernel
theorem dX7_type_18 : decode cX7_type 18 = .ok (.iconst (-1), 1) := by decide +kernel
theorem dX7_type_19 : decode cX7_type 19 = .ok (.ireturn, 1) := by decide +kernel
theorem dX7_type_20 : decode cX7_type 20 = .ok (.aload_n 0, 1) := by decide +kernel
theorem dX7_type_21 : decode cX7_type 21 = .ok (.getfield 26, 3) := by decide +kernel
theorem dX7_type_24 : decode cX7_type 24 = .ok (.getfield 118, 3) := by decide +kernel
theorem dX7_type_27 : decode cX7_type 27 = .ok (.iload_n 3, 1) := by decide +kernel
theorem dX7_type_28 : decode cX7_type 28 = .ok (.iadd, 1) := by decide +kernel
theorem dX7_type_29 : decode cX7_type 29 = .ok (.bipush 120, 2) := by decide +kernel
theorem dX7_type_31 : decode cX7_type 31 = .ok (.if_icmp .le 6, 3) := by decide +kernel
theorem dX7_type_34 : decode cX7_type 34 = .ok (.bipush (-3), 2) := by decide +kernel
theorem dX7_type_36 : decode cX7_type 36 = .ok (.ireturn, 1) := by decide +kernel
theorem dX7_type_37 : decode cX7_type 37 = .ok (.aload_n 0, 1) := by decide +kernel
theorem dX7_type_38 : decode cX7_type 38 = .ok (.getfield 26, 3) := by decide +kernel
theorem dX7_type_41 : decode cX7_type 41 = .ok (.lload_n 1, 1) := by decide +kernel
theorem dX7_type_42 : decode cX7_type 42 = .ok (.iload_n 3, 1) := by decide +kernel
theorem dX7_type_43 : decode cX7_type 43 = .ok (.invokevirtual 121, 3) := by decide +kernel
theorem dX7_type_46 : decode cX7_type 46 = .ok (.aload_n 0, 1) := by decide +kernel
theorem dX7_type_47 : decode cX7_type 47 = .ok (.getfield 26, 3) := by decide +kernel
theorem dX7_type_50 : decode cX7_type 50 = .ok (.getfield 118, 3) := by decide +kernel
theorem dX7_type_53 : decode cX7_type 53 = .ok (.ireturn, 1) := by decide +kernel
theorem dX7_brides_0 : decode cX7_brides 0 = .ok (.aload_n 0, 1) := by decide +kernel
theorem dX7_brides_1 : decode cX7_brides 1 = .ok (.getfield 26, 3) := by decide +kernel
theorem dX7_brides_4 : decode cX7_brides 4 = .ok (.invokevirtual 125, 3) := by decide +kernel
theorem dX7_brides_7 : decode cX7_brides 7 = .ok (.istore_n 1, 1) := by decide +kernel
theorem dX7_brides_8 : decode cX7_brides 8 = .ok (.aload_n 0, 1) := by decide +kernel
theorem dX7_brides_9 : decode cX7_brides 9 = .ok (.getfield 26, 3) := by decide +kernel
theorem dX7_brides_12 : decode cX7_brides 12 = .ok (.iconst 0, 1) := by decide +kernel
theorem dX7_brides_13 : decode cX7_brides 13 = .ok (.putfield 118, 3) := by decide +kernel
theorem dX7_brides_16 : decode cX7_brides 16 = .ok (.iload_n 1, 1) := by decide +kernel
theorem dX7_brides_17 : decode cX7_brides 17 = .ok (.ifCond .le 18, 3) := by decide +kernel
theorem dX7_brides_20 : decode cX7_brides 20 = .ok (.aload_n 0, 1) := by decide +kernel
theorem dX7_brides_21 : decode cX7_brides 21 = .ok (.getfield 10, 3) := by decide +kernel
theorem dX7_brides_24 : decode cX7_brides 24 = .ok (.aload_n 0, 1) := by decide +kernel
theorem dX7_brides_25 : decode cX7_brides 25 = .ok (.getfield 26, 3) := by decide +kernel
theorem dX7_brides_28 : decode cX7_brides 28 = .ok (.getfield 129, 3) := by decide +kernel
theorem dX7_brides_31 : decode cX7_brides 31 = .ok (.iload_n 1, 1) := by decide +kernel
theorem dX7_brides_32 : decode cX7_brides 32 = .ok (.invokevirtual 132, 3) := by decide +kernel
theorem dX7_brides_35 : decode cX7_brides 35 = .ok (.iload_n 1, 1) := by decide +kernel
theorem dX7_brides_36 : decode cX7_brides 36 = .ok (.ireturn, 1) := by decide +kernel
theorem dX7_heap_0 : decode cX7_heap 0 = .ok (.aload_n 0, 1) := by decide +kernel
theorem dX7_heap_1 : decode cX7_heap 1 = .ok (.getfield 26, 3) := by decide +kernel
theorem dX7_heap_4 : decode cX7_heap 4 = .ok (.invokevirtual 136, 3) := by decide +kernel
theorem dX7_heap_7 : decode cX7_heap 7 = .ok (.istore_n 1, 1) := by decide +kernel
theorem dX7_heap_8 : decode cX7_heap 8 = .ok (.aload_n 0, 1) := by decide +kernel
theorem dX7_heap_9 : decode cX7_heap 9 = .ok (.getfield 26, 3) := by decide +kernel
theorem dX7_heap_12 : decode cX7_heap 12 = .ok (.iconst 0, 1) := by decide +kernel
theorem dX7_heap_13 : decode cX7_heap 13 = .ok (.putfield 118, 3) := by decide +kernel
theorem dX7_heap_16 : decode cX7_heap 16 = .ok (.iload_n 1, 1) := by decide +kernel
theorem dX7_heap_17 : decode cX7_heap 17 = .ok (.ifCond .le 18, 3) := by decide +kernel
theorem dX7_heap_20 : decode cX7_heap 20 = .ok (.aload_n 0, 1) := by decide +kernel
theorem dX7_heap_21 : decode cX7_heap 21 = .ok (.getfield 10, 3) := by decide +kernel
theorem dX7_heap_24 : decode cX7_heap 24 = .ok (.aload_n 0, 1) := by decide +kernel
theorem dX7_heap_25 : decode cX7_heap 25 = .ok (.getfield 26, 3) := by decide +kernel
theorem dX7_heap_28 : decode cX7_heap 28 = .ok (.getfield 129, 3) := by decide +kernel
theorem dX7_heap_31 : decode cX7_heap 31 = .ok (.iload_n 1, 1) := by decide +kernel
theorem dX7_heap_32 : decode cX7_heap 32 = .ok (.invokevirtual 139, 3) := by decide +kernel
theorem dX7_heap_35 : decode cX7_heap 35 = .ok (.iload_n 1, 1) := by decide +kernel
theorem dX7_heap_36 : decode cX7_heap 36 = .ok (.ireturn, 1) := by decide +kernel
theorem dX7_count_0 : decode cX7_count 0 = .ok (.iload_n 1, 1) := by decide +kernel
theorem dX7_count_1 : decode cX7_count 1 = .ok (.tableswitch 95 0 4 #[35, 43, 51, 60, 69], 35) := by decide +kernel
theorem dX7_count_36 : decode cX7_count 36 = .ok (.aload_n 0, 1) := by decide +kernel
theorem dX7_count_37 : decode cX7_count 37 = .ok (.getfield 10, 3) := by decide +kernel
theorem dX7_count_40 : decode cX7_count 40 = .ok (.getfield 69, 3) := by decide +kernel
theorem dX7_count_43 : decode cX7_count 43 = .ok (.ireturn, 1) := by decide +kernel
theorem dX7_count_44 : decode cX7_count 44 = .ok (.aload_n 0, 1) := by decide +kernel
theorem dX7_count_45 : decode cX7_count 45 = .ok (.getfield 10, 3) := by decide +kernel
theorem dX7_count_48 : decode cX7_count 48 = .ok (.getfield 88, 3) := by decide +kernel
theorem dX7_count_51 : decode cX7_count 51 = .ok (.ireturn, 1) := by decide +kernel
theorem dX7_count_52 : decode cX7_count 52 = .ok (.aload_n 0, 1) := by decide +kernel
theorem dX7_count_53 : decode cX7_count 53 = .ok (.getfield 10, 3) := by decide +kernel
theorem dX7_count_56 : decode cX7_count 56 = .ok (.iconst 0, 1) := by decide +kernel
theorem dX7_count_57 : decode cX7_count 57 = .ok (.invokevirtual 142, 3) := by decide +kernel
theorem dX7_count_60 : decode cX7_count 60 = .ok (.ireturn, 1) := by decide +kernel
theorem dX7_count_61 : decode cX7_count 61 = .ok (.aload_n 0, 1) := by decide +kernel
theorem dX7_count_62 : decode cX7_count 62 = .ok (.getfield 10, 3) := by decide +kernel
theorem dX7_count_65 : decode cX7_count 65 = .ok (.iconst 1, 1) := by decide +kernel
theorem dX7_count_66 : decode cX7_count 66 = .ok (.invokevirtual 142, 3) := by decide +kernel
theorem dX7_count_69 : decode cX7_count 69 = .ok (.ireturn, 1) := by decide +kernel
theorem dX7_count_70 : decode cX7_count 70 = .ok (.aload_n 0, 1) := by decide +kernel
theorem dX7_count_71 : decode cX7_count 71 = .ok (.getfield 10, 3) := by decide +kernel
theorem dX7_count_74 : decode cX7_count 74 = .ok (.getfield 88, 3) := by decide +kernel
theorem dX7_count_77 : decode cX7_count 77 = .ok (.aload_n 0, 1) := by decide +kernel
theorem dX7_count_78 : decode cX7_count 78 = .ok (.getfield 10, 3) := by decide +kernel
theorem dX7_count_81 : decode cX7_count 81 = .ok (.iconst 0, 1) := by decide +kernel
theorem dX7_count_82 : decode cX7_count 82 = .ok (.invokevirtual 142, 3) := by decide +kernel
theorem dX7_count_85 : decode cX7_count 85 = .ok (.isub, 1) := by decide +kernel
theorem dX7_count_86 : decode cX7_count 86 = .ok (.aload_n 0, 1) := by decide +kernel
theorem dX7_count_87 : decode cX7_count 87 = .ok (.getfield 10, 3) := by decide +kernel
theorem dX7_count_90 : decode cX7_count 90 = .ok (.iconst 1, 1) := by decide +kernel
theorem dX7_count_91 : decode cX7_count 91 = .ok (.invokevirtual 142, 3) := by decide +kernel
theorem dX7_count_94 : decode cX7_count 94 = .ok (.isub, 1) := by decide +kernel
theorem dX7_count_95 : decode cX7_count 95 = .ok (.ireturn, 1) := by decide +kernel
theorem dX7_count_96 : decode cX7_count 96 = .ok (.iconst (-1), 1) := by decide +kernel
theorem dX7_count_97 : decode cX7_count 97 = .ok (.ireturn, 1) := by decide +kernel
theorem dX7_shod_0 : decode cX7_shod 0 = .ok (.iload_n 1, 1) := by decide +kernel
theorem dX7_shod_1 : decode cX7_shod 1 = .ok (.invokestatic 101, 3) := by decide +kernel
theorem dX7_shod_4 : decode cX7_shod 4 = .ok (.ifCond .eq 16, 3) := by decide +kernel
theorem dX7_shod_7 : decode cX7_shod 7 = .ok (.iload_n 2, 1) := by decide +kernel
theorem dX7_shod_8 : decode cX7_shod 8 = .ok (.iconst (-1), 1) := by decide +kernel
theorem dX7_shod_9 : decode cX7_shod 9 = .ok (.if_icmp .eq 13, 3) := by decide +kernel
theorem dX7_shod_12 : decode cX7_shod 12 = .ok (.aload_n 0, 1) := by decide +kernel
theorem dX7_shod_13 : decode cX7_shod 13 = .ok (.iload_n 2, 1) := by decide +kernel
theorem dX7_shod_14 : decode cX7_shod 14 = .ok (.invokevirtual 77, 3) := by decide +kernel
theorem dX7_shod_17 : decode cX7_shod 17 = .ok (.ifCond .ne 5, 3) := by decide +kernel
theorem dX7_shod_20 : decode cX7_shod 20 = .ok (.iconst (-1), 1) := by decide +kernel
theorem dX7_shod_21 : decode cX7_shod 21 = .ok (.ireturn, 1) := by decide +kernel
theorem dX7_shod_22 : decode cX7_shod 22 = .ok (.aload_n 0, 1) := by decide +kernel
theorem dX7_shod_23 : decode cX7_shod 23 = .ok (.getfield 33, 3) := by decide +kernel
theorem dX7_shod_26 : decode cX7_shod 26 = .ok (.aload_n 0, 1) := by decide +kernel
theorem dX7_shod_27 : decode cX7_shod 27 = .ok (.getfield 10, 3) := by decide +kernel
theorem dX7_shod_30 : decode cX7_shod 30 = .ok (.iload_n 1, 1) := by decide +kernel
theorem dX7_shod_31 : decode cX7_shod 31 = .ok (.invokevirtual 146, 3) := by decide +kernel
theorem dX7_shod_34 : decode cX7_shod 34 = .ok (.ifCond .ne 6, 3) := by decide +kernel
theorem dX7_shod_37 : decode cX7_shod 37 = .ok (.bipush (-4), 2) := by decide +kernel
theorem dX7_shod_39 : decode cX7_shod 39 = .ok (.ireturn, 1) := by decide +kernel
theorem dX7_shod_40 : decode cX7_shod 40 = .ok (.iload_n 2, 1) := by decide +kernel
theorem dX7_shod_41 : decode cX7_shod 41 = .ok (.iconst (-1), 1) := by decide +kernel
theorem dX7_shod_42 : decode cX7_shod 42 = .ok (.if_icmp .ne 13, 3) := by decide +kernel
theorem dX7_shod_45 : decode cX7_shod 45 = .ok (.aload_n 0, 1) := by decide +kernel
theorem dX7_shod_46 : decode cX7_shod 46 = .ok (.getfield 33, 3) := by decide +kernel
theorem dX7_shod_49 : decode cX7_shod 49 = .ok (.getfield 150, 3) := by decide +kernel
theorem dX7_shod_52 : decode cX7_shod 52 = .ok (.goto 12, 3) := by decide +kernel
theorem dX7_shod_55 : decode cX7_shod 55 = .ok (.aload_n 0, 1) := by decide +kernel
theorem dX7_shod_56 : decode cX7_shod 56 = .ok (.getfield 33, 3) := by decide +kernel
theorem dX7_shod_59 : decode cX7_shod 59 = .ok (.getfield 153, 3) := by decide +kernel
theorem dX7_shod_62 : decode cX7_shod 62 = .ok (.iload_n 2, 1) := by decide +kernel
theorem dX7_shod_63 : decode cX7_shod 63 = .ok (.iaload, 1) := by decide +kernel
theorem dX7_shod_64 : decode cX7_shod 64 = .ok (.ireturn, 1) := by decide +kernel
theorem dX7_most_0 : decode cX7_most 0 = .ok (.iload_n 1, 1) := by decide +kernel
theorem dX7_most_1 : decode cX7_most 1 = .ok (.invokestatic 101, 3) := by decide +kernel
theorem dX7_most_4 : decode cX7_most 4 = .ok (.ifCond .eq 18, 3) := by decide +kernel
theorem dX7_most_7 : decode cX7_most 7 = .ok (.aload_n 0, 1) := by decide +kernel
theorem dX7_most_8 : decode cX7_most 8 = .ok (.getfield 33, 3) := by decide +kernel
theorem dX7_most_11 : decode cX7_most 11 = .ok (.aload_n 0, 1) := by decide +kernel
theorem dX7_most_12 : decode cX7_most 12 = .ok (.getfield 10, 3) := by decide +kernel
theorem dX7_most_15 : decode cX7_most 15 = .ok (.iload_n 1, 1) := by decide +kernel
theorem dX7_most_16 : decode cX7_most 16 = .ok (.invokevirtual 156, 3) := by decide +kernel
theorem dX7_most_19 : decode cX7_most 19 = .ok (.goto 4, 3) := by decide +kernel
theorem dX7_most_22 : decode cX7_most 22 = .ok (.iconst (-1), 1) := by decide +kernel
theorem dX7_most_23 : decode cX7_most 23 = .ok (.ireturn, 1) := by decide +kernel
theorem dX7_chain_0 : decode cX7_chain 0 = .ok (.aload_n 0, 1) := by decide +kernel
theorem dX7_chain_1 : decode cX7_chain 1 = .ok (.iload_n 1, 1) := by decide +kernel
theorem dX7_chain_2 : decode cX7_chain 2 = .ok (.invokevirtual 94, 3) := by decide +kernel
theorem dX7_chain_5 : decode cX7_chain 5 = .ok (.ifCond .ne 5, 3) := by decide +kernel
theorem dX7_chain_8 : decode cX7_chain 8 = .ok (.iconst (-1), 1) := by decide +kernel
theorem dX7_chain_9 : decode cX7_chain 9 = .ok (.ireturn, 1) := by decide +kernel
theorem dX7_chain_10 : decode cX7_chain 10 = .ok (.aload_n 0, 1) := by decide +kernel
theorem dX7_chain_11 : decode cX7_chain 11 = .ok (.getfield 10, 3) := by decide +kernel
theorem dX7_chain_14 : decode cX7_chain 14 = .ok (.getfield 91, 3) := by decide +kernel
theorem dX7_chain_17 : decode cX7_chain 17 = .ok (.iload_n 1, 1) := by decide +kernel
theorem dX7_chain_18 : decode cX7_chain 18 = .ok (.aaload, 1) := by decide +kernel
theorem dX7_chain_19 : decode cX7_chain 19 = .ok (.iconst 3, 1) := by decide +kernel
theorem dX7_chain_20 : decode cX7_chain 20 = .ok (.iaload, 1) := by decide +kernel
theorem dX7_chain_21 : decode cX7_chain 21 = .ok (.ifCond .ne 28, 3) := by decide +kernel
theorem dX7_chain_24 : decode cX7_chain 24 = .ok (.aload_n 0, 1) := by decide +kernel
theorem dX7_chain_25 : decode cX7_chain 25 = .ok (.getfield 33, 3) := by decide +kernel
theorem dX7_chain_28 : decode cX7_chain 28 = .ok (.aload_n 0, 1) := by decide +kernel
theorem dX7_chain_29 : decode cX7_chain 29 = .ok (.getfield 10, 3) := by decide +kernel
theorem dX7_chain_32 : decode cX7_chain 32 = .ok (.aload_n 0, 1) := by decide +kernel
theorem dX7_chain_33 : decode cX7_chain 33 = .ok (.getfield 10, 3) := by decide +kernel
theorem dX7_chain_36 : decode cX7_chain 36 = .ok (.getfield 91, 3) := by decide +kernel
theorem dX7_chain_39 : decode cX7_chain 39 = .ok (.iload_n 1, 1) := by decide +kernel
theorem dX7_chain_40 : decode cX7_chain 40 = .ok (.aaload, 1) := by decide +kernel
theorem dX7_chain_41 : decode cX7_chain 41 = .ok (.iconst 0, 1) := by decide +kernel
theorem dX7_chain_42 : decode cX7_chain 42 = .ok (.iaload, 1) := by decide +kernel
theorem dX7_chain_43 : decode cX7_chain 43 = .ok (.invokevirtual 146, 3) := by decide +kernel
theorem dX7_chain_46 : decode cX7_chain 46 = .ok (.ifCond .ne 6, 3) := by decide +kernel
theorem dX7_chain_49 : decode cX7_chain 49 = .ok (.bipush (-2), 2) := by decide +kernel
theorem dX7_chain_51 : decode cX7_chain 51 = .ok (.ireturn, 1) := by decide +kernel
theorem dX7_chain_52 : decode cX7_chain 52 = .ok (.aload_n 0, 1) := by decide +kernel
theorem dX7_chain_53 : decode cX7_chain 53 = .ok (.getfield 33, 3) := by decide +kernel
theorem dX7_chain_56 : decode cX7_chain 56 = .ok (.aload_n 0, 1) := by decide +kernel
theorem dX7_chain_57 : decode cX7_chain 57 = .ok (.getfield 10, 3) := by decide +kernel
theorem dX7_chain_60 : decode cX7_chain 60 = .ok (.iload_n 1, 1) := by decide +kernel
theorem dX7_chain_61 : decode cX7_chain 61 = .ok (.invokevirtual 160, 3) := by decide +kernel
theorem dX7_chain_64 : decode cX7_chain 64 = .ok (.ifCond .eq 18, 3) := by decide +kernel
theorem dX7_chain_67 : decode cX7_chain 67 = .ok (.aload_n 0, 1) := by decide +kernel
theorem dX7_chain_68 : decode cX7_chain 68 = .ok (.getfield 33, 3) := by decide +kernel
theorem dX7_chain_71 : decode cX7_chain 71 = .ok (.aload_n 0, 1) := by decide +kernel
theorem dX7_chain_72 : decode cX7_chain 72 = .ok (.getfield 10, 3) := by decide +kernel
theorem dX7_chain_75 : decode cX7_chain 75 = .ok (.iload_n 1, 1) := by decide +kernel
theorem dX7_chain_76 : decode cX7_chain 76 = .ok (.invokevirtual 163, 3) := by decide +kernel
theorem dX7_chain_79 : decode cX7_chain 79 = .ok (.goto 5, 3) := by decide +kernel
theorem dX7_chain_82 : decode cX7_chain 82 = .ok (.bipush (-2), 2) := by decide +kernel
theorem dX7_chain_84 : decode cX7_chain 84 = .ok (.ireturn, 1) := by decide +kernel
theorem dX7_limps_0 : decode cX7_limps 0 = .ok (.aload_n 0, 1) := by decide +kernel
theorem dX7_limps_1 : decode cX7_limps 1 = .ok (.iload_n 1, 1) := by decide +kernel
theorem dX7_limps_2 : decode cX7_limps 2 = .ok (.invokevirtual 77, 3) := by decide +kernel
theorem dX7_limps_5 : decode cX7_limps 5 = .ok (.ifCond .eq 18, 3) := by decide +kernel
theorem dX7_limps_8 : decode cX7_limps 8 = .ok (.aload_n 0, 1) := by decide +kernel
theorem dX7_limps_9 : decode cX7_limps 9 = .ok (.iload_n 2, 1) := by decide +kernel
theorem dX7_limps_10 : decode cX7_limps 10 = .ok (.invokevirtual 94, 3) := by decide +kernel
theorem dX7_limps_13 : decode cX7_limps 13 = .ok (.ifCond .eq 10, 3) := by decide +kernel
theorem dX7_limps_16 : decode cX7_limps 16 = .ok (.iload_n 3, 1) := by decide +kernel
theorem dX7_limps_17 : decode cX7_limps 17 = .ok (.invokestatic 104, 3) := by decide +kernel
theorem dX7_limps_20 : decode cX7_limps 20 = .ok (.ifCond .ne 6, 3) := by decide +kernel
theorem dX7_limps_23 : decode cX7_limps 23 = .ok (.ldc 166, 2) := by decide +kernel
theorem dX7_limps_25 : decode cX7_limps 25 = .ok (.ireturn, 1) := by decide +kernel
theorem dX7_limps_26 : decode cX7_limps 26 = .ok (.aload_n 0, 1) := by decide +kernel
theorem dX7_limps_27 : decode cX7_limps 27 = .ok (.getfield 10, 3) := by decide +kernel
theorem dX7_limps_30 : decode cX7_limps 30 = .ok (.iload_n 1, 1) := by decide +kernel
theorem dX7_limps_31 : decode cX7_limps 31 = .ok (.iload_n 2, 1) := by decide +kernel
theorem dX7_limps_32 : decode cX7_limps 32 = .ok (.iload_n 3, 1) := by decide +kernel
theorem dX7_limps_33 : decode cX7_limps 33 = .ok (.invokevirtual 167, 3) := by decide +kernel
theorem dX7_limps_36 : decode cX7_limps 36 = .ok (.ireturn, 1) := by decide +kernel
theorem dX7_tries_0 : decode cX7_tries 0 = .ok (.iload_n 1, 1) := by decide +kernel
theorem dX7_tries_1 : decode cX7_tries 1 = .ok (.invokestatic 101, 3) := by decide +kernel
theorem dX7_tries_4 : decode cX7_tries 4 = .ok (.ifCond .eq 34, 3) := by decide +kernel
theorem dX7_tries_7 : decode cX7_tries 7 = .ok (.iload_n 2, 1) := by decide +kernel
theorem dX7_tries_8 : decode cX7_tries 8 = .ok (.bipush 20, 2) := by decide +kernel
theorem dX7_tries_10 : decode cX7_tries 10 = .ok (.bipush 60, 2) := by decide +kernel
theorem dX7_tries_12 : decode cX7_tries 12 = .ok (.invokestatic 81, 3) := by decide +kernel
theorem dX7_tries_15 : decode cX7_tries 15 = .ok (.ifCond .eq 23, 3) := by decide +kernel
theorem dX7_tries_18 : decode cX7_tries 18 = .ok (.iload_n 3, 1) := by decide +kernel
theorem dX7_tries_19 : decode cX7_tries 19 = .ok (.iload_n 2, 1) := by decide +kernel
theorem dX7_tries_20 : decode cX7_tries 20 = .ok (.bipush 60, 2) := by decide +kernel
theorem dX7_tries_22 : decode cX7_tries 22 = .ok (.invokestatic 81, 3) := by decide +kernel
theorem dX7_tries_25 : decode cX7_tries 25 = .ok (.ifCond .eq 13, 3) := by decide +kernel
theorem dX7_tries_28 : decode cX7_tries 28 = .ok (.iload 4, 2) := by decide +kernel
theorem dX7_tries_30 : decode cX7_tries 30 = .ok (.iconst 0, 1) := by decide +kernel
theorem dX7_tries_31 : decode cX7_tries 31 = .ok (.iconst 1, 1) := by decide +kernel
theorem dX7_tries_32 : decode cX7_tries 32 = .ok (.invokestatic 81, 3) := by decide +kernel
theorem dX7_tries_35 : decode cX7_tries 35 = .ok (.ifCond .ne 5, 3) := by decide +kernel
theorem dX7_tries_38 : decode cX7_tries 38 = .ok (.iconst (-1), 1) := by decide +kernel
theorem dX7_tries_39 : decode cX7_tries 39 = .ok (.ireturn, 1) := by decide +kernel
theorem dX7_tries_40 : decode cX7_tries 40 = .ok (.aload_n 0, 1) := by decide +kernel
theorem dX7_tries_41 : decode cX7_tries 41 = .ok (.getfield 40, 3) := by decide +kernel
theorem dX7_tries_44 : decode cX7_tries 44 = .ok (.aload_n 0, 1) := by decide +kernel
theorem dX7_tries_45 : decode cX7_tries 45 = .ok (.getfield 10, 3) := by decide +kernel
theorem dX7_tries_48 : decode cX7_tries 48 = .ok (.iload_n 1, 1) := by decide +kernel
theorem dX7_tries_49 : decode cX7_tries 49 = .ok (.iload_n 2, 1) := by decide +kernel
theorem dX7_tries_50 : decode cX7_tries 50 = .ok (.iload_n 3, 1) := by decide +kernel
theorem dX7_tries_51 : decode cX7_tries 51 = .ok (.invokevirtual 170, 3) := by decide +kernel
theorem dX7_tries_54 : decode cX7_tries 54 = .ok (.iload 4, 2) := by decide +kernel
theorem dX7_tries_56 : decode cX7_tries 56 = .ok (.ifCond .ne 15, 3) := by decide +kernel
theorem dX7_tries_59 : decode cX7_tries 59 = .ok (.aload_n 0, 1) := by decide +kernel
theorem dX7_tries_60 : decode cX7_tries 60 = .ok (.getfield 40, 3) := by decide +kernel
theorem dX7_tries_63 : decode cX7_tries 63 = .ok (.iload_n 2, 1) := by decide +kernel
theorem dX7_tries_64 : decode cX7_tries 64 = .ok (.iload_n 3, 1) := by decide +kernel
theorem dX7_tries_65 : decode cX7_tries 65 = .ok (.invokevirtual 174, 3) := by decide +kernel
theorem dX7_tries_68 : decode cX7_tries 68 = .ok (.goto 12, 3) := by decide +kernel
theorem dX7_tries_71 : decode cX7_tries 71 = .ok (.aload_n 0, 1) := by decide +kernel
theorem dX7_tries_72 : decode cX7_tries 72 = .ok (.getfield 40, 3) := by decide +kernel
theorem dX7_tries_75 : decode cX7_tries 75 = .ok (.iload_n 2, 1) := by decide +kernel
theorem dX7_tries_76 : decode cX7_tries 76 = .ok (.iload_n 3, 1) := by decide +kernel
theorem dX7_tries_77 : decode cX7_tries 77 = .ok (.invokevirtual 178, 3) := by decide +kernel
theorem dX7_tries_80 : decode cX7_tries 80 = .ok (.ireturn, 1) := by decide +kernel
theorem dX7_image_0 : decode cX7_image 0 = .ok (.aload_n 0, 1) := by decide +kernel
theorem dX7_image_1 : decode cX7_image 1 = .ok (.getfield 16, 3) := by decide +kernel
theorem dX7_image_4 : decode cX7_image 4 = .ok (.aload_n 0, 1) := by decide +kernel
theorem dX7_image_5 : decode cX7_image 5 = .ok (.getfield 10, 3) := by decide +kernel
theorem dX7_image_8 : decode cX7_image 8 = .ok (.invokevirtual 181, 3) := by decide +kernel
theorem dX7_image_11 : decode cX7_image 11 = .ok (.aload_n 0, 1) := by decide +kernel
theorem dX7_image_12 : decode cX7_image 12 = .ok (.iconst 1, 1) := by decide +kernel
theorem dX7_image_13 : decode cX7_image 13 = .ok (.putfield 19, 3) := by decide +kernel
theorem dX7_image_16 : decode cX7_image 16 = .ok (.iconst 1, 1) := by decide +kernel
theorem dX7_image_17 : decode cX7_image 17 = .ok (.ireturn, 1) := by decide +kernel
theorem dX7_restore_0 : decode cX7_restore 0 = .ok (.aload_n 0, 1) := by decide +kernel
theorem dX7_restore_1 : decode cX7_restore 1 = .ok (.getfield 19, 3) := by decide +kernel
theorem dX7_restore_4 : decode cX7_restore 4 = .ok (.ifCond .ne 6, 3) := by decide +kernel
theorem dX7_restore_7 : decode cX7_restore 7 = .ok (.bipush (-4), 2) := by decide +kernel
theorem dX7_restore_9 : decode cX7_restore 9 = .ok (.ireturn, 1) := by decide +kernel
theorem dX7_restore_10 : decode cX7_restore 10 = .ok (.aload_n 0, 1) := by decide +kernel
theorem dX7_restore_11 : decode cX7_restore 11 = .ok (.getfield 10, 3) := by decide +kernel
theorem dX7_restore_14 : decode cX7_restore 14 = .ok (.aload_n 0, 1) := by decide +kernel
theorem dX7_restore_15 : decode cX7_restore 15 = .ok (.getfield 16, 3) := by decide +kernel
theorem dX7_restore_18 : decode cX7_restore 18 = .ok (.invokevirtual 181, 3) := by decide +kernel
theorem dX7_restore_21 : decode cX7_restore 21 = .ok (.iconst 1, 1) := by decide +kernel
theorem dX7_restore_22 : decode cX7_restore 22 = .ok (.ireturn, 1) := by decide +kernel
theorem dX7_changed_0 : decode cX7_changed 0 = .ok (.iload_n 1, 1) := by decide +kernel
theorem dX7_changed_1 : decode cX7_changed 1 = .ok (.invokestatic 101, 3) := by decide +kernel
theorem dX7_changed_4 : decode cX7_changed 4 = .ok (.ifCond .eq 28, 3) := by decide +kernel
theorem dX7_changed_7 : decode cX7_changed 7 = .ok (.iload_n 2, 1) := by decide +kernel
theorem dX7_changed_8 : decode cX7_changed 8 = .ok (.invokestatic 185, 3) := by decide +kernel
theorem dX7_changed_11 : decode cX7_changed 11 = .ok (.ifCond .eq 21, 3) := by decide +kernel
theorem dX7_changed_14 : decode cX7_changed 14 = .ok (.iload_n 3, 1) := by decide +kernel
theorem dX7_changed_15 : decode cX7_changed 15 = .ok (.invokestatic 188, 3) := by decide +kernel
theorem dX7_changed_18 : decode cX7_changed 18 = .ok (.ifCond .eq 14, 3) := by decide +kernel
theorem dX7_changed_21 : decode cX7_changed 21 = .ok (.iload 5, 2) := by decide +kernel
theorem dX7_changed_23 : decode cX7_changed 23 = .ok (.iconst 1, 1) := by decide +kernel
theorem dX7_changed_24 : decode cX7_changed 24 = .ok (.bipush 6, 2) := by decide +kernel
theorem dX7_changed_26 : decode cX7_changed 26 = .ok (.invokestatic 81, 3) := by decide +kernel
theorem dX7_changed_29 : decode cX7_changed 29 = .ok (.ifCond .ne 5, 3) := by decide +kernel
theorem dX7_changed_32 : decode cX7_changed 32 = .ok (.iconst (-1), 1) := by decide +kernel
theorem dX7_changed_33 : decode cX7_changed 33 = .ok (.ireturn, 1) := by decide +kernel
theorem dX7_changed_34 : decode cX7_changed 34 = .ok (.iload 5, 2) := by decide +kernel
theorem dX7_changed_36 : decode cX7_changed 36 = .ok (.aload_n 0, 1) := by decide +kernel
theorem dX7_changed_37 : decode cX7_changed 37 = .ok (.getfield 10, 3) := by decide +kernel
theorem dX7_changed_40 : decode cX7_changed 40 = .ok (.getfield 69, 3) := by decide +kernel
theorem dX7_changed_43 : decode cX7_changed 43 = .ok (.if_icmp .gt 16, 3) := by decide +kernel
theorem dX7_changed_46 : decode cX7_changed 46 = .ok (.iload 6, 2) := by decide +kernel
theorem dX7_changed_48 : decode cX7_changed 48 = .ok (.iconst (-1), 1) := by decide +kernel
theorem dX7_changed_49 : decode cX7_changed 49 = .ok (.iload 5, 2) := by decide +kernel
theorem dX7_changed_51 : decode cX7_changed 51 = .ok (.iconst 1, 1) := by decide +kernel
theorem dX7_changed_52 : decode cX7_changed 52 = .ok (.isub, 1) := by decide +kernel
theorem dX7_changed_53 : decode cX7_changed 53 = .ok (.invokestatic 81, 3) := by decide +kernel
theorem dX7_changed_56 : decode cX7_changed 56 = .ok (.ifCond .ne 5, 3) := by decide +kernel
theorem dX7_changed_59 : decode cX7_changed 59 = .ok (.iconst (-1), 1) := by decide +kernel
theorem dX7_changed_60 : decode cX7_changed 60 = .ok (.ireturn, 1) := by decide +kernel
theorem dX7_changed_61 : decode cX7_changed 61 = .ok (.aload_n 0, 1) := by decide +kernel
theorem dX7_changed_62 : decode cX7_changed 62 = .ok (.getfield 33, 3) := by decide +kernel
theorem dX7_changed_65 : decode cX7_changed 65 = .ok (.aload_n 0, 1) := by decide +kernel
theorem dX7_changed_66 : decode cX7_changed 66 = .ok (.getfield 10, 3) := by decide +kernel
theorem dX7_changed_69 : decode cX7_changed 69 = .ok (.iload_n 1, 1) := by decide +kernel
theorem dX7_changed_70 : decode cX7_changed 70 = .ok (.invokevirtual 146, 3) := by decide +kernel
theorem dX7_changed_73 : decode cX7_changed 73 = .ok (.ifCond .ne 6, 3) := by decide +kernel
theorem dX7_changed_76 : decode cX7_changed 76 = .ok (.bipush (-2), 2) := by decide +kernel
theorem dX7_changed_78 : decode cX7_changed 78 = .ok (.ireturn, 1) := by decide +kernel
theorem dX7_changed_79 : decode cX7_changed 79 = .ok (.aload_n 0, 1) := by decide +kernel
theorem dX7_changed_80 : decode cX7_changed 80 = .ok (.getfield 60, 3) := by decide +kernel
theorem dX7_changed_83 : decode cX7_changed 83 = .ok (.iload_n 2, 1) := by decide +kernel
theorem dX7_changed_84 : decode cX7_changed 84 = .ok (.aaload, 1) := by decide +kernel
theorem dX7_changed_85 : decode cX7_changed 85 = .ok (.iload_n 3, 1) := by decide +kernel
theorem dX7_changed_86 : decode cX7_changed 86 = .ok (.iload 4, 2) := by decide +kernel
theorem dX7_changed_88 : decode cX7_changed 88 = .ok (.iload 5, 2) := by decide +kernel
theorem dX7_changed_90 : decode cX7_changed 90 = .ok (.invokevirtual 191, 3) := by decide +kernel
theorem dX7_changed_93 : decode cX7_changed 93 = .ok (.istore 7, 2) := by decide +kernel
theorem dX7_changed_95 : decode cX7_changed 95 = .ok (.iload 7, 2) := by decide +kernel
theorem dX7_changed_97 : decode cX7_changed 97 = .ok (.ifCond .eq 6, 3) := by decide +kernel
theorem dX7_changed_100 : decode cX7_changed 100 = .ok (.iload 7, 2) := by decide +kernel
theorem dX7_changed_102 : decode cX7_changed 102 = .ok (.ireturn, 1) := by decide +kernel
theorem dX7_changed_103 : decode cX7_changed 103 = .ok (.aload_n 0, 1) := by decide +kernel
theorem dX7_changed_104 : decode cX7_changed 104 = .ok (.getfield 47, 3) := by decide +kernel
theorem dX7_changed_107 : decode cX7_changed 107 = .ok (.aload_n 0, 1) := by decide +kernel
theorem dX7_changed_108 : decode cX7_changed 108 = .ok (.getfield 10, 3) := by decide +kernel
theorem dX7_changed_111 : decode cX7_changed 111 = .ok (.aload_n 0, 1) := by decide +kernel
theorem dX7_changed_112 : decode cX7_changed 112 = .ok (.getfield 33, 3) := by decide +kernel
theorem dX7_changed_115 : decode cX7_changed 115 = .ok (.getfield 153, 3) := by decide +kernel
theorem dX7_changed_118 : decode cX7_changed 118 = .ok (.aload_n 0, 1) := by decide +kernel
theorem dX7_changed_119 : decode cX7_changed 119 = .ok (.getfield 60, 3) := by decide +kernel
theorem dX7_changed_122 : decode cX7_changed 122 = .ok (.iload_n 2, 1) := by decide +kernel
theorem dX7_changed_123 : decode cX7_changed 123 = .ok (.aaload, 1) := by decide +kernel
theorem dX7_changed_124 : decode cX7_changed 124 = .ok (.getfield 194, 3) := by decide +kernel
theorem dX7_changed_127 : decode cX7_changed 127 = .ok (.iload 4, 2) := by decide +kernel
theorem dX7_changed_129 : decode cX7_changed 129 = .ok (.iload 5, 2) := by decide +kernel
theorem dX7_changed_131 : decode cX7_changed 131 = .ok (.invokevirtual 197, 3) := by decide +kernel
theorem dX7_changed_134 : decode cX7_changed 134 = .ok (.aload_n 0, 1) := by decide +kernel
theorem dX7_changed_135 : decode cX7_changed 135 = .ok (.getfield 47, 3) := by decide +kernel
theorem dX7_changed_138 : decode cX7_changed 138 = .ok (.invokevirtual 201, 3) := by decide +kernel
theorem dX7_changed_141 : decode cX7_changed 141 = .ok (.ifCond .ne 6, 3) := by decide +kernel
theorem dX7_changed_144 : decode cX7_changed 144 = .ok (.bipush (-4), 2) := by decide +kernel
theorem dX7_changed_146 : decode cX7_changed 146 = .ok (.ireturn, 1) := by decide +kernel
theorem dX7_changed_147 : decode cX7_changed 147 = .ok (.iload 6, 2) := by decide +kernel
theorem dX7_changed_149 : decode cX7_changed 149 = .ok (.iconst (-1), 1) := by decide +kernel
theorem dX7_changed_150 : decode cX7_changed 150 = .ok (.if_icmp .ne 13, 3) := by decide +kernel
theorem dX7_changed_153 : decode cX7_changed 153 = .ok (.aload_n 0, 1) := by decide +kernel
theorem dX7_changed_154 : decode cX7_changed 154 = .ok (.getfield 47, 3) := by decide +kernel
theorem dX7_changed_157 : decode cX7_changed 157 = .ok (.invokevirtual 201, 3) := by decide +kernel
theorem dX7_changed_160 : decode cX7_changed 160 = .ok (.goto 13, 3) := by decide +kernel
theorem dX7_changed_163 : decode cX7_changed 163 = .ok (.aload_n 0, 1) := by decide +kernel
theorem dX7_changed_164 : decode cX7_changed 164 = .ok (.getfield 47, 3) := by decide +kernel
theorem dX7_changed_167 : decode cX7_changed 167 = .ok (.getfield 204, 3) := by decide +kernel
theorem dX7_changed_170 : decode cX7_changed 170 = .ok (.iload 6, 2) := by decide +kernel
theorem dX7_changed_172 : decode cX7_changed 172 = .ok (.iaload, 1) := by decide +kernel
theorem dX7_changed_173 : decode cX7_changed 173 = .ok (.ireturn, 1) := by decide +kernel
theorem dX7_firm_0 : decode cX7_firm 0 = .ok (.iload_n 1, 1) := by decide +kernel
theorem dX7_firm_1 : decode cX7_firm 1 = .ok (.invokestatic 185, 3) := by decide +kernel
theorem dX7_firm_4 : decode cX7_firm 4 = .ok (.ifCond .eq 31, 3) := by decide +kernel
theorem dX7_firm_7 : decode cX7_firm 7 = .ok (.iload_n 2, 1) := by decide +kernel
theorem dX7_firm_8 : decode cX7_firm 8 = .ok (.invokestatic 188, 3) := by decide +kernel
theorem dX7_firm_11 : decode cX7_firm 11 = .ok (.ifCond .eq 24, 3) := by decide +kernel
theorem dX7_firm_14 : decode cX7_firm 14 = .ok (.iload 4, 2) := by decide +kernel
theorem dX7_firm_16 : decode cX7_firm 16 = .ok (.invokestatic 207, 3) := by decide +kernel
theorem dX7_firm_19 : decode cX7_firm 19 = .ok (.ifCond .eq 16, 3) := by decide +kernel
theorem dX7_firm_22 : decode cX7_firm 22 = .ok (.iload 5, 2) := by decide +kernel
theorem dX7_firm_24 : decode cX7_firm 24 = .ok (.iconst 0, 1) := by decide +kernel
theorem dX7_firm_25 : decode cX7_firm 25 = .ok (.iload 4, 2) := by decide +kernel
theorem dX7_firm_27 : decode cX7_firm 27 = .ok (.iconst 1, 1) := by decide +kernel
theorem dX7_firm_28 : decode cX7_firm 28 = .ok (.isub, 1) := by decide +kernel
theorem dX7_firm_29 : decode cX7_firm 29 = .ok (.invokestatic 81, 3) := by decide +kernel
theorem dX7_firm_32 : decode cX7_firm 32 = .ok (.ifCond .ne 5, 3) := by decide +kernel
theorem dX7_firm_35 : decode cX7_firm 35 = .ok (.iconst (-1), 1) := by decide +kernel
theorem dX7_firm_36 : decode cX7_firm 36 = .ok (.ireturn, 1) := by decide +kernel
theorem dX7_firm_37 : decode cX7_firm 37 = .ok (.aload_n 0, 1) := by decide +kernel
theorem dX7_firm_38 : decode cX7_firm 38 = .ok (.getfield 60, 3) := by decide +kernel
theorem dX7_firm_41 : decode cX7_firm 41 = .ok (.iload_n 1, 1) := by decide +kernel
theorem dX7_firm_42 : decode cX7_firm 42 = .ok (.aaload, 1) := by decide +kernel
theorem dX7_firm_43 : decode cX7_firm 43 = .ok (.iload_n 2, 1) := by decide +kernel
theorem dX7_firm_44 : decode cX7_firm 44 = .ok (.iload_n 3, 1) := by decide +kernel
theorem dX7_firm_45 : decode cX7_firm 45 = .ok (.iconst 2, 1) := by decide +kernel
theorem dX7_firm_46 : decode cX7_firm 46 = .ok (.iload 4, 2) := by decide +kernel
theorem dX7_firm_48 : decode cX7_firm 48 = .ok (.imul, 1) := by decide +kernel
theorem dX7_firm_49 : decode cX7_firm 49 = .ok (.iload 4, 2) := by decide +kernel
theorem dX7_firm_51 : decode cX7_firm 51 = .ok (.imul, 1) := by decide +kernel
theorem dX7_firm_52 : decode cX7_firm 52 = .ok (.invokevirtual 191, 3) := by decide +kernel
theorem dX7_firm_55 : decode cX7_firm 55 = .ok (.istore 6, 2) := by decide +kernel
theorem dX7_firm_57 : decode cX7_firm 57 = .ok (.iload 6, 2) := by decide +kernel
theorem dX7_firm_59 : decode cX7_firm 59 = .ok (.ifCond .eq 6, 3) := by decide +kernel
theorem dX7_firm_62 : decode cX7_firm 62 = .ok (.iload 6, 2) := by decide +kernel
theorem dX7_firm_64 : decode cX7_firm 64 = .ok (.ireturn, 1) := by decide +kernel
theorem dX7_firm_65 : decode cX7_firm 65 = .ok (.aload_n 0, 1) := by decide +kernel
theorem dX7_firm_66 : decode cX7_firm 66 = .ok (.getfield 54, 3) := by decide +kernel
theorem dX7_firm_69 : decode cX7_firm 69 = .ok (.aload_n 0, 1) := by decide +kernel
theorem dX7_firm_70 : decode cX7_firm 70 = .ok (.getfield 60, 3) := by decide +kernel
theorem dX7_firm_73 : decode cX7_firm 73 = .ok (.iload_n 1, 1) := by decide +kernel
theorem dX7_firm_74 : decode cX7_firm 74 = .ok (.aaload, 1) := by decide +kernel
theorem dX7_firm_75 : decode cX7_firm 75 = .ok (.getfield 194, 3) := by decide +kernel
theorem dX7_firm_78 : decode cX7_firm 78 = .ok (.iload_n 3, 1) := by decide +kernel
theorem dX7_firm_79 : decode cX7_firm 79 = .ok (.iload 4, 2) := by decide +kernel
theorem dX7_firm_81 : decode cX7_firm 81 = .ok (.invokevirtual 210, 3) := by decide +kernel
theorem dX7_firm_84 : decode cX7_firm 84 = .ok (.ifCond .ne 6, 3) := by decide +kernel
theorem dX7_firm_87 : decode cX7_firm 87 = .ok (.bipush (-2), 2) := by decide +kernel
theorem dX7_firm_89 : decode cX7_firm 89 = .ok (.ireturn, 1) := by decide +kernel
theorem dX7_firm_90 : decode cX7_firm 90 = .ok (.aload_n 0, 1) := by decide +kernel
theorem dX7_firm_91 : decode cX7_firm 91 = .ok (.getfield 54, 3) := by decide +kernel
theorem dX7_firm_94 : decode cX7_firm 94 = .ok (.invokevirtual 214, 3) := by decide +kernel
theorem dX7_firm_97 : decode cX7_firm 97 = .ok (.aload_n 0, 1) := by decide +kernel
theorem dX7_firm_98 : decode cX7_firm 98 = .ok (.getfield 54, 3) := by decide +kernel
theorem dX7_firm_101 : decode cX7_firm 101 = .ok (.getfield 217, 3) := by decide +kernel
theorem dX7_firm_104 : decode cX7_firm 104 = .ok (.iload 5, 2) := by decide +kernel
theorem dX7_firm_106 : decode cX7_firm 106 = .ok (.iaload, 1) := by decide +kernel
theorem dX7_firm_107 : decode cX7_firm 107 = .ok (.ireturn, 1) := by decide +kernel
theorem dX7_judged_0 : decode cX7_judged 0 = .ok (.iload_n 1, 1) := by decide +kernel
theorem dX7_judged_1 : decode cX7_judged 1 = .ok (.invokestatic 185, 3) := by decide +kernel
theorem dX7_judged_4 : decode cX7_judged 4 = .ok (.ifCond .eq 26, 3) := by decide +kernel
theorem dX7_judged_7 : decode cX7_judged 7 = .ok (.iload_n 2, 1) := by decide +kernel
theorem dX7_judged_8 : decode cX7_judged 8 = .ok (.invokestatic 188, 3) := by decide +kernel
theorem dX7_judged_11 : decode cX7_judged 11 = .ok (.ifCond .eq 19, 3) := by decide +kernel
theorem dX7_judged_14 : decode cX7_judged 14 = .ok (.iload 4, 2) := by decide +kernel
theorem dX7_judged_16 : decode cX7_judged 16 = .ok (.invokestatic 207, 3) := by decide +kernel
theorem dX7_judged_19 : decode cX7_judged 19 = .ok (.ifCond .eq 11, 3) := by decide +kernel
theorem dX7_judged_22 : decode cX7_judged 22 = .ok (.iload 5, 2) := by decide +kernel
theorem dX7_judged_24 : decode cX7_judged 24 = .ok (.invokestatic 185, 3) := by decide +kernel
theorem dX7_judged_27 : decode cX7_judged 27 = .ok (.ifCond .ne 5, 3) := by decide +kernel
theorem dX7_judged_30 : decode cX7_judged 30 = .ok (.iconst (-1), 1) := by decide +kernel
theorem dX7_judged_31 : decode cX7_judged 31 = .ok (.ireturn, 1) := by decide +kernel
theorem dX7_judged_32 : decode cX7_judged 32 = .ok (.aload_n 0, 1) := by decide +kernel
theorem dX7_judged_33 : decode cX7_judged 33 = .ok (.getfield 60, 3) := by decide +kernel
theorem dX7_judged_36 : decode cX7_judged 36 = .ok (.iload_n 1, 1) := by decide +kernel
theorem dX7_judged_37 : decode cX7_judged 37 = .ok (.aaload, 1) := by decide +kernel
theorem dX7_judged_38 : decode cX7_judged 38 = .ok (.iload_n 2, 1) := by decide +kernel
theorem dX7_judged_39 : decode cX7_judged 39 = .ok (.iload_n 3, 1) := by decide +kernel
theorem dX7_judged_40 : decode cX7_judged 40 = .ok (.iconst 2, 1) := by decide +kernel
theorem dX7_judged_41 : decode cX7_judged 41 = .ok (.iload 4, 2) := by decide +kernel
theorem dX7_judged_43 : decode cX7_judged 43 = .ok (.imul, 1) := by decide +kernel
theorem dX7_judged_44 : decode cX7_judged 44 = .ok (.iload 4, 2) := by decide +kernel
theorem dX7_judged_46 : decode cX7_judged 46 = .ok (.imul, 1) := by decide +kernel
theorem dX7_judged_47 : decode cX7_judged 47 = .ok (.invokevirtual 191, 3) := by decide +kernel
theorem dX7_judged_50 : decode cX7_judged 50 = .ok (.istore 6, 2) := by decide +kernel
theorem dX7_judged_52 : decode cX7_judged 52 = .ok (.iload 6, 2) := by decide +kernel
theorem dX7_judged_54 : decode cX7_judged 54 = .ok (.ifCond .ne 19, 3) := by decide +kernel
theorem dX7_judged_57 : decode cX7_judged 57 = .ok (.aload_n 0, 1) := by decide +kernel
theorem dX7_judged_58 : decode cX7_judged 58 = .ok (.getfield 60, 3) := by decide +kernel
theorem dX7_judged_61 : decode cX7_judged 61 = .ok (.iload 5, 2) := by decide +kernel
theorem dX7_judged_63 : decode cX7_judged 63 = .ok (.aaload, 1) := by decide +kernel
theorem dX7_judged_64 : decode cX7_judged 64 = .ok (.iload_n 2, 1) := by decide +kernel
theorem dX7_judged_65 : decode cX7_judged 65 = .ok (.iconst 0, 1) := by decide +kernel
theorem dX7_judged_66 : decode cX7_judged 66 = .ok (.iload 4, 2) := by decide +kernel
theorem dX7_judged_68 : decode cX7_judged 68 = .ok (.invokevirtual 191, 3) := by decide +kernel
theorem dX7_judged_71 : decode cX7_judged 71 = .ok (.istore 6, 2) := by decide +kernel
theorem dX7_judged_73 : decode cX7_judged 73 = .ok (.iload 6, 2) := by decide +kernel
theorem dX7_judged_75 : decode cX7_judged 75 = .ok (.ifCond .eq 6, 3) := by decide +kernel
theorem dX7_judged_78 : decode cX7_judged 78 = .ok (.iload 6, 2) := by decide +kernel
theorem dX7_judged_80 : decode cX7_judged 80 = .ok (.ireturn, 1) := by decide +kernel
theorem dX7_judged_81 : decode cX7_judged 81 = .ok (.aload_n 0, 1) := by decide +kernel
theorem dX7_judged_82 : decode cX7_judged 82 = .ok (.getfield 54, 3) := by decide +kernel
theorem dX7_judged_85 : decode cX7_judged 85 = .ok (.aload_n 0, 1) := by decide +kernel
theorem dX7_judged_86 : decode cX7_judged 86 = .ok (.getfield 60, 3) := by decide +kernel
theorem dX7_judged_89 : decode cX7_judged 89 = .ok (.iload_n 1, 1) := by decide +kernel
theorem dX7_judged_90 : decode cX7_judged 90 = .ok (.aaload, 1) := by decide +kernel
theorem dX7_judged_91 : decode cX7_judged 91 = .ok (.getfield 194, 3) := by decide +kernel
theorem dX7_judged_94 : decode cX7_judged 94 = .ok (.iload_n 3, 1) := by decide +kernel
theorem dX7_judged_95 : decode cX7_judged 95 = .ok (.iload 4, 2) := by decide +kernel
theorem dX7_judged_97 : decode cX7_judged 97 = .ok (.invokevirtual 210, 3) := by decide +kernel
theorem dX7_judged_100 : decode cX7_judged 100 = .ok (.ifCond .eq 23, 3) := by decide +kernel
theorem dX7_judged_103 : decode cX7_judged 103 = .ok (.aload_n 0, 1) := by decide +kernel
theorem dX7_judged_104 : decode cX7_judged 104 = .ok (.getfield 54, 3) := by decide +kernel
theorem dX7_judged_107 : decode cX7_judged 107 = .ok (.aload_n 0, 1) := by decide +kernel
theorem dX7_judged_108 : decode cX7_judged 108 = .ok (.getfield 60, 3) := by decide +kernel
theorem dX7_judged_111 : decode cX7_judged 111 = .ok (.iload 5, 2) := by decide +kernel
theorem dX7_judged_113 : decode cX7_judged 113 = .ok (.aaload, 1) := by decide +kernel
theorem dX7_judged_114 : decode cX7_judged 114 = .ok (.getfield 194, 3) := by decide +kernel
theorem dX7_judged_117 : decode cX7_judged 117 = .ok (.invokevirtual 220, 3) := by decide +kernel
theorem dX7_judged_120 : decode cX7_judged 120 = .ok (.ifCond .ne 6, 3) := by decide +kernel
theorem dX7_judged_123 : decode cX7_judged 123 = .ok (.bipush (-2), 2) := by decide +kernel
theorem dX7_judged_125 : decode cX7_judged 125 = .ok (.ireturn, 1) := by decide +kernel
theorem dX7_judged_126 : decode cX7_judged 126 = .ok (.aload_n 0, 1) := by decide +kernel
theorem dX7_judged_127 : decode cX7_judged 127 = .ok (.getfield 54, 3) := by decide +kernel
theorem dX7_judged_130 : decode cX7_judged 130 = .ok (.invokevirtual 224, 3) := by decide +kernel
theorem dX7_judged_133 : decode cX7_judged 133 = .ok (.ireturn, 1) := by decide +kernel
theorem dX7_sheet_0 : decode cX7_sheet 0 = .ok (.iload_n 1, 1) := by decide +kernel
theorem dX7_sheet_1 : decode cX7_sheet 1 = .ok (.invokestatic 185, 3) := by decide +kernel
theorem dX7_sheet_4 : decode cX7_sheet 4 = .ok (.ifCond .eq 16, 3) := by decide +kernel
theorem dX7_sheet_7 : decode cX7_sheet 7 = .ok (.iload_n 2, 1) := by decide +kernel
theorem dX7_sheet_8 : decode cX7_sheet 8 = .ok (.invokestatic 188, 3) := by decide +kernel
theorem dX7_sheet_11 : decode cX7_sheet 11 = .ok (.ifCond .eq 9, 3) := by decide +kernel
theorem dX7_sheet_14 : decode cX7_sheet 14 = .ok (.iload_n 3, 1) := by decide +kernel
theorem dX7_sheet_15 : decode cX7_sheet 15 = .ok (.bipush 100, 2) := by decide +kernel
theorem dX7_sheet_17 : decode cX7_sheet 17 = .ok (.if_icmp .le 5, 3) := by decide +kernel
theorem dX7_sheet_20 : decode cX7_sheet 20 = .ok (.iconst (-1), 1) := by decide +kernel
theorem dX7_sheet_21 : decode cX7_sheet 21 = .ok (.ireturn, 1) := by decide +kernel
theorem dX7_sheet_22 : decode cX7_sheet 22 = .ok (.iload_n 3, 1) := by decide +kernel
theorem dX7_sheet_23 : decode cX7_sheet 23 = .ok (.ifCond .ge 6, 3) := by decide +kernel
theorem dX7_sheet_26 : decode cX7_sheet 26 = .ok (.bipush (-14), 2) := by decide +kernel
theorem dX7_sheet_28 : decode cX7_sheet 28 = .ok (.ireturn, 1) := by decide +kernel
theorem dX7_sheet_29 : decode cX7_sheet 29 = .ok (.aload_n 0, 1) := by decide +kernel
theorem dX7_sheet_30 : decode cX7_sheet 30 = .ok (.getfield 60, 3) := by decide +kernel
theorem dX7_sheet_33 : decode cX7_sheet 33 = .ok (.iload_n 1, 1) := by decide +kernel
theorem dX7_sheet_34 : decode cX7_sheet 34 = .ok (.aaload, 1) := by decide +kernel
theorem dX7_sheet_35 : decode cX7_sheet 35 = .ok (.iload_n 2, 1) := by decide +kernel
theorem dX7_sheet_36 : decode cX7_sheet 36 = .ok (.iload_n 3, 1) := by decide +kernel
theorem dX7_sheet_37 : decode cX7_sheet 37 = .ok (.invokevirtual 227, 3) := by decide +kernel
theorem dX7_sheet_40 : decode cX7_sheet 40 = .ok (.iload_n 3, 1) := by decide +kernel
theorem dX7_sheet_41 : decode cX7_sheet 41 = .ok (.ireturn, 1) := by decide +kernel
theorem dX7_drop_0 : decode cX7_drop 0 = .ok (.iload_n 1, 1) := by decide +kernel
theorem dX7_drop_1 : decode cX7_drop 1 = .ok (.invokestatic 185, 3) := by decide +kernel
theorem dX7_drop_4 : decode cX7_drop 4 = .ok (.ifCond .ne 5, 3) := by decide +kernel
theorem dX7_drop_7 : decode cX7_drop 7 = .ok (.iconst (-1), 1) := by decide +kernel
theorem dX7_drop_8 : decode cX7_drop 8 = .ok (.ireturn, 1) := by decide +kernel
theorem dX7_drop_9 : decode cX7_drop 9 = .ok (.aload_n 0, 1) := by decide +kernel
theorem dX7_drop_10 : decode cX7_drop 10 = .ok (.getfield 60, 3) := by decide +kernel
theorem dX7_drop_13 : decode cX7_drop 13 = .ok (.iload_n 1, 1) := by decide +kernel
theorem dX7_drop_14 : decode cX7_drop 14 = .ok (.aaload, 1) := by decide +kernel
theorem dX7_drop_15 : decode cX7_drop 15 = .ok (.getfield 231, 3) := by decide +kernel
theorem dX7_drop_18 : decode cX7_drop 18 = .ok (.ifCond .ne 6, 3) := by decide +kernel
theorem dX7_drop_21 : decode cX7_drop 21 = .ok (.bipush (-11), 2) := by decide +kernel
theorem dX7_drop_23 : decode cX7_drop 23 = .ok (.ireturn, 1) := by decide +kernel
theorem dX7_drop_24 : decode cX7_drop 24 = .ok (.aload_n 0, 1) := by decide +kernel
theorem dX7_drop_25 : decode cX7_drop 25 = .ok (.getfield 60, 3) := by decide +kernel
theorem dX7_drop_28 : decode cX7_drop 28 = .ok (.iload_n 1, 1) := by decide +kernel
theorem dX7_drop_29 : decode cX7_drop 29 = .ok (.aaload, 1) := by decide +kernel
theorem dX7_drop_30 : decode cX7_drop 30 = .ok (.iconst 0, 1) := by decide +kernel
theorem dX7_drop_31 : decode cX7_drop 31 = .ok (.putfield 231, 3) := by decide +kernel
theorem dX7_drop_34 : decode cX7_drop 34 = .ok (.aload_n 0, 1) := by decide +kernel
theorem dX7_drop_35 : decode cX7_drop 35 = .ok (.getfield 60, 3) := by decide +kernel
theorem dX7_drop_38 : decode cX7_drop 38 = .ok (.iload_n 1, 1) := by decide +kernel
theorem dX7_drop_39 : decode cX7_drop 39 = .ok (.aaload, 1) := by decide +kernel
theorem dX7_drop_40 : decode cX7_drop 40 = .ok (.getfield 234, 3) := by decide +kernel
theorem dX7_drop_43 : decode cX7_drop 43 = .ok (.ireturn, 1) := by decide +kernel
theorem dX7_item_0 : decode cX7_item 0 = .ok (.iload_n 1, 1) := by decide +kernel
theorem dX7_item_1 : decode cX7_item 1 = .ok (.invokestatic 185, 3) := by decide +kernel
theorem dX7_item_4 : decode cX7_item 4 = .ok (.ifCond .eq 10, 3) := by decide +kernel
theorem dX7_item_7 : decode cX7_item 7 = .ok (.iload_n 2, 1) := by decide +kernel
theorem dX7_item_8 : decode cX7_item 8 = .ok (.invokestatic 188, 3) := by decide +kernel
theorem dX7_item_11 : decode cX7_item 11 = .ok (.ifCond .ne 5, 3) := by decide +kernel
theorem dX7_item_14 : decode cX7_item 14 = .ok (.iconst (-1), 1) := by decide +kernel
theorem dX7_item_15 : decode cX7_item 15 = .ok (.ireturn, 1) := by decide +kernel
theorem dX7_item_16 : decode cX7_item 16 = .ok (.aload_n 0, 1) := by decide +kernel
theorem dX7_item_17 : decode cX7_item 17 = .ok (.getfield 60, 3) := by decide +kernel
theorem dX7_item_20 : decode cX7_item 20 = .ok (.iload_n 1, 1) := by decide +kernel
theorem dX7_item_21 : decode cX7_item 21 = .ok (.aaload, 1) := by decide +kernel
theorem dX7_item_22 : decode cX7_item 22 = .ok (.iload_n 2, 1) := by decide +kernel
theorem dX7_item_23 : decode cX7_item 23 = .ok (.iload_n 3, 1) := by decide +kernel
theorem dX7_item_24 : decode cX7_item 24 = .ok (.iconst 1, 1) := by decide +kernel
theorem dX7_item_25 : decode cX7_item 25 = .ok (.invokevirtual 191, 3) := by decide +kernel
theorem dX7_item_28 : decode cX7_item 28 = .ok (.istore 5, 2) := by decide +kernel
theorem dX7_item_30 : decode cX7_item 30 = .ok (.iload 5, 2) := by decide +kernel
theorem dX7_item_32 : decode cX7_item 32 = .ok (.ifCond .eq 6, 3) := by decide +kernel
theorem dX7_item_35 : decode cX7_item 35 = .ok (.iload 5, 2) := by decide +kernel
theorem dX7_item_37 : decode cX7_item 37 = .ok (.ireturn, 1) := by decide +kernel
theorem dX7_item_38 : decode cX7_item 38 = .ok (.aload_n 0, 1) := by decide +kernel
theorem dX7_item_39 : decode cX7_item 39 = .ok (.getfield 60, 3) := by decide +kernel
theorem dX7_item_42 : decode cX7_item 42 = .ok (.iload_n 1, 1) := by decide +kernel
theorem dX7_item_43 : decode cX7_item 43 = .ok (.aaload, 1) := by decide +kernel
theorem dX7_item_44 : decode cX7_item 44 = .ok (.getfield 194, 3) := by decide +kernel
theorem dX7_item_47 : decode cX7_item 47 = .ok (.iload_n 3, 1) := by decide +kernel
theorem dX7_item_48 : decode cX7_item 48 = .ok (.iload_n 2, 1) := by decide +kernel
theorem dX7_item_49 : decode cX7_item 49 = .ok (.iload 4, 2) := by decide +kernel
theorem dX7_item_51 : decode cX7_item 51 = .ok (.invokestatic 235, 3) := by decide +kernel
theorem dX7_item_54 : decode cX7_item 54 = .ok (.iastore, 1) := by decide +kernel
theorem dX7_item_55 : decode cX7_item 55 = .ok (.iconst 1, 1) := by decide +kernel
theorem dX7_item_56 : decode cX7_item 56 = .ok (.ireturn, 1) := by decide +kernel
theorem dX7_copy_0 : decode cX7_copy 0 = .ok (.iload_n 1, 1) := by decide +kernel
theorem dX7_copy_1 : decode cX7_copy 1 = .ok (.invokestatic 185, 3) := by decide +kernel
theorem dX7_copy_4 : decode cX7_copy 4 = .ok (.ifCond .eq 10, 3) := by decide +kernel
theorem dX7_copy_7 : decode cX7_copy 7 = .ok (.iload_n 3, 1) := by decide +kernel
theorem dX7_copy_8 : decode cX7_copy 8 = .ok (.invokestatic 185, 3) := by decide +kernel
theorem dX7_copy_11 : decode cX7_copy 11 = .ok (.ifCond .ne 5, 3) := by decide +kernel
theorem dX7_copy_14 : decode cX7_copy 14 = .ok (.iconst (-1), 1) := by decide +kernel
theorem dX7_copy_15 : decode cX7_copy 15 = .ok (.ireturn, 1) := by decide +kernel
theorem dX7_copy_16 : decode cX7_copy 16 = .ok (.aload_n 0, 1) := by decide +kernel
theorem dX7_copy_17 : decode cX7_copy 17 = .ok (.getfield 60, 3) := by decide +kernel
theorem dX7_copy_20 : decode cX7_copy 20 = .ok (.iload_n 1, 1) := by decide +kernel
theorem dX7_copy_21 : decode cX7_copy 21 = .ok (.aaload, 1) := by decide +kernel
theorem dX7_copy_22 : decode cX7_copy 22 = .ok (.getfield 231, 3) := by decide +kernel
theorem dX7_copy_25 : decode cX7_copy 25 = .ok (.ifCond .eq 15, 3) := by decide +kernel
theorem dX7_copy_28 : decode cX7_copy 28 = .ok (.aload_n 0, 1) := by decide +kernel
theorem dX7_copy_29 : decode cX7_copy 29 = .ok (.getfield 60, 3) := by decide +kernel
theorem dX7_copy_32 : decode cX7_copy 32 = .ok (.iload_n 3, 1) := by decide +kernel
theorem dX7_copy_33 : decode cX7_copy 33 = .ok (.aaload, 1) := by decide +kernel
theorem dX7_copy_34 : decode cX7_copy 34 = .ok (.getfield 231, 3) := by decide +kernel
theorem dX7_copy_37 : decode cX7_copy 37 = .ok (.ifCond .ne 6, 3) := by decide +kernel
theorem dX7_copy_40 : decode cX7_copy 40 = .ok (.bipush (-11), 2) := by decide +kernel
theorem dX7_copy_42 : decode cX7_copy 42 = .ok (.ireturn, 1) := by decide +kernel
theorem dX7_copy_43 : decode cX7_copy 43 = .ok (.aload_n 0, 1) := by decide +kernel
theorem dX7_copy_44 : decode cX7_copy 44 = .ok (.getfield 60, 3) := by decide +kernel
theorem dX7_copy_47 : decode cX7_copy 47 = .ok (.iload_n 1, 1) := by decide +kernel
theorem dX7_copy_48 : decode cX7_copy 48 = .ok (.aaload, 1) := by decide +kernel
theorem dX7_copy_49 : decode cX7_copy 49 = .ok (.aload_n 0, 1) := by decide +kernel
theorem dX7_copy_50 : decode cX7_copy 50 = .ok (.getfield 60, 3) := by decide +kernel
theorem dX7_copy_53 : decode cX7_copy 53 = .ok (.iload_n 3, 1) := by decide +kernel
theorem dX7_copy_54 : decode cX7_copy 54 = .ok (.aaload, 1) := by decide +kernel
theorem dX7_copy_55 : decode cX7_copy 55 = .ok (.getfield 238, 3) := by decide +kernel
theorem dX7_copy_58 : decode cX7_copy 58 = .ok (.iload_n 2, 1) := by decide +kernel
theorem dX7_copy_59 : decode cX7_copy 59 = .ok (.iload 5, 2) := by decide +kernel
theorem dX7_copy_61 : decode cX7_copy 61 = .ok (.invokevirtual 191, 3) := by decide +kernel
theorem dX7_copy_64 : decode cX7_copy 64 = .ok (.istore 6, 2) := by decide +kernel
theorem dX7_copy_66 : decode cX7_copy 66 = .ok (.iload 6, 2) := by decide +kernel
theorem dX7_copy_68 : decode cX7_copy 68 = .ok (.ifCond .ne 27, 3) := by decide +kernel
theorem dX7_copy_71 : decode cX7_copy 71 = .ok (.aload_n 0, 1) := by decide +kernel
theorem dX7_copy_72 : decode cX7_copy 72 = .ok (.getfield 60, 3) := by decide +kernel
theorem dX7_copy_75 : decode cX7_copy 75 = .ok (.iload_n 3, 1) := by decide +kernel
theorem dX7_copy_76 : decode cX7_copy 76 = .ok (.aaload, 1) := by decide +kernel
theorem dX7_copy_77 : decode cX7_copy 77 = .ok (.aload_n 0, 1) := by decide +kernel
theorem dX7_copy_78 : decode cX7_copy 78 = .ok (.getfield 60, 3) := by decide +kernel
theorem dX7_copy_81 : decode cX7_copy 81 = .ok (.iload_n 3, 1) := by decide +kernel
theorem dX7_copy_82 : decode cX7_copy 82 = .ok (.aaload, 1) := by decide +kernel
theorem dX7_copy_83 : decode cX7_copy 83 = .ok (.getfield 238, 3) := by decide +kernel
theorem dX7_copy_86 : decode cX7_copy 86 = .ok (.iload 4, 2) := by decide +kernel
theorem dX7_copy_88 : decode cX7_copy 88 = .ok (.iload 5, 2) := by decide +kernel
theorem dX7_copy_90 : decode cX7_copy 90 = .ok (.invokevirtual 191, 3) := by decide +kernel
theorem dX7_copy_93 : decode cX7_copy 93 = .ok (.istore 6, 2) := by decide +kernel
theorem dX7_copy_95 : decode cX7_copy 95 = .ok (.iload 6, 2) := by decide +kernel
theorem dX7_copy_97 : decode cX7_copy 97 = .ok (.ifCond .eq 6, 3) := by decide +kernel
theorem dX7_copy_100 : decode cX7_copy 100 = .ok (.iload 6, 2) := by decide +kernel
theorem dX7_copy_102 : decode cX7_copy 102 = .ok (.ireturn, 1) := by decide +kernel
theorem dX7_copy_103 : decode cX7_copy 103 = .ok (.aload_n 0, 1) := by decide +kernel
theorem dX7_copy_104 : decode cX7_copy 104 = .ok (.getfield 60, 3) := by decide +kernel
theorem dX7_copy_107 : decode cX7_copy 107 = .ok (.iload_n 1, 1) := by decide +kernel
theorem dX7_copy_108 : decode cX7_copy 108 = .ok (.aaload, 1) := by decide +kernel
theorem dX7_copy_109 : decode cX7_copy 109 = .ok (.getfield 194, 3) := by decide +kernel
theorem dX7_copy_112 : decode cX7_copy 112 = .ok (.iload_n 2, 1) := by decide +kernel
theorem dX7_copy_113 : decode cX7_copy 113 = .ok (.aload_n 0, 1) := by decide +kernel
theorem dX7_copy_114 : decode cX7_copy 114 = .ok (.getfield 60, 3) := by decide +kernel
theorem dX7_copy_117 : decode cX7_copy 117 = .ok (.iload_n 3, 1) := by decide +kernel
theorem dX7_copy_118 : decode cX7_copy 118 = .ok (.aaload, 1) := by decide +kernel
theorem dX7_copy_119 : decode cX7_copy 119 = .ok (.getfield 194, 3) := by decide +kernel
theorem dX7_copy_122 : decode cX7_copy 122 = .ok (.iload 4, 2) := by decide +kernel
theorem dX7_copy_124 : decode cX7_copy 124 = .ok (.iload 5, 2) := by decide +kernel
theorem dX7_copy_126 : decode cX7_copy 126 = .ok (.invokestatic 241, 3) := by decide +kernel
theorem dX7_copy_129 : decode cX7_copy 129 = .ok (.iload 5, 2) := by decide +kernel
theorem dX7_copy_131 : decode cX7_copy 131 = .ok (.ireturn, 1) := by decide +kernel
theorem dX7_isFrom_0 : decode cX7_isFrom 0 = .ok (.iload_n 0, 1) := by decide +kernel
theorem dX7_isFrom_1 : decode cX7_isFrom 1 = .ok (.iload_n 1, 1) := by decide +kernel
theorem dX7_isFrom_2 : decode cX7_isFrom 2 = .ok (.if_icmp .lt 12, 3) := by decide +kernel
theorem dX7_isFrom_5 : decode cX7_isFrom 5 = .ok (.iload_n 0, 1) := by decide +kernel
theorem dX7_isFrom_6 : decode cX7_isFrom 6 = .ok (.iload_n 2, 1) := by decide +kernel
theorem dX7_isFrom_7 : decode cX7_isFrom 7 = .ok (.if_icmp .gt 7, 3) := by decide +kernel
theorem dX7_isFrom_10 : decode cX7_isFrom 10 = .ok (.iconst 1, 1) := by decide +kernel
theorem dX7_isFrom_11 : decode cX7_isFrom 11 = .ok (.goto 4, 3) := by decide +kernel
theorem dX7_isFrom_14 : decode cX7_isFrom 14 = .ok (.iconst 0, 1) := by decide +kernel
theorem dX7_isFrom_15 : decode cX7_isFrom 15 = .ok (.ireturn, 1) := by decide +kernel
theorem dX7_isOfBride_0 : decode cX7_isOfBride 0 = .ok (.iload_n 1, 1) := by decide +kernel
theorem dX7_isOfBride_1 : decode cX7_isOfBride 1 = .ok (.getstatic 247, 3) := by decide +kernel
theorem dX7_isOfBride_4 : decode cX7_isOfBride 4 = .ok (.iload_n 0, 1) := by decide +kernel
theorem dX7_isOfBride_5 : decode cX7_isOfBride 5 = .ok (.iaload, 1) := by decide +kernel
theorem dX7_isOfBride_6 : decode cX7_isOfBride 6 = .ok (.getstatic 250, 3) := by decide +kernel
theorem dX7_isOfBride_9 : decode cX7_isOfBride 9 = .ok (.iload_n 0, 1) := by decide +kernel
theorem dX7_isOfBride_10 : decode cX7_isOfBride 10 = .ok (.iaload, 1) := by decide +kernel
theorem dX7_isOfBride_11 : decode cX7_isOfBride 11 = .ok (.invokestatic 81, 3) := by decide +kernel
theorem dX7_isOfBride_14 : decode cX7_isOfBride 14 = .ok (.ireturn, 1) := by decide +kernel
theorem dX7_isOfShoe_0 : decode cX7_isOfShoe 0 = .ok (.iload_n 1, 1) := by decide +kernel
theorem dX7_isOfShoe_1 : decode cX7_isOfShoe 1 = .ok (.getstatic 253, 3) := by decide +kernel
theorem dX7_isOfShoe_4 : decode cX7_isOfShoe 4 = .ok (.iload_n 0, 1) := by decide +kernel
theorem dX7_isOfShoe_5 : decode cX7_isOfShoe 5 = .ok (.iaload, 1) := by decide +kernel
theorem dX7_isOfShoe_6 : decode cX7_isOfShoe 6 = .ok (.getstatic 256, 3) := by decide +kernel
theorem dX7_isOfShoe_9 : decode cX7_isOfShoe 9 = .ok (.iload_n 0, 1) := by decide +kernel
theorem dX7_isOfShoe_10 : decode cX7_isOfShoe 10 = .ok (.iaload, 1) := by decide +kernel
theorem dX7_isOfShoe_11 : decode cX7_isOfShoe 11 = .ok (.invokestatic 81, 3) := by decide +kernel
theorem dX7_isOfShoe_14 : decode cX7_isOfShoe 14 = .ok (.ireturn, 1) := by decide +kernel
theorem dX7_isSide_0 : decode cX7_isSide 0 = .ok (.iload_n 0, 1) := by decide +kernel
theorem dX7_isSide_1 : decode cX7_isSide 1 = .ok (.iconst 0, 1) := by decide +kernel
theorem dX7_isSide_2 : decode cX7_isSide 2 = .ok (.iconst 1, 1) := by decide +kernel
theorem dX7_isSide_3 : decode cX7_isSide 3 = .ok (.invokestatic 81, 3) := by decide +kernel
theorem dX7_isSide_6 : decode cX7_isSide 6 = .ok (.ireturn, 1) := by decide +kernel
theorem dX7_isHour_0 : decode cX7_isHour 0 = .ok (.iload_n 0, 1) := by decide +kernel
theorem dX7_isHour_1 : decode cX7_isHour 1 = .ok (.iconst 0, 1) := by decide +kernel
theorem dX7_isHour_2 : decode cX7_isHour 2 = .ok (.bipush 11, 2) := by decide +kernel
theorem dX7_isHour_4 : decode cX7_isHour 4 = .ok (.invokestatic 81, 3) := by decide +kernel
theorem dX7_isHour_7 : decode cX7_isHour 7 = .ok (.ireturn, 1) := by decide +kernel
theorem dX7_isSheet_0 : decode cX7_isSheet 0 = .ok (.iload_n 0, 1) := by decide +kernel
theorem dX7_isSheet_1 : decode cX7_isSheet 1 = .ok (.iconst 0, 1) := by decide +kernel
theorem dX7_isSheet_2 : decode cX7_isSheet 2 = .ok (.iconst 3, 1) := by decide +kernel
theorem dX7_isSheet_3 : decode cX7_isSheet 3 = .ok (.invokestatic 81, 3) := by decide +kernel
theorem dX7_isSheet_6 : decode cX7_isSheet 6 = .ok (.ireturn, 1) := by decide +kernel
theorem dX7_isLane_0 : decode cX7_isLane 0 = .ok (.iload_n 0, 1) := by decide +kernel
theorem dX7_isLane_1 : decode cX7_isLane 1 = .ok (.iconst 0, 1) := by decide +kernel
theorem dX7_isLane_2 : decode cX7_isLane 2 = .ok (.iconst 2, 1) := by decide +kernel
theorem dX7_isLane_3 : decode cX7_isLane 3 = .ok (.invokestatic 81, 3) := by decide +kernel
theorem dX7_isLane_6 : decode cX7_isLane 6 = .ok (.ireturn, 1) := by decide +kernel
theorem dX7_isRanked_0 : decode cX7_isRanked 0 = .ok (.iload_n 0, 1) := by decide +kernel
theorem dX7_isRanked_1 : decode cX7_isRanked 1 = .ok (.iconst 2, 1) := by decide +kernel
theorem dX7_isRanked_2 : decode cX7_isRanked 2 = .ok (.bipush 7, 2) := by decide +kernel
theorem dX7_isRanked_4 : decode cX7_isRanked 4 = .ok (.invokestatic 81, 3) := by decide +kernel
theorem dX7_isRanked_7 : decode cX7_isRanked 7 = .ok (.ireturn, 1) := by decide +kernel
theorem dX7_isBride_0 : decode cX7_isBride 0 = .ok (.iload_n 1, 1) := by decide +kernel
theorem dX7_isBride_1 : decode cX7_isBride 1 = .ok (.iconst 0, 1) := by decide +kernel
theorem dX7_isBride_2 : decode cX7_isBride 2 = .ok (.aload_n 0, 1) := by decide +kernel
theorem dX7_isBride_3 : decode cX7_isBride 3 = .ok (.getfield 10, 3) := by decide +kernel
theorem dX7_isBride_6 : decode cX7_isBride 6 = .ok (.getfield 69, 3) := by decide +kernel
theorem dX7_isBride_9 : decode cX7_isBride 9 = .ok (.iconst 1, 1) := by decide +kernel
theorem dX7_isBride_10 : decode cX7_isBride 10 = .ok (.isub, 1) := by decide +kernel
theorem dX7_isBride_11 : decode cX7_isBride 11 = .ok (.invokestatic 81, 3) := by decide +kernel
theorem dX7_isBride_14 : decode cX7_isBride 14 = .ok (.ireturn, 1) := by decide +kernel
theorem dX7_isShoe_0 : decode cX7_isShoe 0 = .ok (.iload_n 1, 1) := by decide +kernel
theorem dX7_isShoe_1 : decode cX7_isShoe 1 = .ok (.iconst 0, 1) := by decide +kernel
theorem dX7_isShoe_2 : decode cX7_isShoe 2 = .ok (.aload_n 0, 1) := by decide +kernel
theorem dX7_isShoe_3 : decode cX7_isShoe 3 = .ok (.getfield 10, 3) := by decide +kernel
theorem dX7_isShoe_6 : decode cX7_isShoe 6 = .ok (.getfield 88, 3) := by decide +kernel
theorem dX7_isShoe_9 : decode cX7_isShoe 9 = .ok (.iconst 1, 1) := by decide +kernel
theorem dX7_isShoe_10 : decode cX7_isShoe 10 = .ok (.isub, 1) := by decide +kernel
theorem dX7_isShoe_11 : decode cX7_isShoe 11 = .ok (.invokestatic 81, 3) := by decide +kernel
theorem dX7_isShoe_14 : decode cX7_isShoe 14 = .ok (.ireturn, 1) := by decide +kernel
theorem dX8_init_0 : decode cX8_init 0 = .ok (.aload_n 0, 1) := by decide +kernel
theorem dX8_init_1 : decode cX8_init 1 = .ok (.invokespecial 1, 3) := by decide +kernel
theorem dX8_init_4 : decode cX8_init 4 = .ok (.aload_n 0, 1) := by decide +kernel
theorem dX8_init_5 : decode cX8_init 5 = .ok (.bipush 28, 2) := by decide +kernel
theorem dX8_init_7 : decode cX8_init 7 = .ok (.newarray .int, 2) := by decide +kernel
theorem dX8_init_9 : decode cX8_init 9 = .ok (.putfield 7, 3) := by decide +kernel
theorem dX8_init_12 : decode cX8_init 12 = .ok (.aload_n 0, 1) := by decide +kernel
theorem dX8_init_13 : decode cX8_init 13 = .ok (.bipush 64, 2) := by decide +kernel
theorem dX8_init_15 : decode cX8_init 15 = .ok (.newarray .int, 2) := by decide +kernel
theorem dX8_init_17 : decode cX8_init 17 = .ok (.putfield 13, 3) := by decide +kernel
theorem dX8_init_20 : decode cX8_init 20 = .ok (.aload_n 0, 1) := by decide +kernel
theorem dX8_init_21 : decode cX8_init 21 = .ok (.iconst 2, 1) := by decide +kernel
theorem dX8_init_22 : decode cX8_init 22 = .ok (.newarray .int, 2) := by decide +kernel
theorem dX8_init_24 : decode cX8_init 24 = .ok (.putfield 16, 3) := by decide +kernel
theorem dX8_init_27 : decode cX8_init 27 = .ok (.aload_n 0, 1) := by decide +kernel
theorem dX8_init_28 : decode cX8_init 28 = .ok (.bipush 120, 2) := by decide +kernel
theorem dX8_init_30 : decode cX8_init 30 = .ok (.newarray .int, 2) := by decide +kernel
theorem dX8_init_32 : decode cX8_init 32 = .ok (.putfield 19, 3) := by decide +kernel
theorem dX8_init_35 : decode cX8_init 35 = .ok (.aload_n 0, 1) := by decide +kernel
theorem dX8_init_36 : decode cX8_init 36 = .ok (.bipush 64, 2) := by decide +kernel
theorem dX8_init_38 : decode cX8_init 38 = .ok (.newarray .int, 2) := by decide +kernel
theorem dX8_init_40 : decode cX8_init 40 = .ok (.putfield 22, 3) := by decide +kernel
theorem dX8_init_43 : decode cX8_init 43 = .ok (.aload_n 0, 1) := by decide +kernel
theorem dX8_init_44 : decode cX8_init 44 = .ok (.bipush 16, 2) := by decide +kernel
theorem dX8_init_46 : decode cX8_init 46 = .ok (.newarray .int, 2) := by decide +kernel
theorem dX8_init_48 : decode cX8_init 48 = .ok (.putfield 25, 3) := by decide +kernel
theorem dX8_init_51 : decode cX8_init 51 = .ok (.aload_n 0, 1) := by decide +kernel
theorem dX8_init_52 : decode cX8_init 52 = .ok (.bipush 112, 2) := by decide +kernel
theorem dX8_init_54 : decode cX8_init 54 = .ok (.newarray .int, 2) := by decide +kernel
theorem dX8_init_56 : decode cX8_init 56 = .ok (.putfield 28, 3) := by decide +kernel
theorem dX8_init_59 : decode cX8_init 59 = .ok (.aload_n 0, 1) := by decide +kernel
theorem dX8_init_60 : decode cX8_init 60 = .ok (.ldc 31, 2) := by decide +kernel
theorem dX8_init_62 : decode cX8_init 62 = .ok (.newarray .int, 2) := by decide +kernel
theorem dX8_init_64 : decode cX8_init 64 = .ok (.putfield 32, 3) := by decide +kernel
theorem dX8_init_67 : decode cX8_init 67 = .ok (.aload_n 0, 1) := by decide +kernel
theorem dX8_init_68 : decode cX8_init 68 = .ok (.bipush 7, 2) := by decide +kernel
theorem dX8_init_70 : decode cX8_init 70 = .ok (.newarray .int, 2) := by decide +kernel
theorem dX8_init_72 : decode cX8_init 72 = .ok (.putfield 35, 3) := by decide +kernel
theorem dX8_init_75 : decode cX8_init 75 = .ok (.aload_n 0, 1) := by decide +kernel
theorem dX8_init_76 : decode cX8_init 76 = .ok (.sipush 128, 3) := by decide +kernel
theorem dX8_init_79 : decode cX8_init 79 = .ok (.newarray .boolean, 2) := by decide +kernel
theorem dX8_init_81 : decode cX8_init 81 = .ok (.putfield 38, 3) := by decide +kernel
theorem dX8_init_84 : decode cX8_init 84 = .ok (.aload_n 0, 1) := by decide +kernel
theorem dX8_init_85 : decode cX8_init 85 = .ok (.bipush 71, 2) := by decide +kernel
theorem dX8_init_87 : decode cX8_init 87 = .ok (.newarray .boolean, 2) := by decide +kernel
theorem dX8_init_89 : decode cX8_init 89 = .ok (.putfield 42, 3) := by decide +kernel
theorem dX8_init_92 : decode cX8_init 92 = .ok (.aload_n 0, 1) := by decide +kernel
theorem dX8_init_93 : decode cX8_init 93 = .ok (.sipush 1681, 3) := by decide +kernel
theorem dX8_init_96 : decode cX8_init 96 = .ok (.newarray .int, 2) := by decide +kernel
theorem dX8_init_98 : decode cX8_init 98 = .ok (.putfield 45, 3) := by decide +kernel
theorem dX8_init_101 : decode cX8_init 101 = .ok (.aload_n 0, 1) := by decide +kernel
theorem dX8_init_102 : decode cX8_init 102 = .ok (.bipush 94, 2) := by decide +kernel
theorem dX8_init_104 : decode cX8_init 104 = .ok (.newarray .int, 2) := by decide +kernel
theorem dX8_init_106 : decode cX8_init 106 = .ok (.putfield 48, 3) := by decide +kernel
theorem dX8_init_109 : decode cX8_init 109 = .ok (.aload_n 0, 1) := by decide +kernel
theorem dX8_init_110 : decode cX8_init 110 = .ok (.iconst 4, 1) := by decide +kernel
theorem dX8_init_111 : decode cX8_init 111 = .ok (.newarray .int, 2) := by decide +kernel
theorem dX8_init_113 : decode cX8_init 113 = .ok (.putfield 51, 3) := by decide +kernel
theorem dX8_init_116 : decode cX8_init 116 = .ok (.aload_n 0, 1) := by decide +kernel
theorem dX8_init_117 : decode cX8_init 117 = .ok (.iconst 4, 1) := by decide +kernel
theorem dX8_init_118 : decode cX8_init 118 = .ok (.newarray .int, 2) := by decide +kernel
theorem dX8_init_120 : decode cX8_init 120 = .ok (.putfield 54, 3) := by decide +kernel
theorem dX8_init_123 : decode cX8_init 123 = .ok (.aload_n 0, 1) := by decide +kernel
theorem dX8_init_124 : decode cX8_init 124 = .ok (.sipush 400, 3) := by decide +kernel
theorem dX8_init_127 : decode cX8_init 127 = .ok (.newarray .int, 2) := by decide +kernel
theorem dX8_init_129 : decode cX8_init 129 = .ok (.putfield 57, 3) := by decide +kernel
theorem dX8_init_132 : decode cX8_init 132 = .ok (.aload_n 0, 1) := by decide +kernel
theorem dX8_init_133 : decode cX8_init 133 = .ok (.bipush 100, 2) := by decide +kernel
theorem dX8_init_135 : decode cX8_init 135 = .ok (.newarray .int, 2) := by decide +kernel
theorem dX8_init_137 : decode cX8_init 137 = .ok (.putfield 60, 3) := by decide +kernel
theorem dX8_init_140 : decode cX8_init 140 = .ok (.aload_n 0, 1) := by decide +kernel
theorem dX8_init_141 : decode cX8_init 141 = .ok (.bipush 7, 2) := by decide +kernel
theorem dX8_init_143 : decode cX8_init 143 = .ok (.newarray .int, 2) := by decide +kernel
theorem dX8_init_145 : decode cX8_init 145 = .ok (.putfield 63, 3) := by decide +kernel
theorem dX8_init_148 : decode cX8_init 148 = .ok (.aload_n 0, 1) := by decide +kernel
theorem dX8_init_149 : decode cX8_init 149 = .ok (.bipush 7, 2) := by decide +kernel
theorem dX8_init_151 : decode cX8_init 151 = .ok (.newarray .int, 2) := by decide +kernel
theorem dX8_init_153 : decode cX8_init 153 = .ok (.putfield 66, 3) := by decide +kernel
theorem dX8_init_156 : decode cX8_init 156 = .ok (.aload_n 0, 1) := by decide +kernel
theorem dX8_init_157 : decode cX8_init 157 = .ok (.bipush 98, 2) := by decide +kernel
theorem dX8_init_159 : decode cX8_init 159 = .ok (.newarray .int, 2) := by decide +kernel
theorem dX8_init_161 : decode cX8_init 161 = .ok (.putfield 69, 3) := by decide +kernel
theorem dX8_init_164 : decode cX8_init 164 = .ok (.aload_n 0, 1) := by decide +kernel
theorem dX8_init_165 : decode cX8_init 165 = .ok (.bipush 7, 2) := by decide +kernel
theorem dX8_init_167 : decode cX8_init 167 = .ok (.newarray .int, 2) := by decide +kernel
theorem dX8_init_169 : decode cX8_init 169 = .ok (.putfield 72, 3) := by decide +kernel
theorem dX8_init_172 : decode cX8_init 172 = .ok (.aload_n 0, 1) := by decide +kernel
theorem dX8_init_173 : decode cX8_init 173 = .ok (.bipush 7, 2) := by decide +kernel
theorem dX8_init_175 : decode cX8_init 175 = .ok (.newarray .int, 2) := by decide +kernel
theorem dX8_init_177 : decode cX8_init 177 = .ok (.putfield 75, 3) := by decide +kernel
theorem dX8_init_180 : decode cX8_init 180 = .ok (.aload_n 0, 1) := by decide +kernel
theorem dX8_init_181 : decode cX8_init 181 = .ok (.bipush 7, 2) := by decide +kernel
theorem dX8_init_183 : decode cX8_init 183 = .ok (.newarray .int, 2) := by decide +kernel
theorem dX8_init_185 : decode cX8_init 185 = .ok (.putfield 78, 3) := by decide +kernel
theorem dX8_init_188 : decode cX8_init 188 = .ok (.iconst 0, 1) := by decide +kernel
theorem dX8_init_189 : decode cX8_init 189 = .ok (.istore_n 1, 1) := by decide +kernel
theorem dX8_init_190 : decode cX8_init 190 = .ok (.iload_n 1, 1) := by decide +kernel
theorem dX8_init_191 : decode cX8_init 191 = .ok (.iconst 4, 1) := by decide +kernel
theorem dX8_init_192 : decode cX8_init 192 = .ok (.if_icmp .ge 16, 3) := by decide +kernel
theorem dX8_init_195 : decode cX8_init 195 = .ok (.aload_n 0, 1) := by decide +kernel
theorem dX8_init_196 : decode cX8_init 196 = .ok (.getfield 51, 3) := by decide +kernel
theorem dX8_init_199 : decode cX8_init 199 = .ok (.iload_n 1, 1) := by decide +kernel
theorem dX8_init_200 : decode cX8_init 200 = .ok (.iconst (-1), 1) := by decide +kernel
theorem dX8_init_201 : decode cX8_init 201 = .ok (.iastore, 1) := by decide +kernel
theorem dX8_init_202 : decode cX8_init 202 = .ok (.iinc 1 1, 3) := by decide +kernel
theorem dX8_init_205 : decode cX8_init 205 = .ok (.goto (-15), 3) := by decide +kernel
theorem dX8_init_208 : decode cX8_init 208 = .ok (.aload_n 0, 1) := by decide +kernel
theorem dX8_init_209 : decode cX8_init 209 = .ok (.getfield 16, 3) := by decide +kernel
theorem dX8_init_212 : decode cX8_init 212 = .ok (.iconst 0, 1) := by decide +kernel
theorem dX8_init_213 : decode cX8_init 213 = .ok (.iconst 2, 1) := by decide +kernel
theorem dX8_init_214 : decode cX8_init 214 = .ok (.iastore, 1) := by decide +kernel
theorem dX8_init_215 : decode cX8_init 215 = .ok (.aload_n 0, 1) := by decide +kernel
theorem dX8_init_216 : decode cX8_init 216 = .ok (.getfield 16, 3) := by decide +kernel
theorem dX8_init_219 : decode cX8_init 219 = .ok (.iconst 1, 1) := by decide +kernel
theorem dX8_init_220 : decode cX8_init 220 = .ok (.iconst 3, 1) := by decide +kernel
theorem dX8_init_221 : decode cX8_init 221 = .ok (.iastore, 1) := by decide +kernel
theorem dX8_init_222 : decode cX8_init 222 = .ok (.return_, 1) := by decide +kernel
theorem dX8_in_0 : decode cX8_in 0 = .ok (.lload_n 0, 1) := by decide +kernel
theorem dX8_in_1 : decode cX8_in 1 = .ok (.lload_n 2, 1) := by decide +kernel
theorem dX8_in_2 : decode cX8_in 2 = .ok (.lcmp, 1) := by decide +kernel
theorem dX8_in_3 : decode cX8_in 3 = .ok (.ifCond .lt 14, 3) := by decide +kernel
theorem dX8_in_6 : decode cX8_in 6 = .ok (.lload_n 0, 1) := by decide +kernel
theorem dX8_in_7 : decode cX8_in 7 = .ok (.lload 4, 2) := by decide +kernel
theorem dX8_in_9 : decode cX8_in 9 = .ok (.lcmp, 1) := by decide +kernel
theorem dX8_in_10 : decode cX8_in 10 = .ok (.ifCond .gt 7, 3) := by decide +kernel
theorem dX8_in_13 : decode cX8_in 13 = .ok (.iconst 1, 1) := by decide +kernel
theorem dX8_in_14 : decode cX8_in 14 = .ok (.goto 4, 3) := by decide +kernel
theorem dX8_in_17 : decode cX8_in 17 = .ok (.iconst 0, 1) := by decide +kernel
theorem dX8_in_18 : decode cX8_in 18 = .ok (.ireturn, 1) := by decide +kernel
theorem dX8_isBride_0 : decode cX8_isBride 0 = .ok (.iload_n 1, 1) := by decide +kernel
theorem dX8_isBride_1 : decode cX8_isBride 1 = .ok (.i2l, 1) := by decide +kernel
theorem dX8_isBride_2 : decode cX8_isBride 2 = .ok (.lconst 0, 1) := by decide +kernel
theorem dX8_isBride_3 : decode cX8_isBride 3 = .ok (.aload_n 0, 1) := by decide +kernel
theorem dX8_isBride_4 : decode cX8_isBride 4 = .ok (.getfield 81, 3) := by decide +kernel
theorem dX8_isBride_7 : decode cX8_isBride 7 = .ok (.iconst 1, 1) := by decide +kernel
theorem dX8_isBride_8 : decode cX8_isBride 8 = .ok (.isub, 1) := by decide +kernel
theorem dX8_isBride_9 : decode cX8_isBride 9 = .ok (.i2l, 1) := by decide +kernel
theorem dX8_isBride_10 : decode cX8_isBride 10 = .ok (.invokestatic 85, 3) := by decide +kernel
theorem dX8_isBride_13 : decode cX8_isBride 13 = .ok (.ireturn, 1) := by decide +kernel
theorem dX8_isShoe_0 : decode cX8_isShoe 0 = .ok (.iload_n 1, 1) := by decide +kernel
theorem dX8_isShoe_1 : decode cX8_isShoe 1 = .ok (.i2l, 1) := by decide +kernel
theorem dX8_isShoe_2 : decode cX8_isShoe 2 = .ok (.lconst 0, 1) := by decide +kernel
theorem dX8_isShoe_3 : decode cX8_isShoe 3 = .ok (.aload_n 0, 1) := by decide +kernel
theorem dX8_isShoe_4 : decode cX8_isShoe 4 = .ok (.getfield 89, 3) := by decide +kernel
theorem dX8_isShoe_7 : decode cX8_isShoe 7 = .ok (.iconst 1, 1) := by decide +kernel
theorem dX8_isShoe_8 : decode cX8_isShoe 8 = .ok (.isub, 1) := by decide +kernel
theorem dX8_isShoe_9 : decode cX8_isShoe 9 = .ok (.i2l, 1) := by decide +kernel
theorem dX8_isShoe_10 : decode cX8_isShoe 10 = .ok (.invokestatic 85, 3) := by decide +kernel
theorem dX8_isShoe_13 : decode cX8_isShoe 13 = .ok (.ireturn, 1) := by decide +kernel
theorem dX8_isHour_0 : decode cX8_isHour 0 = .ok (.iload_n 0, 1) := by decide +kernel
theorem dX8_isHour_1 : decode cX8_isHour 1 = .ok (.i2l, 1) := by decide +kernel
theorem dX8_isHour_2 : decode cX8_isHour 2 = .ok (.lconst 0, 1) := by decide +kernel
theorem dX8_isHour_3 : decode cX8_isHour 3 = .ok (.ldc2_w 92, 3) := by decide +kernel
theorem dX8_isHour_6 : decode cX8_isHour 6 = .ok (.invokestatic 85, 3) := by decide +kernel
theorem dX8_isHour_9 : decode cX8_isHour 9 = .ok (.ireturn, 1) := by decide +kernel
theorem dX8_isOfBride_0 : decode cX8_isOfBride 0 = .ok (.iload_n 0, 1) := by decide +kernel
theorem dX8_isOfBride_1 : decode cX8_isOfBride 1 = .ok (.iconst 2, 1) := by decide +kernel
theorem dX8_isOfBride_2 : decode cX8_isOfBride 2 = .ok (.if_icmp .ge 17, 3) := by decide +kernel
theorem dX8_isOfBride_5 : decode cX8_isOfBride 5 = .ok (.iload_n 1, 1) := by decide +kernel
theorem dX8_isOfBride_6 : decode cX8_isOfBride 6 = .ok (.i2l, 1) := by decide +kernel
theorem dX8_isOfBride_7 : decode cX8_isOfBride 7 = .ok (.ldc2_w 94, 3) := by decide +kernel
theorem dX8_isOfBride_10 : decode cX8_isOfBride 10 = .ok (.ldc2_w 96, 3) := by decide +kernel
theorem dX8_isOfBride_13 : decode cX8_isOfBride 13 = .ok (.invokestatic 85, 3) := by decide +kernel
theorem dX8_isOfBride_16 : decode cX8_isOfBride 16 = .ok (.goto 23, 3) := by decide +kernel
theorem dX8_isOfBride_19 : decode cX8_isOfBride 19 = .ok (.iload_n 1, 1) := by decide +kernel
theorem dX8_isOfBride_20 : decode cX8_isOfBride 20 = .ok (.i2l, 1) := by decide +kernel
theorem dX8_isOfBride_21 : decode cX8_isOfBride 21 = .ok (.lconst 0, 1) := by decide +kernel
theorem dX8_isOfBride_22 : decode cX8_isOfBride 22 = .ok (.iload_n 0, 1) := by decide +kernel
theorem dX8_isOfBride_23 : decode cX8_isOfBride 23 = .ok (.iconst 2, 1) := by decide +kernel
theorem dX8_isOfBride_24 : decode cX8_isOfBride 24 = .ok (.if_icmp .ne 9, 3) := by decide +kernel
theorem dX8_isOfBride_27 : decode cX8_isOfBride 27 = .ok (.ldc2_w 98, 3) := by decide +kernel
theorem dX8_isOfBride_30 : decode cX8_isOfBride 30 = .ok (.goto 6, 3) := by decide +kernel
theorem dX8_isOfBride_33 : decode cX8_isOfBride 33 = .ok (.ldc2_w 92, 3) := by decide +kernel
theorem dX8_isOfBride_36 : decode cX8_isOfBride 36 = .ok (.invokestatic 85, 3) := by decide +kernel
theorem dX8_isOfBride_39 : decode cX8_isOfBride 39 = .ok (.ireturn, 1) := by decide +kernel
theorem dX8_bride_0 : decode cX8_bride 0 = .ok (.iconst 0, 1) := by decide +kernel
theorem dX8_bride_1 : decode cX8_bride 1 = .ok (.iload_n 1, 1) := by decide +kernel
theorem dX8_bride_2 : decode cX8_bride 2 = .ok (.invokestatic 100, 3) := by decide +kernel
theorem dX8_bride_5 : decode cX8_bride 5 = .ok (.ifCond .eq 28, 3) := by decide +kernel
theorem dX8_bride_8 : decode cX8_bride 8 = .ok (.iconst 1, 1) := by decide +kernel
theorem dX8_bride_9 : decode cX8_bride 9 = .ok (.iload_n 2, 1) := by decide +kernel
theorem dX8_bride_10 : decode cX8_bride 10 = .ok (.invokestatic 100, 3) := by decide +kernel
theorem dX8_bride_13 : decode cX8_bride 13 = .ok (.ifCond .eq 20, 3) := by decide +kernel
theorem dX8_bride_16 : decode cX8_bride 16 = .ok (.iconst 2, 1) := by decide +kernel
theorem dX8_bride_17 : decode cX8_bride 17 = .ok (.iload_n 3, 1) := by decide +kernel
theorem dX8_bride_18 : decode cX8_bride 18 = .ok (.invokestatic 100, 3) := by decide +kernel
theorem dX8_bride_21 : decode cX8_bride 21 = .ok (.ifCond .eq 12, 3) := by decide +kernel
theorem dX8_bride_24 : decode cX8_bride 24 = .ok (.iconst 3, 1) := by decide +kernel
theorem dX8_bride_25 : decode cX8_bride 25 = .ok (.iload 4, 2) := by decide +kernel
theorem dX8_bride_27 : decode cX8_bride 27 = .ok (.invokestatic 100, 3) := by decide +kernel
theorem dX8_bride_30 : decode cX8_bride 30 = .ok (.ifCond .ne 5, 3) := by decide +kernel
theorem dX8_bride_33 : decode cX8_bride 33 = .ok (.iconst (-1), 1) := by decide +kernel
theorem dX8_bride_34 : decode cX8_bride 34 = .ok (.ireturn, 1) := by decide +kernel
theorem dX8_bride_35 : decode cX8_bride 35 = .ok (.aload_n 0, 1) := by decide +kernel
theorem dX8_bride_36 : decode cX8_bride 36 = .ok (.getfield 81, 3) := by decide +kernel
theorem dX8_bride_39 : decode cX8_bride 39 = .ok (.bipush 7, 2) := by decide +kernel
theorem dX8_bride_41 : decode cX8_bride 41 = .ok (.if_icmp .ne 6, 3) := by decide +kernel
theorem dX8_bride_44 : decode cX8_bride 44 = .ok (.bipush (-3), 2) := by decide +kernel
theorem dX8_bride_46 : decode cX8_bride 46 = .ok (.ireturn, 1) := by decide +kernel
theorem dX8_bride_47 : decode cX8_bride 47 = .ok (.aload_n 0, 1) := by decide +kernel
theorem dX8_bride_48 : decode cX8_bride 48 = .ok (.getfield 7, 3) := by decide +kernel
theorem dX8_bride_51 : decode cX8_bride 51 = .ok (.iconst 4, 1) := by decide +kernel
theorem dX8_bride_52 : decode cX8_bride 52 = .ok (.aload_n 0, 1) := by decide +kernel
theorem dX8_bride_53 : decode cX8_bride 53 = .ok (.getfield 81, 3) := by decide +kernel
theorem dX8_bride_56 : decode cX8_bride 56 = .ok (.imul, 1) := by decide +kernel
theorem dX8_bride_57 : decode cX8_bride 57 = .ok (.iload_n 1, 1) := by decide +kernel
theorem dX8_bride_58 : decode cX8_bride 58 = .ok (.iastore, 1) := by decide +kernel
theorem dX8_bride_59 : decode cX8_bride 59 = .ok (.aload_n 0, 1) := by decide +kernel
theorem dX8_bride_60 : decode cX8_bride 60 = .ok (.getfield 7, 3) := by decide +kernel
theorem dX8_bride_63 : decode cX8_bride 63 = .ok (.iconst 4, 1) := by decide +kernel
theorem dX8_bride_64 : decode cX8_bride 64 = .ok (.aload_n 0, 1) := by decide +kernel
theorem dX8_bride_65 : decode cX8_bride 65 = .ok (.getfield 81, 3) := by decide +kernel
theorem dX8_bride_68 : decode cX8_bride 68 = .ok (.imul, 1) := by decide +kernel
theorem dX8_bride_69 : decode cX8_bride 69 = .ok (.iconst 1, 1) := by decide +kernel
theorem dX8_bride_70 : decode cX8_bride 70 = .ok (.iadd, 1) := by decide +kernel
theorem dX8_bride_71 : decode cX8_bride 71 = .ok (.iload_n 2, 1) := by decide +kernel
theorem dX8_bride_72 : decode cX8_bride 72 = .ok (.iastore, 1) := by decide +kernel
theorem dX8_bride_73 : decode cX8_bride 73 = .ok (.aload_n 0, 1) := by decide +kernel
theorem dX8_bride_74 : decode cX8_bride 74 = .ok (.getfield 7, 3) := by decide +kernel
theorem dX8_bride_77 : decode cX8_bride 77 = .ok (.iconst 4, 1) := by decide +kernel
theorem dX8_bride_78 : decode cX8_bride 78 = .ok (.aload_n 0, 1) := by decide +kernel
theorem dX8_bride_79 : decode cX8_bride 79 = .ok (.getfield 81, 3) := by decide +kernel
theorem dX8_bride_82 : decode cX8_bride 82 = .ok (.imul, 1) := by decide +kernel
theorem dX8_bride_83 : decode cX8_bride 83 = .ok (.iconst 2, 1) := by decide +kernel
theorem dX8_bride_84 : decode cX8_bride 84 = .ok (.iadd, 1) := by decide +kernel
theorem dX8_bride_85 : decode cX8_bride 85 = .ok (.iload_n 3, 1) := by decide +kernel
theorem dX8_bride_86 : decode cX8_bride 86 = .ok (.iastore, 1) := by decide +kernel
theorem dX8_bride_87 : decode cX8_bride 87 = .ok (.aload_n 0, 1) := by decide +kernel
theorem dX8_bride_88 : decode cX8_bride 88 = .ok (.getfield 7, 3) := by decide +kernel
theorem dX8_bride_91 : decode cX8_bride 91 = .ok (.iconst 4, 1) := by decide +kernel
theorem dX8_bride_92 : decode cX8_bride 92 = .ok (.aload_n 0, 1) := by decide +kernel
theorem dX8_bride_93 : decode cX8_bride 93 = .ok (.getfield 81, 3) := by decide +kernel
theorem dX8_bride_96 : decode cX8_bride 96 = .ok (.imul, 1) := by decide +kernel
theorem dX8_bride_97 : decode cX8_bride 97 = .ok (.iconst 3, 1) := by decide +kernel
theorem dX8_bride_98 : decode cX8_bride 98 = .ok (.iadd, 1) := by decide +kernel
theorem dX8_bride_99 : decode cX8_bride 99 = .ok (.iload 4, 2) := by decide +kernel
theorem dX8_bride_101 : decode cX8_bride 101 = .ok (.iastore, 1) := by decide +kernel
theorem dX8_bride_102 : decode cX8_bride 102 = .ok (.aload_n 0, 1) := by decide +kernel
theorem dX8_bride_103 : decode cX8_bride 103 = .ok (.dup, 1) := by decide +kernel
theorem dX8_bride_104 : decode cX8_bride 104 = .ok (.getfield 81, 3) := by decide +kernel
theorem dX8_bride_107 : decode cX8_bride 107 = .ok (.iconst 1, 1) := by decide +kernel
theorem dX8_bride_108 : decode cX8_bride 108 = .ok (.iadd, 1) := by decide +kernel
theorem dX8_bride_109 : decode cX8_bride 109 = .ok (.putfield 81, 3) := by decide +kernel
theorem dX8_bride_112 : decode cX8_bride 112 = .ok (.aload_n 0, 1) := by decide +kernel
theorem dX8_bride_113 : decode cX8_bride 113 = .ok (.getfield 81, 3) := by decide +kernel
theorem dX8_bride_116 : decode cX8_bride 116 = .ok (.iconst 1, 1) := by decide +kernel
theorem dX8_bride_117 : decode cX8_bride 117 = .ok (.isub, 1) := by decide +kernel
theorem dX8_bride_118 : decode cX8_bride 118 = .ok (.ireturn, 1) := by decide +kernel
theorem dX8_make_0 : decode cX8_make 0 = .ok (.aload_n 0, 1) := by decide +kernel
theorem dX8_make_1 : decode cX8_make 1 = .ok (.iload_n 1, 1) := by decide +kernel
theorem dX8_make_2 : decode cX8_make 2 = .ok (.invokevirtual 104, 3) := by decide +kernel
theorem dX8_make_5 : decode cX8_make 5 = .ok (.ifCond .eq 23, 3) := by decide +kernel
theorem dX8_make_8 : decode cX8_make 8 = .ok (.iload_n 2, 1) := by decide +kernel
theorem dX8_make_9 : decode cX8_make 9 = .ok (.i2l, 1) := by decide +kernel
theorem dX8_make_10 : decode cX8_make 10 = .ok (.lconst 0, 1) := by decide +kernel
theorem dX8_make_11 : decode cX8_make 11 = .ok (.ldc2_w 108, 3) := by decide +kernel
theorem dX8_make_14 : decode cX8_make 14 = .ok (.invokestatic 85, 3) := by decide +kernel
theorem dX8_make_17 : decode cX8_make 17 = .ok (.ifCond .eq 11, 3) := by decide +kernel
theorem dX8_make_20 : decode cX8_make 20 = .ok (.iload_n 2, 1) := by decide +kernel
theorem dX8_make_21 : decode cX8_make 21 = .ok (.iload_n 3, 1) := by decide +kernel
theorem dX8_make_22 : decode cX8_make 22 = .ok (.invokestatic 100, 3) := by decide +kernel
theorem dX8_make_25 : decode cX8_make 25 = .ok (.ifCond .ne 5, 3) := by decide +kernel
theorem dX8_make_28 : decode cX8_make 28 = .ok (.iconst (-1), 1) := by decide +kernel
theorem dX8_make_29 : decode cX8_make 29 = .ok (.ireturn, 1) := by decide +kernel
theorem dX8_make_30 : decode cX8_make 30 = .ok (.aload_n 0, 1) := by decide +kernel
theorem dX8_make_31 : decode cX8_make 31 = .ok (.getfield 7, 3) := by decide +kernel
theorem dX8_make_34 : decode cX8_make 34 = .ok (.iconst 4, 1) := by decide +kernel
theorem dX8_make_35 : decode cX8_make 35 = .ok (.iload_n 1, 1) := by decide +kernel
theorem dX8_make_36 : decode cX8_make 36 = .ok (.imul, 1) := by decide +kernel
theorem dX8_make_37 : decode cX8_make 37 = .ok (.iload_n 2, 1) := by decide +kernel
theorem dX8_make_38 : decode cX8_make 38 = .ok (.iadd, 1) := by decide +kernel
theorem dX8_make_39 : decode cX8_make 39 = .ok (.iaload, 1) := by decide +kernel
theorem dX8_make_40 : decode cX8_make 40 = .ok (.istore 4, 2) := by decide +kernel
theorem dX8_make_42 : decode cX8_make 42 = .ok (.aload_n 0, 1) := by decide +kernel
theorem dX8_make_43 : decode cX8_make 43 = .ok (.getfield 7, 3) := by decide +kernel
theorem dX8_make_46 : decode cX8_make 46 = .ok (.iconst 4, 1) := by decide +kernel
theorem dX8_make_47 : decode cX8_make 47 = .ok (.iload_n 1, 1) := by decide +kernel
theorem dX8_make_48 : decode cX8_make 48 = .ok (.imul, 1) := by decide +kernel
theorem dX8_make_49 : decode cX8_make 49 = .ok (.iload_n 2, 1) := by decide +kernel
theorem dX8_make_50 : decode cX8_make 50 = .ok (.iadd, 1) := by decide +kernel
theorem dX8_make_51 : decode cX8_make 51 = .ok (.iload_n 3, 1) := by decide +kernel
theorem dX8_make_52 : decode cX8_make 52 = .ok (.iastore, 1) := by decide +kernel
theorem dX8_make_53 : decode cX8_make 53 = .ok (.iload 4, 2) := by decide +kernel
theorem dX8_make_55 : decode cX8_make 55 = .ok (.ireturn, 1) := by decide +kernel
theorem dX8_addShoe_0 : decode cX8_addShoe 0 = .ok (.aload_n 0, 1) := by decide +kernel
theorem dX8_addShoe_1 : decode cX8_addShoe 1 = .ok (.getfield 13, 3) := by decide +kernel
theorem dX8_addShoe_4 : decode cX8_addShoe 4 = .ok (.iconst 4, 1) := by decide +kernel
theorem dX8_addShoe_5 : decode cX8_addShoe 5 = .ok (.aload_n 0, 1) := by decide +kernel
theorem dX8_addShoe_6 : decode cX8_addShoe 6 = .ok (.getfield 89, 3) := by decide +kernel
theorem dX8_addShoe_9 : decode cX8_addShoe 9 = .ok (.imul, 1) := by decide +kernel
theorem dX8_addShoe_10 : decode cX8_addShoe 10 = .ok (.iload_n 1, 1) := by decide +kernel
theorem dX8_addShoe_11 : decode cX8_addShoe 11 = .ok (.iastore, 1) := by decide +kernel
theorem dX8_addShoe_12 : decode cX8_addShoe 12 = .ok (.aload_n 0, 1) := by decide +kernel
theorem dX8_addShoe_13 : decode cX8_addShoe 13 = .ok (.getfield 13, 3) := by decide +kernel
theorem dX8_addShoe_16 : decode cX8_addShoe 16 = .ok (.iconst 4, 1) := by decide +kernel
theorem dX8_addShoe_17 : decode cX8_addShoe 17 = .ok (.aload_n 0, 1) := by decide +kernel
theorem dX8_addShoe_18 : decode cX8_addShoe 18 = .ok (.getfield 89, 3) := by decide +kernel
theorem dX8_addShoe_21 : decode cX8_addShoe 21 = .ok (.imul, 1) := by decide +kernel
theorem dX8_addShoe_22 : decode cX8_addShoe 22 = .ok (.iconst 1, 1) := by decide +kernel
theorem dX8_addShoe_23 : decode cX8_addShoe 23 = .ok (.iadd, 1) := by decide +kernel
theorem dX8_addShoe_24 : decode cX8_addShoe 24 = .ok (.iload_n 2, 1) := by decide +kernel
theorem dX8_addShoe_25 : decode cX8_addShoe 25 = .ok (.iastore, 1) := by decide +kernel
theorem dX8_addShoe_26 : decode cX8_addShoe 26 = .ok (.aload_n 0, 1) := by decide +kernel
theorem dX8_addShoe_27 : decode cX8_addShoe 27 = .ok (.getfield 13, 3) := by decide +kernel
theorem dX8_addShoe_30 : decode cX8_addShoe 30 = .ok (.iconst 4, 1) := by decide +kernel
theorem dX8_addShoe_31 : decode cX8_addShoe 31 = .ok (.aload_n 0, 1) := by decide +kernel
theorem dX8_addShoe_32 : decode cX8_addShoe 32 = .ok (.getfield 89, 3) := by decide +kernel
theorem dX8_addShoe_35 : decode cX8_addShoe 35 = .ok (.imul, 1) := by decide +kernel
theorem dX8_addShoe_36 : decode cX8_addShoe 36 = .ok (.iconst 2, 1) := by decide +kernel
theorem dX8_addShoe_37 : decode cX8_addShoe 37 = .ok (.iadd, 1) := by decide +kernel
theorem dX8_addShoe_38 : decode cX8_addShoe 38 = .ok (.iload_n 3, 1) := by decide +kernel
theorem dX8_addShoe_39 : decode cX8_addShoe 39 = .ok (.iastore, 1) := by decide +kernel
theorem dX8_addShoe_40 : decode cX8_addShoe 40 = .ok (.aload_n 0, 1) := by decide +kernel
theorem dX8_addShoe_41 : decode cX8_addShoe 41 = .ok (.getfield 13, 3) := by decide +kernel
theorem dX8_addShoe_44 : decode cX8_addShoe 44 = .ok (.iconst 4, 1) := by decide +kernel
theorem dX8_addShoe_45 : decode cX8_addShoe 45 = .ok (.aload_n 0, 1) := by decide +kernel
theorem dX8_addShoe_46 : decode cX8_addShoe 46 = .ok (.getfield 89, 3) := by decide +kernel
theorem dX8_addShoe_49 : decode cX8_addShoe 49 = .ok (.imul, 1) := by decide +kernel
theorem dX8_addShoe_50 : decode cX8_addShoe 50 = .ok (.iconst 3, 1) := by decide +kernel
theorem dX8_addShoe_51 : decode cX8_addShoe 51 = .ok (.iadd, 1) := by decide +kernel
theorem dX8_addShoe_52 : decode cX8_addShoe 52 = .ok (.iconst 0, 1) := by decide +kernel
theorem dX8_addShoe_53 : decode cX8_addShoe 53 = .ok (.iastore, 1) := by decide +kernel
theorem dX8_addShoe_54 : decode cX8_addShoe 54 = .ok (.aload_n 0, 1) := by decide +kernel
theorem dX8_addShoe_55 : decode cX8_addShoe 55 = .ok (.dup, 1) := by decide +kernel
theorem dX8_addShoe_56 : decode cX8_addShoe 56 = .ok (.getfield 89, 3) := by decide +kernel
theorem dX8_addShoe_59 : decode cX8_addShoe 59 = .ok (.iconst 1, 1) := by decide +kernel
theorem dX8_addShoe_60 : decode cX8_addShoe 60 = .ok (.iadd, 1) := by decide +kernel
theorem dX8_addShoe_61 : decode cX8_addShoe 61 = .ok (.putfield 89, 3) := by decide +kernel
theorem dX8_addShoe_64 : decode cX8_addShoe 64 = .ok (.return_, 1) := by decide +kernel
theorem dX8_shoe_0 : decode cX8_shoe 0 = .ok (.iload_n 1, 1) := by decide +kernel
theorem dX8_shoe_1 : decode cX8_shoe 1 = .ok (.i2l, 1) := by decide +kernel
theorem dX8_shoe_2 : decode cX8_shoe 2 = .ok (.lconst 0, 1) := by decide +kernel
theorem dX8_shoe_3 : decode cX8_shoe 3 = .ok (.lconst 1, 1) := by decide +kernel
theorem dX8_shoe_4 : decode cX8_shoe 4 = .ok (.invokestatic 85, 3) := by decide +kernel
theorem dX8_shoe_7 : decode cX8_shoe 7 = .ok (.ifCond .eq 29, 3) := by decide +kernel
theorem dX8_shoe_10 : decode cX8_shoe 10 = .ok (.iload_n 2, 1) := by decide +kernel
theorem dX8_shoe_11 : decode cX8_shoe 11 = .ok (.i2l, 1) := by decide +kernel
theorem dX8_shoe_12 : decode cX8_shoe 12 = .ok (.ldc2_w 94, 3) := by decide +kernel
theorem dX8_shoe_15 : decode cX8_shoe 15 = .ok (.ldc2_w 110, 3) := by decide +kernel
theorem dX8_shoe_18 : decode cX8_shoe 18 = .ok (.invokestatic 85, 3) := by decide +kernel
theorem dX8_shoe_21 : decode cX8_shoe 21 = .ok (.ifCond .eq 15, 3) := by decide +kernel
theorem dX8_shoe_24 : decode cX8_shoe 24 = .ok (.iload_n 3, 1) := by decide +kernel
theorem dX8_shoe_25 : decode cX8_shoe 25 = .ok (.i2l, 1) := by decide +kernel
theorem dX8_shoe_26 : decode cX8_shoe 26 = .ok (.lconst 0, 1) := by decide +kernel
theorem dX8_shoe_27 : decode cX8_shoe 27 = .ok (.ldc2_w 108, 3) := by decide +kernel
theorem dX8_shoe_30 : decode cX8_shoe 30 = .ok (.invokestatic 85, 3) := by decide +kernel
theorem dX8_shoe_33 : decode cX8_shoe 33 = .ok (.ifCond .ne 5, 3) := by decide +kernel
theorem dX8_shoe_36 : decode cX8_shoe 36 = .ok (.iconst (-1), 1) := by decide +kernel
theorem dX8_shoe_37 : decode cX8_shoe 37 = .ok (.ireturn, 1) := by decide +kernel
theorem dX8_shoe_38 : decode cX8_shoe 38 = .ok (.aload_n 0, 1) := by decide +kernel
theorem dX8_shoe_39 : decode cX8_shoe 39 = .ok (.getfield 89, 3) := by decide +kernel
theorem dX8_shoe_42 : decode cX8_shoe 42 = .ok (.bipush 16, 2) := by decide +kernel
theorem dX8_shoe_44 : decode cX8_shoe 44 = .ok (.if_icmp .ne 6, 3) := by decide +kernel
theorem dX8_shoe_47 : decode cX8_shoe 47 = .ok (.bipush (-3), 2) := by decide +kernel
theorem dX8_shoe_49 : decode cX8_shoe 49 = .ok (.ireturn, 1) := by decide +kernel
theorem dX8_shoe_50 : decode cX8_shoe 50 = .ok (.aload_n 0, 1) := by decide +kernel
theorem dX8_shoe_51 : decode cX8_shoe 51 = .ok (.iload_n 1, 1) := by decide +kernel
theorem dX8_shoe_52 : decode cX8_shoe 52 = .ok (.iload_n 2, 1) := by decide +kernel
theorem dX8_shoe_53 : decode cX8_shoe 53 = .ok (.iload_n 3, 1) := by decide +kernel
theorem dX8_shoe_54 : decode cX8_shoe 54 = .ok (.invokevirtual 112, 3) := by decide +kernel
theorem dX8_shoe_57 : decode cX8_shoe 57 = .ok (.aload_n 0, 1) := by decide +kernel
theorem dX8_shoe_58 : decode cX8_shoe 58 = .ok (.getfield 89, 3) := by decide +kernel
theorem dX8_shoe_61 : decode cX8_shoe 61 = .ok (.iconst 1, 1) := by decide +kernel
theorem dX8_shoe_62 : decode cX8_shoe 62 = .ok (.isub, 1) := by decide +kernel
theorem dX8_shoe_63 : decode cX8_shoe 63 = .ok (.ireturn, 1) := by decide +kernel
theorem dX8_told_0 : decode cX8_told 0 = .ok (.aload_n 0, 1) := by decide +kernel
theorem dX8_told_1 : decode cX8_told 1 = .ok (.iload_n 1, 1) := by decide +kernel
theorem dX8_told_2 : decode cX8_told 2 = .ok (.invokevirtual 116, 3) := by decide +kernel
theorem dX8_told_5 : decode cX8_told 5 = .ok (.ifCond .eq 28, 3) := by decide +kernel
theorem dX8_told_8 : decode cX8_told 8 = .ok (.iload_n 2, 1) := by decide +kernel
theorem dX8_told_9 : decode cX8_told 9 = .ok (.i2l, 1) := by decide +kernel
theorem dX8_told_10 : decode cX8_told 10 = .ok (.lconst 0, 1) := by decide +kernel
theorem dX8_told_11 : decode cX8_told 11 = .ok (.ldc2_w 108, 3) := by decide +kernel
theorem dX8_told_14 : decode cX8_told 14 = .ok (.invokestatic 85, 3) := by decide +kernel
theorem dX8_told_17 : decode cX8_told 17 = .ok (.ifCond .eq 16, 3) := by decide +kernel
theorem dX8_told_20 : decode cX8_told 20 = .ok (.aload_n 0, 1) := by decide +kernel
theorem dX8_told_21 : decode cX8_told 21 = .ok (.getfield 13, 3) := by decide +kernel
theorem dX8_told_24 : decode cX8_told 24 = .ok (.iconst 4, 1) := by decide +kernel
theorem dX8_told_25 : decode cX8_told 25 = .ok (.iload_n 1, 1) := by decide +kernel
theorem dX8_told_26 : decode cX8_told 26 = .ok (.imul, 1) := by decide +kernel
theorem dX8_told_27 : decode cX8_told 27 = .ok (.iload_n 2, 1) := by decide +kernel
theorem dX8_told_28 : decode cX8_told 28 = .ok (.iadd, 1) := by decide +kernel
theorem dX8_told_29 : decode cX8_told 29 = .ok (.iaload, 1) := by decide +kernel
theorem dX8_told_30 : decode cX8_told 30 = .ok (.goto 4, 3) := by decide +kernel
theorem dX8_told_33 : decode cX8_told 33 = .ok (.iconst (-1), 1) := by decide +kernel
theorem dX8_told_34 : decode cX8_told 34 = .ok (.ireturn, 1) := by decide +kernel
theorem dX8_lose_0 : decode cX8_lose 0 = .ok (.aload_n 0, 1) := by decide +kernel
theorem dX8_lose_1 : decode cX8_lose 1 = .ok (.iload_n 1, 1) := by decide +kernel
theorem dX8_lose_2 : decode cX8_lose 2 = .ok (.invokevirtual 116, 3) := by decide +kernel
theorem dX8_lose_5 : decode cX8_lose 5 = .ok (.ifCond .ne 5, 3) := by decide +kernel
theorem dX8_lose_8 : decode cX8_lose 8 = .ok (.iconst (-1), 1) := by decide +kernel
theorem dX8_lose_9 : decode cX8_lose 9 = .ok (.ireturn, 1) := by decide +kernel
theorem dX8_lose_10 : decode cX8_lose 10 = .ok (.aload_n 0, 1) := by decide +kernel
theorem dX8_lose_11 : decode cX8_lose 11 = .ok (.getfield 13, 3) := by decide +kernel
theorem dX8_lose_14 : decode cX8_lose 14 = .ok (.iconst 4, 1) := by decide +kernel
theorem dX8_lose_15 : decode cX8_lose 15 = .ok (.iload_n 1, 1) := by decide +kernel
theorem dX8_lose_16 : decode cX8_lose 16 = .ok (.imul, 1) := by decide +kernel
theorem dX8_lose_17 : decode cX8_lose 17 = .ok (.iconst 3, 1) := by decide +kernel
theorem dX8_lose_18 : decode cX8_lose 18 = .ok (.iadd, 1) := by decide +kernel
theorem dX8_lose_19 : decode cX8_lose 19 = .ok (.iaload, 1) := by decide +kernel
theorem dX8_lose_20 : decode cX8_lose 20 = .ok (.istore_n 3, 1) := by decide +kernel
theorem dX8_lose_21 : decode cX8_lose 21 = .ok (.aload_n 0, 1) := by decide +kernel
theorem dX8_lose_22 : decode cX8_lose 22 = .ok (.getfield 13, 3) := by decide +kernel
theorem dX8_lose_25 : decode cX8_lose 25 = .ok (.iconst 4, 1) := by decide +kernel
theorem dX8_lose_26 : decode cX8_lose 26 = .ok (.iload_n 1, 1) := by decide +kernel
theorem dX8_lose_27 : decode cX8_lose 27 = .ok (.imul, 1) := by decide +kernel
theorem dX8_lose_28 : decode cX8_lose 28 = .ok (.iconst 3, 1) := by decide +kernel
theorem dX8_lose_29 : decode cX8_lose 29 = .ok (.iadd, 1) := by decide +kernel
theorem dX8_lose_30 : decode cX8_lose 30 = .ok (.iload_n 2, 1) := by decide +kernel
theorem dX8_lose_31 : decode cX8_lose 31 = .ok (.ifCond .eq 7, 3) := by decide +kernel
theorem dX8_lose_34 : decode cX8_lose 34 = .ok (.iconst 1, 1) := by decide +kernel
theorem dX8_lose_35 : decode cX8_lose 35 = .ok (.goto 4, 3) := by decide +kernel
theorem dX8_lose_38 : decode cX8_lose 38 = .ok (.iconst 0, 1) := by decide +kernel
theorem dX8_lose_39 : decode cX8_lose 39 = .ok (.iastore, 1) := by decide +kernel
theorem dX8_lose_40 : decode cX8_lose 40 = .ok (.iload_n 3, 1) := by decide +kernel
theorem dX8_lose_41 : decode cX8_lose 41 = .ok (.ireturn, 1) := by decide +kernel
theorem dX8_set_0 : decode cX8_set 0 = .ok (.iload_n 1, 1) := by decide +kernel
theorem dX8_set_1 : decode cX8_set 1 = .ok (.i2l, 1) := by decide +kernel
theorem dX8_set_2 : decode cX8_set 2 = .ok (.lconst 0, 1) := by decide +kernel
theorem dX8_set_3 : decode cX8_set 3 = .ok (.lconst 1, 1) := by decide +kernel
theorem dX8_set_4 : decode cX8_set 4 = .ok (.invokestatic 85, 3) := by decide +kernel
theorem dX8_set_7 : decode cX8_set 7 = .ok (.ifCond .eq 15, 3) := by decide +kernel
theorem dX8_set_10 : decode cX8_set 10 = .ok (.iload_n 2, 1) := by decide +kernel
theorem dX8_set_11 : decode cX8_set 11 = .ok (.i2l, 1) := by decide +kernel
theorem dX8_set_12 : decode cX8_set 12 = .ok (.lconst 0, 1) := by decide +kernel
theorem dX8_set_13 : decode cX8_set 13 = .ok (.ldc2_w 119, 3) := by decide +kernel
theorem dX8_set_16 : decode cX8_set 16 = .ok (.invokestatic 85, 3) := by decide +kernel
theorem dX8_set_19 : decode cX8_set 19 = .ok (.ifCond .ne 5, 3) := by decide +kernel
theorem dX8_set_22 : decode cX8_set 22 = .ok (.iconst (-1), 1) := by decide +kernel
theorem dX8_set_23 : decode cX8_set 23 = .ok (.ireturn, 1) := by decide +kernel
theorem dX8_set_24 : decode cX8_set 24 = .ok (.aload_n 0, 1) := by decide +kernel
theorem dX8_set_25 : decode cX8_set 25 = .ok (.getfield 16, 3) := by decide +kernel
theorem dX8_set_28 : decode cX8_set 28 = .ok (.iload_n 1, 1) := by decide +kernel
theorem dX8_set_29 : decode cX8_set 29 = .ok (.iaload, 1) := by decide +kernel
theorem dX8_set_30 : decode cX8_set 30 = .ok (.istore_n 3, 1) := by decide +kernel
theorem dX8_set_31 : decode cX8_set 31 = .ok (.aload_n 0, 1) := by decide +kernel
theorem dX8_set_32 : decode cX8_set 32 = .ok (.getfield 16, 3) := by decide +kernel
theorem dX8_set_35 : decode cX8_set 35 = .ok (.iload_n 1, 1) := by decide +kernel
theorem dX8_set_36 : decode cX8_set 36 = .ok (.iload_n 2, 1) := by decide +kernel
theorem dX8_set_37 : decode cX8_set 37 = .ok (.iastore, 1) := by decide +kernel
theorem dX8_set_38 : decode cX8_set 38 = .ok (.iload_n 3, 1) := by decide +kernel
theorem dX8_set_39 : decode cX8_set 39 = .ok (.ireturn, 1) := by decide +kernel
theorem dX8_footOf_0 : decode cX8_footOf 0 = .ok (.aload_n 0, 1) := by decide +kernel
theorem dX8_footOf_1 : decode cX8_footOf 1 = .ok (.getfield 7, 3) := by decide +kernel
theorem dX8_footOf_4 : decode cX8_footOf 4 = .ok (.iconst 4, 1) := by decide +kernel
theorem dX8_footOf_5 : decode cX8_footOf 5 = .ok (.iload_n 1, 1) := by decide +kernel
theorem dX8_footOf_6 : decode cX8_footOf 6 = .ok (.imul, 1) := by decide +kernel
theorem dX8_footOf_7 : decode cX8_footOf 7 = .ok (.iload_n 2, 1) := by decide +kernel
theorem dX8_footOf_8 : decode cX8_footOf 8 = .ok (.iadd, 1) := by decide +kernel
theorem dX8_footOf_9 : decode cX8_footOf 9 = .ok (.iaload, 1) := by decide +kernel
theorem dX8_footOf_10 : decode cX8_footOf 10 = .ok (.iload_n 3, 1) := by decide +kernel
theorem dX8_footOf_11 : decode cX8_footOf 11 = .ok (.aload_n 0, 1) := by decide +kernel
theorem dX8_footOf_12 : decode cX8_footOf 12 = .ok (.getfield 7, 3) := by decide +kernel
theorem dX8_footOf_15 : decode cX8_footOf 15 = .ok (.iconst 4, 1) := by decide +kernel
theorem dX8_footOf_16 : decode cX8_footOf 16 = .ok (.iload_n 1, 1) := by decide +kernel
theorem dX8_footOf_17 : decode cX8_footOf 17 = .ok (.imul, 1) := by decide +kernel
theorem dX8_footOf_18 : decode cX8_footOf 18 = .ok (.iconst 2, 1) := by decide +kernel
theorem dX8_footOf_19 : decode cX8_footOf 19 = .ok (.iadd, 1) := by decide +kernel
theorem dX8_footOf_20 : decode cX8_footOf 20 = .ok (.iaload, 1) := by decide +kernel
theorem dX8_footOf_21 : decode cX8_footOf 21 = .ok (.imul, 1) := by decide +kernel
theorem dX8_footOf_22 : decode cX8_footOf 22 = .ok (.iconst 4, 1) := by decide +kernel
theorem dX8_footOf_23 : decode cX8_footOf 23 = .ok (.idiv, 1) := by decide +kernel
theorem dX8_footOf_24 : decode cX8_footOf 24 = .ok (.iadd, 1) := by decide +kernel
theorem dX8_footOf_25 : decode cX8_footOf 25 = .ok (.ireturn, 1) := by decide +kernel
theorem dX8_givesOf_0 : decode cX8_givesOf 0 = .ok (.aload_n 0, 1) := by decide +kernel
theorem dX8_givesOf_1 : decode cX8_givesOf 1 = .ok (.getfield 13, 3) := by decide +kernel
theorem dX8_givesOf_4 : decode cX8_givesOf 4 = .ok (.iconst 4, 1) := by decide +kernel
theorem dX8_givesOf_5 : decode cX8_givesOf 5 = .ok (.iload_n 1, 1) := by decide +kernel
theorem dX8_givesOf_6 : decode cX8_givesOf 6 = .ok (.imul, 1) := by decide +kernel
theorem dX8_givesOf_7 : decode cX8_givesOf 7 = .ok (.iconst 2, 1) := by decide +kernel
theorem dX8_givesOf_8 : decode cX8_givesOf 8 = .ok (.iadd, 1) := by decide +kernel
theorem dX8_givesOf_9 : decode cX8_givesOf 9 = .ok (.iaload, 1) := by decide +kernel
theorem dX8_givesOf_10 : decode cX8_givesOf 10 = .ok (.istore_n 2, 1) := by decide +kernel
theorem dX8_givesOf_11 : decode cX8_givesOf 11 = .ok (.iload_n 2, 1) := by decide +kernel
theorem dX8_givesOf_12 : decode cX8_givesOf 12 = .ok (.iconst 2, 1) := by decide +kernel
theorem dX8_givesOf_13 : decode cX8_givesOf 13 = .ok (.if_icmp .ne 7, 3) := by decide +kernel
theorem dX8_givesOf_16 : decode cX8_givesOf 16 = .ok (.iconst 1, 1) := by decide +kernel
theorem dX8_givesOf_17 : decode cX8_givesOf 17 = .ok (.goto 13, 3) := by decide +kernel
theorem dX8_givesOf_20 : decode cX8_givesOf 20 = .ok (.iload_n 2, 1) := by decide +kernel
theorem dX8_givesOf_21 : decode cX8_givesOf 21 = .ok (.iconst 3, 1) := by decide +kernel
theorem dX8_givesOf_22 : decode cX8_givesOf 22 = .ok (.if_icmp .ne 7, 3) := by decide +kernel
theorem dX8_givesOf_25 : decode cX8_givesOf 25 = .ok (.iconst 2, 1) := by decide +kernel
theorem dX8_givesOf_26 : decode cX8_givesOf 26 = .ok (.goto 4, 3) := by decide +kernel
theorem dX8_givesOf_29 : decode cX8_givesOf 29 = .ok (.iconst 0, 1) := by decide +kernel
theorem dX8_givesOf_30 : decode cX8_givesOf 30 = .ok (.ireturn, 1) := by decide +kernel
theorem dX8_looseOf_0 : decode cX8_looseOf 0 = .ok (.aload_n 0, 1) := by decide +kernel
theorem dX8_looseOf_1 : decode cX8_looseOf 1 = .ok (.getfield 13, 3) := by decide +kernel
theorem dX8_looseOf_4 : decode cX8_looseOf 4 = .ok (.iconst 4, 1) := by decide +kernel
theorem dX8_looseOf_5 : decode cX8_looseOf 5 = .ok (.iload_n 1, 1) := by decide +kernel
theorem dX8_looseOf_6 : decode cX8_looseOf 6 = .ok (.imul, 1) := by decide +kernel
theorem dX8_looseOf_7 : decode cX8_looseOf 7 = .ok (.iconst 2, 1) := by decide +kernel
theorem dX8_looseOf_8 : decode cX8_looseOf 8 = .ok (.iadd, 1) := by decide +kernel
theorem dX8_looseOf_9 : decode cX8_looseOf 9 = .ok (.iaload, 1) := by decide +kernel
theorem dX8_looseOf_10 : decode cX8_looseOf 10 = .ok (.iconst 1, 1) := by decide +kernel
theorem dX8_looseOf_11 : decode cX8_looseOf 11 = .ok (.if_icmp .ne 7, 3) := by decide +kernel
theorem dX8_looseOf_14 : decode cX8_looseOf 14 = .ok (.iconst 0, 1) := by decide +kernel
theorem dX8_looseOf_15 : decode cX8_looseOf 15 = .ok (.goto 9, 3) := by decide +kernel
theorem dX8_looseOf_18 : decode cX8_looseOf 18 = .ok (.aload_n 0, 1) := by decide +kernel
theorem dX8_looseOf_19 : decode cX8_looseOf 19 = .ok (.getfield 16, 3) := by decide +kernel
theorem dX8_looseOf_22 : decode cX8_looseOf 22 = .ok (.iconst 0, 1) := by decide +kernel
theorem dX8_looseOf_23 : decode cX8_looseOf 23 = .ok (.iaload, 1) := by decide +kernel
theorem dX8_looseOf_24 : decode cX8_looseOf 24 = .ok (.ireturn, 1) := by decide +kernel
theorem dX8_outOf_0 : decode cX8_outOf 0 = .ok (.aload_n 0, 1) := by decide +kernel
theorem dX8_outOf_1 : decode cX8_outOf 1 = .ok (.getfield 13, 3) := by decide +kernel
theorem dX8_outOf_4 : decode cX8_outOf 4 = .ok (.iconst 4, 1) := by decide +kernel
theorem dX8_outOf_5 : decode cX8_outOf 5 = .ok (.iload_n 1, 1) := by decide +kernel
theorem dX8_outOf_6 : decode cX8_outOf 6 = .ok (.imul, 1) := by decide +kernel
theorem dX8_outOf_7 : decode cX8_outOf 7 = .ok (.iconst 2, 1) := by decide +kernel
theorem dX8_outOf_8 : decode cX8_outOf 8 = .ok (.iadd, 1) := by decide +kernel
theorem dX8_outOf_9 : decode cX8_outOf 9 = .ok (.iaload, 1) := by decide +kernel
theorem dX8_outOf_10 : decode cX8_outOf 10 = .ok (.istore_n 2, 1) := by decide +kernel
theorem dX8_outOf_11 : decode cX8_outOf 11 = .ok (.iload_n 2, 1) := by decide +kernel
theorem dX8_outOf_12 : decode cX8_outOf 12 = .ok (.iconst 1, 1) := by decide +kernel
theorem dX8_outOf_13 : decode cX8_outOf 13 = .ok (.if_icmp .ne 7, 3) := by decide +kernel
theorem dX8_outOf_16 : decode cX8_outOf 16 = .ok (.iconst 0, 1) := by decide +kernel
theorem dX8_outOf_17 : decode cX8_outOf 17 = .ok (.goto 28, 3) := by decide +kernel
theorem dX8_outOf_20 : decode cX8_outOf 20 = .ok (.iload_n 2, 1) := by decide +kernel
theorem dX8_outOf_21 : decode cX8_outOf 21 = .ok (.iconst 3, 1) := by decide +kernel
theorem dX8_outOf_22 : decode cX8_outOf 22 = .ok (.if_icmp .ne 17, 3) := by decide +kernel
theorem dX8_outOf_25 : decode cX8_outOf 25 = .ok (.aload_n 0, 1) := by decide +kernel
theorem dX8_outOf_26 : decode cX8_outOf 26 = .ok (.getfield 16, 3) := by decide +kernel
theorem dX8_outOf_29 : decode cX8_outOf 29 = .ok (.iconst 1, 1) := by decide +kernel
theorem dX8_outOf_30 : decode cX8_outOf 30 = .ok (.iaload, 1) := by decide +kernel
theorem dX8_outOf_31 : decode cX8_outOf 31 = .ok (.iconst 1, 1) := by decide +kernel
theorem dX8_outOf_32 : decode cX8_outOf 32 = .ok (.if_icmp .le 7, 3) := by decide +kernel
theorem dX8_outOf_35 : decode cX8_outOf 35 = .ok (.iconst 1, 1) := by decide +kernel
theorem dX8_outOf_36 : decode cX8_outOf 36 = .ok (.goto 9, 3) := by decide +kernel
theorem dX8_outOf_39 : decode cX8_outOf 39 = .ok (.aload_n 0, 1) := by decide +kernel
theorem dX8_outOf_40 : decode cX8_outOf 40 = .ok (.getfield 16, 3) := by decide +kernel
theorem dX8_outOf_43 : decode cX8_outOf 43 = .ok (.iconst 1, 1) := by decide +kernel
theorem dX8_outOf_44 : decode cX8_outOf 44 = .ok (.iaload, 1) := by decide +kernel
theorem dX8_outOf_45 : decode cX8_outOf 45 = .ok (.ireturn, 1) := by decide +kernel
theorem dX8_askedOf_0 : decode cX8_askedOf 0 = .ok (.aload_n 0, 1) := by decide +kernel
theorem dX8_askedOf_1 : decode cX8_askedOf 1 = .ok (.iload_n 2, 1) := by decide +kernel
theorem dX8_askedOf_2 : decode cX8_askedOf 2 = .ok (.aload_n 0, 1) := by decide +kernel
theorem dX8_askedOf_3 : decode cX8_askedOf 3 = .ok (.getfield 13, 3) := by decide +kernel
theorem dX8_askedOf_6 : decode cX8_askedOf 6 = .ok (.iconst 4, 1) := by decide +kernel
theorem dX8_askedOf_7 : decode cX8_askedOf 7 = .ok (.iload_n 1, 1) := by decide +kernel
theorem dX8_askedOf_8 : decode cX8_askedOf 8 = .ok (.imul, 1) := by decide +kernel
theorem dX8_askedOf_9 : decode cX8_askedOf 9 = .ok (.iaload, 1) := by decide +kernel
theorem dX8_askedOf_10 : decode cX8_askedOf 10 = .ok (.iload_n 3, 1) := by decide +kernel
theorem dX8_askedOf_11 : decode cX8_askedOf 11 = .ok (.invokevirtual 121, 3) := by decide +kernel
theorem dX8_askedOf_14 : decode cX8_askedOf 14 = .ok (.istore 4, 2) := by decide +kernel
theorem dX8_askedOf_16 : decode cX8_askedOf 16 = .ok (.aload_n 0, 1) := by decide +kernel
theorem dX8_askedOf_17 : decode cX8_askedOf 17 = .ok (.getfield 13, 3) := by decide +kernel
theorem dX8_askedOf_20 : decode cX8_askedOf 20 = .ok (.iconst 4, 1) := by decide +kernel
theorem dX8_askedOf_21 : decode cX8_askedOf 21 = .ok (.iload_n 1, 1) := by decide +kernel
theorem dX8_askedOf_22 : decode cX8_askedOf 22 = .ok (.imul, 1) := by decide +kernel
theorem dX8_askedOf_23 : decode cX8_askedOf 23 = .ok (.iconst 1, 1) := by decide +kernel
theorem dX8_askedOf_24 : decode cX8_askedOf 24 = .ok (.iadd, 1) := by decide +kernel
theorem dX8_askedOf_25 : decode cX8_askedOf 25 = .ok (.iaload, 1) := by decide +kernel
theorem dX8_askedOf_26 : decode cX8_askedOf 26 = .ok (.istore 5, 2) := by decide +kernel
theorem dX8_askedOf_28 : decode cX8_askedOf 28 = .ok (.iconst 0, 1) := by decide +kernel
theorem dX8_askedOf_29 : decode cX8_askedOf 29 = .ok (.istore 6, 2) := by decide +kernel
theorem dX8_askedOf_31 : decode cX8_askedOf 31 = .ok (.iload 6, 2) := by decide +kernel
theorem dX8_askedOf_33 : decode cX8_askedOf 33 = .ok (.aload_n 0, 1) := by decide +kernel
theorem dX8_askedOf_34 : decode cX8_askedOf 34 = .ok (.iload_n 1, 1) := by decide +kernel
theorem dX8_askedOf_35 : decode cX8_askedOf 35 = .ok (.invokevirtual 125, 3) := by decide +kernel
theorem dX8_askedOf_38 : decode cX8_askedOf 38 = .ok (.if_icmp .gt 49, 3) := by decide +kernel
theorem dX8_askedOf_41 : decode cX8_askedOf 41 = .ok (.iload 5, 2) := by decide +kernel
theorem dX8_askedOf_43 : decode cX8_askedOf 43 = .ok (.iload 6, 2) := by decide +kernel
theorem dX8_askedOf_45 : decode cX8_askedOf 45 = .ok (.iadd, 1) := by decide +kernel
theorem dX8_askedOf_46 : decode cX8_askedOf 46 = .ok (.iload 4, 2) := by decide +kernel
theorem dX8_askedOf_48 : decode cX8_askedOf 48 = .ok (.aload_n 0, 1) := by decide +kernel
theorem dX8_askedOf_49 : decode cX8_askedOf 49 = .ok (.iload_n 1, 1) := by decide +kernel
theorem dX8_askedOf_50 : decode cX8_askedOf 50 = .ok (.invokevirtual 129, 3) := by decide +kernel
theorem dX8_askedOf_53 : decode cX8_askedOf 53 = .ok (.isub, 1) := by decide +kernel
theorem dX8_askedOf_54 : decode cX8_askedOf 54 = .ok (.if_icmp .lt 27, 3) := by decide +kernel
theorem dX8_askedOf_57 : decode cX8_askedOf 57 = .ok (.iload 5, 2) := by decide +kernel
theorem dX8_askedOf_59 : decode cX8_askedOf 59 = .ok (.iload 6, 2) := by decide +kernel
theorem dX8_askedOf_61 : decode cX8_askedOf 61 = .ok (.iadd, 1) := by decide +kernel
theorem dX8_askedOf_62 : decode cX8_askedOf 62 = .ok (.iload 4, 2) := by decide +kernel
theorem dX8_askedOf_64 : decode cX8_askedOf 64 = .ok (.aload_n 0, 1) := by decide +kernel
theorem dX8_askedOf_65 : decode cX8_askedOf 65 = .ok (.iload_n 1, 1) := by decide +kernel
theorem dX8_askedOf_66 : decode cX8_askedOf 66 = .ok (.invokevirtual 132, 3) := by decide +kernel
theorem dX8_askedOf_69 : decode cX8_askedOf 69 = .ok (.iadd, 1) := by decide +kernel
theorem dX8_askedOf_70 : decode cX8_askedOf 70 = .ok (.if_icmp .gt 8, 3) := by decide +kernel
theorem dX8_askedOf_73 : decode cX8_askedOf 73 = .ok (.iload 6, 2) := by decide +kernel
theorem dX8_askedOf_75 : decode cX8_askedOf 75 = .ok (.goto 5, 3) := by decide +kernel
theorem dX8_askedOf_78 : decode cX8_askedOf 78 = .ok (.bipush (-4), 2) := by decide +kernel
theorem dX8_askedOf_80 : decode cX8_askedOf 80 = .ok (.ireturn, 1) := by decide +kernel
theorem dX8_askedOf_81 : decode cX8_askedOf 81 = .ok (.iinc 6 1, 3) := by decide +kernel
theorem dX8_askedOf_84 : decode cX8_askedOf 84 = .ok (.goto (-53), 3) := by decide +kernel
theorem dX8_askedOf_87 : decode cX8_askedOf 87 = .ok (.bipush (-4), 2) := by decide +kernel
theorem dX8_askedOf_89 : decode cX8_askedOf 89 = .ok (.ireturn, 1) := by decide +kernel
theorem dX8_foot_0 : decode cX8_foot 0 = .ok (.aload_n 0, 1) := by decide +kernel
theorem dX8_foot_1 : decode cX8_foot 1 = .ok (.iload_n 1, 1) := by decide +kernel
theorem dX8_foot_2 : decode cX8_foot 2 = .ok (.invokevirtual 104, 3) := by decide +kernel
theorem dX8_foot_5 : decode cX8_foot 5 = .ok (.ifCond .eq 30, 3) := by decide +kernel
theorem dX8_foot_8 : decode cX8_foot 8 = .ok (.iload_n 2, 1) := by decide +kernel
theorem dX8_foot_9 : decode cX8_foot 9 = .ok (.i2l, 1) := by decide +kernel
theorem dX8_foot_10 : decode cX8_foot 10 = .ok (.lconst 0, 1) := by decide +kernel
theorem dX8_foot_11 : decode cX8_foot 11 = .ok (.lconst 1, 1) := by decide +kernel
theorem dX8_foot_12 : decode cX8_foot 12 = .ok (.invokestatic 85, 3) := by decide +kernel
theorem dX8_foot_15 : decode cX8_foot 15 = .ok (.ifCond .eq 20, 3) := by decide +kernel
theorem dX8_foot_18 : decode cX8_foot 18 = .ok (.iload_n 3, 1) := by decide +kernel
theorem dX8_foot_19 : decode cX8_foot 19 = .ok (.invokestatic 135, 3) := by decide +kernel
theorem dX8_foot_22 : decode cX8_foot 22 = .ok (.ifCond .eq 13, 3) := by decide +kernel
theorem dX8_foot_25 : decode cX8_foot 25 = .ok (.aload_n 0, 1) := by decide +kernel
theorem dX8_foot_26 : decode cX8_foot 26 = .ok (.iload_n 1, 1) := by decide +kernel
theorem dX8_foot_27 : decode cX8_foot 27 = .ok (.iload_n 2, 1) := by decide +kernel
theorem dX8_foot_28 : decode cX8_foot 28 = .ok (.iload_n 3, 1) := by decide +kernel
theorem dX8_foot_29 : decode cX8_foot 29 = .ok (.invokevirtual 121, 3) := by decide +kernel
theorem dX8_foot_32 : decode cX8_foot 32 = .ok (.goto 4, 3) := by decide +kernel
theorem dX8_foot_35 : decode cX8_foot 35 = .ok (.iconst (-1), 1) := by decide +kernel
theorem dX8_foot_36 : decode cX8_foot 36 = .ok (.ireturn, 1) := by decide +kernel
theorem dX8_asked_0 : decode cX8_asked 0 = .ok (.aload_n 0, 1) := by decide +kernel
theorem dX8_asked_1 : decode cX8_asked 1 = .ok (.iload_n 1, 1) := by decide +kernel
theorem dX8_asked_2 : decode cX8_asked 2 = .ok (.invokevirtual 116, 3) := by decide +kernel
theorem dX8_asked_5 : decode cX8_asked 5 = .ok (.ifCond .eq 28, 3) := by decide +kernel
theorem dX8_asked_8 : decode cX8_asked 8 = .ok (.aload_n 0, 1) := by decide +kernel
theorem dX8_asked_9 : decode cX8_asked 9 = .ok (.iload_n 2, 1) := by decide +kernel
theorem dX8_asked_10 : decode cX8_asked 10 = .ok (.invokevirtual 104, 3) := by decide +kernel
theorem dX8_asked_13 : decode cX8_asked 13 = .ok (.ifCond .eq 20, 3) := by decide +kernel
theorem dX8_asked_16 : decode cX8_asked 16 = .ok (.iload_n 3, 1) := by decide +kernel
theorem dX8_asked_17 : decode cX8_asked 17 = .ok (.invokestatic 135, 3) := by decide +kernel
theorem dX8_asked_20 : decode cX8_asked 20 = .ok (.ifCond .eq 13, 3) := by decide +kernel
theorem dX8_asked_23 : decode cX8_asked 23 = .ok (.aload_n 0, 1) := by decide +kernel
theorem dX8_asked_24 : decode cX8_asked 24 = .ok (.iload_n 1, 1) := by decide +kernel
theorem dX8_asked_25 : decode cX8_asked 25 = .ok (.iload_n 2, 1) := by decide +kernel
theorem dX8_asked_26 : decode cX8_asked 26 = .ok (.iload_n 3, 1) := by decide +kernel
theorem dX8_asked_27 : decode cX8_asked 27 = .ok (.invokevirtual 138, 3) := by decide +kernel
theorem dX8_asked_30 : decode cX8_asked 30 = .ok (.goto 4, 3) := by decide +kernel
theorem dX8_asked_33 : decode cX8_asked 33 = .ok (.iconst (-1), 1) := by decide +kernel
theorem dX8_asked_34 : decode cX8_asked 34 = .ok (.ireturn, 1) := by decide +kernel
theorem dX8_whose_0 : decode cX8_whose 0 = .ok (.aload_n 0, 1) := by decide +kernel
theorem dX8_whose_1 : decode cX8_whose 1 = .ok (.iload_n 1, 1) := by decide +kernel
theorem dX8_whose_2 : decode cX8_whose 2 = .ok (.invokevirtual 116, 3) := by decide +kernel
theorem dX8_whose_5 : decode cX8_whose 5 = .ok (.ifCond .eq 10, 3) := by decide +kernel
theorem dX8_whose_8 : decode cX8_whose 8 = .ok (.iload_n 2, 1) := by decide +kernel
theorem dX8_whose_9 : decode cX8_whose 9 = .ok (.invokestatic 135, 3) := by decide +kernel
theorem dX8_whose_12 : decode cX8_whose 12 = .ok (.ifCond .ne 5, 3) := by decide +kernel
theorem dX8_whose_15 : decode cX8_whose 15 = .ok (.iconst (-1), 1) := by decide +kernel
theorem dX8_whose_16 : decode cX8_whose 16 = .ok (.ireturn, 1) := by decide +kernel
theorem dX8_whose_17 : decode cX8_whose 17 = .ok (.iconst 0, 1) := by decide +kernel
theorem dX8_whose_18 : decode cX8_whose 18 = .ok (.istore_n 3, 1) := by decide +kernel
theorem dX8_whose_19 : decode cX8_whose 19 = .ok (.iconst 0, 1) := by decide +kernel
theorem dX8_whose_20 : decode cX8_whose 20 = .ok (.istore 4, 2) := by decide +kernel
theorem dX8_whose_22 : decode cX8_whose 22 = .ok (.iload 4, 2) := by decide +kernel
theorem dX8_whose_24 : decode cX8_whose 24 = .ok (.aload_n 0, 1) := by decide +kernel
theorem dX8_whose_25 : decode cX8_whose 25 = .ok (.getfield 81, 3) := by decide +kernel
theorem dX8_whose_28 : decode cX8_whose 28 = .ok (.if_icmp .ge 31, 3) := by decide +kernel
theorem dX8_whose_31 : decode cX8_whose 31 = .ok (.iload_n 3, 1) := by decide +kernel
theorem dX8_whose_32 : decode cX8_whose 32 = .ok (.aload_n 0, 1) := by decide +kernel
theorem dX8_whose_33 : decode cX8_whose 33 = .ok (.iload_n 1, 1) := by decide +kernel
theorem dX8_whose_34 : decode cX8_whose 34 = .ok (.iload 4, 2) := by decide +kernel
theorem dX8_whose_36 : decode cX8_whose 36 = .ok (.iload_n 2, 1) := by decide +kernel
theorem dX8_whose_37 : decode cX8_whose 37 = .ok (.invokevirtual 138, 3) := by decide +kernel
theorem dX8_whose_40 : decode cX8_whose 40 = .ok (.ifCond .lt 10, 3) := by decide +kernel
theorem dX8_whose_43 : decode cX8_whose 43 = .ok (.iconst 1, 1) := by decide +kernel
theorem dX8_whose_44 : decode cX8_whose 44 = .ok (.iload 4, 2) := by decide +kernel
theorem dX8_whose_46 : decode cX8_whose 46 = .ok (.ishl, 1) := by decide +kernel
theorem dX8_whose_47 : decode cX8_whose 47 = .ok (.goto 4, 3) := by decide +kernel
theorem dX8_whose_50 : decode cX8_whose 50 = .ok (.iconst 0, 1) := by decide +kernel
theorem dX8_whose_51 : decode cX8_whose 51 = .ok (.ior, 1) := by decide +kernel
theorem dX8_whose_52 : decode cX8_whose 52 = .ok (.istore_n 3, 1) := by decide +kernel
theorem dX8_whose_53 : decode cX8_whose 53 = .ok (.iinc 4 1, 3) := by decide +kernel
theorem dX8_whose_56 : decode cX8_whose 56 = .ok (.goto (-34), 3) := by decide +kernel
theorem dX8_whose_59 : decode cX8_whose 59 = .ok (.iload_n 3, 1) := by decide +kernel
theorem dX8_whose_60 : decode cX8_whose 60 = .ok (.ireturn, 1) := by decide +kernel
theorem dX8_count_0 : decode cX8_count 0 = .ok (.iconst 0, 1) := by decide +kernel
theorem dX8_count_1 : decode cX8_count 1 = .ok (.istore_n 2, 1) := by decide +kernel
theorem dX8_count_2 : decode cX8_count 2 = .ok (.iconst 0, 1) := by decide +kernel
theorem dX8_count_3 : decode cX8_count 3 = .ok (.istore_n 3, 1) := by decide +kernel
theorem dX8_count_4 : decode cX8_count 4 = .ok (.iconst 0, 1) := by decide +kernel
theorem dX8_count_5 : decode cX8_count 5 = .ok (.istore 4, 2) := by decide +kernel
theorem dX8_count_7 : decode cX8_count 7 = .ok (.iconst 0, 1) := by decide +kernel
theorem dX8_count_8 : decode cX8_count 8 = .ok (.istore 5, 2) := by decide +kernel
theorem dX8_count_10 : decode cX8_count 10 = .ok (.iload 5, 2) := by decide +kernel
theorem dX8_count_12 : decode cX8_count 12 = .ok (.aload_n 0, 1) := by decide +kernel
theorem dX8_count_13 : decode cX8_count 13 = .ok (.getfield 89, 3) := by decide +kernel
theorem dX8_count_16 : decode cX8_count 16 = .ok (.if_icmp .ge 90, 3) := by decide +kernel
theorem dX8_count_19 : decode cX8_count 19 = .ok (.iload 4, 2) := by decide +kernel
theorem dX8_count_21 : decode cX8_count 21 = .ok (.aload_n 0, 1) := by decide +kernel
theorem dX8_count_22 : decode cX8_count 22 = .ok (.getfield 13, 3) := by decide +kernel
theorem dX8_count_25 : decode cX8_count 25 = .ok (.iconst 4, 1) := by decide +kernel
theorem dX8_count_26 : decode cX8_count 26 = .ok (.iload 5, 2) := by decide +kernel
theorem dX8_count_28 : decode cX8_count 28 = .ok (.imul, 1) := by decide +kernel
theorem dX8_count_29 : decode cX8_count 29 = .ok (.iconst 3, 1) := by decide +kernel
theorem dX8_count_30 : decode cX8_count 30 = .ok (.iadd, 1) := by decide +kernel
theorem dX8_count_31 : decode cX8_count 31 = .ok (.iaload, 1) := by decide +kernel
theorem dX8_count_32 : decode cX8_count 32 = .ok (.iadd, 1) := by decide +kernel
theorem dX8_count_33 : decode cX8_count 33 = .ok (.istore 4, 2) := by decide +kernel
theorem dX8_count_35 : decode cX8_count 35 = .ok (.iload_n 2, 1) := by decide +kernel
theorem dX8_count_36 : decode cX8_count 36 = .ok (.aload_n 0, 1) := by decide +kernel
theorem dX8_count_37 : decode cX8_count 37 = .ok (.getfield 13, 3) := by decide +kernel
theorem dX8_count_40 : decode cX8_count 40 = .ok (.iconst 4, 1) := by decide +kernel
theorem dX8_count_41 : decode cX8_count 41 = .ok (.iload 5, 2) := by decide +kernel
theorem dX8_count_43 : decode cX8_count 43 = .ok (.imul, 1) := by decide +kernel
theorem dX8_count_44 : decode cX8_count 44 = .ok (.iaload, 1) := by decide +kernel
theorem dX8_count_45 : decode cX8_count 45 = .ok (.ifCond .ne 19, 3) := by decide +kernel
theorem dX8_count_48 : decode cX8_count 48 = .ok (.iconst 1, 1) := by decide +kernel
theorem dX8_count_49 : decode cX8_count 49 = .ok (.aload_n 0, 1) := by decide +kernel
theorem dX8_count_50 : decode cX8_count 50 = .ok (.getfield 13, 3) := by decide +kernel
theorem dX8_count_53 : decode cX8_count 53 = .ok (.iconst 4, 1) := by decide +kernel
theorem dX8_count_54 : decode cX8_count 54 = .ok (.iload 5, 2) := by decide +kernel
end
section
theorem dX8_count_56 : decode cX8_count 56 = .ok (.imul, 1) := by decide +kernel
theorem dX8_count_57 : decode cX8_count 57 = .ok (.iconst 3, 1) := by decide +kernel
theorem dX8_count_58 : decode cX8_count 58 = .ok (.iadd, 1) := by decide +kernel
theorem dX8_count_59 : decode cX8_count 59 = .ok (.iaload, 1) := by decide +kernel
theorem dX8_count_60 : decode cX8_count 60 = .ok (.isub, 1) := by decide +kernel
theorem dX8_count_61 : decode cX8_count 61 = .ok (.goto 4, 3) := by decide +kernel
theorem dX8_count_64 : decode cX8_count 64 = .ok (.iconst 0, 1) := by decide +kernel
theorem dX8_count_65 : decode cX8_count 65 = .ok (.iadd, 1) := by decide +kernel
theorem dX8_count_66 : decode cX8_count 66 = .ok (.istore_n 2, 1) := by decide +kernel
theorem dX8_count_67 : decode cX8_count 67 = .ok (.iload_n 3, 1) := by decide +kernel
theorem dX8_count_68 : decode cX8_count 68 = .ok (.aload_n 0, 1) := by decide +kernel
theorem dX8_count_69 : decode cX8_count 69 = .ok (.getfield 13, 3) := by decide +kernel
theorem dX8_count_72 : decode cX8_count 72 = .ok (.iconst 4, 1) := by decide +kernel
theorem dX8_count_73 : decode cX8_count 73 = .ok (.iload 5, 2) := by decide +kernel
theorem dX8_count_75 : decode cX8_count 75 = .ok (.imul, 1) := by decide +kernel
theorem dX8_count_76 : decode cX8_count 76 = .ok (.iaload, 1) := by decide +kernel
theorem dX8_count_77 : decode cX8_count 77 = .ok (.iconst 1, 1) := by decide +kernel
theorem dX8_count_78 : decode cX8_count 78 = .ok (.if_icmp .ne 19, 3) := by decide +kernel
theorem dX8_count_81 : decode cX8_count 81 = .ok (.iconst 1, 1) := by decide +kernel
theorem dX8_count_82 : decode cX8_count 82 = .ok (.aload_n 0, 1) := by decide +kernel
theorem dX8_count_83 : decode cX8_count 83 = .ok (.getfield 13, 3) := by decide +kernel
theorem dX8_count_86 : decode cX8_count 86 = .ok (.iconst 4, 1) := by decide +kernel
theorem dX8_count_87 : decode cX8_count 87 = .ok (.iload 5, 2) := by decide +kernel
theorem dX8_count_89 : decode cX8_count 89 = .ok (.imul, 1) := by decide +kernel
theorem dX8_count_90 : decode cX8_count 90 = .ok (.iconst 3, 1) := by decide +kernel
theorem dX8_count_91 : decode cX8_count 91 = .ok (.iadd, 1) := by decide +kernel
theorem dX8_count_92 : decode cX8_count 92 = .ok (.iaload, 1) := by decide +kernel
theorem dX8_count_93 : decode cX8_count 93 = .ok (.isub, 1) := by decide +kernel
theorem dX8_count_94 : decode cX8_count 94 = .ok (.goto 4, 3) := by decide +kernel
theorem dX8_count_97 : decode cX8_count 97 = .ok (.iconst 0, 1) := by decide +kernel
theorem dX8_count_98 : decode cX8_count 98 = .ok (.iadd, 1) := by decide +kernel
theorem dX8_count_99 : decode cX8_count 99 = .ok (.istore_n 3, 1) := by decide +kernel
theorem dX8_count_100 : decode cX8_count 100 = .ok (.iinc 5 1, 3) := by decide +kernel
theorem dX8_count_103 : decode cX8_count 103 = .ok (.goto (-93), 3) := by decide +kernel
theorem dX8_count_106 : decode cX8_count 106 = .ok (.iload_n 1, 1) := by decide +kernel
theorem dX8_count_107 : decode cX8_count 107 = .ok (.ifCond .ne 10, 3) := by decide +kernel
theorem dX8_count_110 : decode cX8_count 110 = .ok (.aload_n 0, 1) := by decide +kernel
theorem dX8_count_111 : decode cX8_count 111 = .ok (.getfield 81, 3) := by decide +kernel
theorem dX8_count_114 : decode cX8_count 114 = .ok (.goto 44, 3) := by decide +kernel
theorem dX8_count_117 : decode cX8_count 117 = .ok (.iload_n 1, 1) := by decide +kernel
theorem dX8_count_118 : decode cX8_count 118 = .ok (.iconst 1, 1) := by decide +kernel
theorem dX8_count_119 : decode cX8_count 119 = .ok (.if_icmp .ne 10, 3) := by decide +kernel
theorem dX8_count_122 : decode cX8_count 122 = .ok (.aload_n 0, 1) := by decide +kernel
theorem dX8_count_123 : decode cX8_count 123 = .ok (.getfield 89, 3) := by decide +kernel
theorem dX8_count_126 : decode cX8_count 126 = .ok (.goto 32, 3) := by decide +kernel
theorem dX8_count_129 : decode cX8_count 129 = .ok (.iload_n 1, 1) := by decide +kernel
theorem dX8_count_130 : decode cX8_count 130 = .ok (.iconst 2, 1) := by decide +kernel
theorem dX8_count_131 : decode cX8_count 131 = .ok (.if_icmp .ne 7, 3) := by decide +kernel
theorem dX8_count_134 : decode cX8_count 134 = .ok (.iload_n 2, 1) := by decide +kernel
theorem dX8_count_135 : decode cX8_count 135 = .ok (.goto 23, 3) := by decide +kernel
theorem dX8_count_138 : decode cX8_count 138 = .ok (.iload_n 1, 1) := by decide +kernel
theorem dX8_count_139 : decode cX8_count 139 = .ok (.iconst 3, 1) := by decide +kernel
theorem dX8_count_140 : decode cX8_count 140 = .ok (.if_icmp .ne 7, 3) := by decide +kernel
theorem dX8_count_143 : decode cX8_count 143 = .ok (.iload_n 3, 1) := by decide +kernel
theorem dX8_count_144 : decode cX8_count 144 = .ok (.goto 14, 3) := by decide +kernel
theorem dX8_count_147 : decode cX8_count 147 = .ok (.iload_n 1, 1) := by decide +kernel
theorem dX8_count_148 : decode cX8_count 148 = .ok (.iconst 4, 1) := by decide +kernel
theorem dX8_count_149 : decode cX8_count 149 = .ok (.if_icmp .ne 8, 3) := by decide +kernel
theorem dX8_count_152 : decode cX8_count 152 = .ok (.iload 4, 2) := by decide +kernel
theorem dX8_count_154 : decode cX8_count 154 = .ok (.goto 4, 3) := by decide +kernel
theorem dX8_count_157 : decode cX8_count 157 = .ok (.iconst (-1), 1) := by decide +kernel
theorem dX8_count_158 : decode cX8_count 158 = .ok (.ireturn, 1) := by decide +kernel
theorem dX8_type_0 : decode cX8_type 0 = .ok (.iload_n 3, 1) := by decide +kernel
theorem dX8_type_1 : decode cX8_type 1 = .ok (.i2l, 1) := by decide +kernel
theorem dX8_type_2 : decode cX8_type 2 = .ok (.lconst 1, 1) := by decide +kernel
theorem dX8_type_3 : decode cX8_type 3 = .ok (.ldc2_w 141, 3) := by decide +kernel
theorem dX8_type_6 : decode cX8_type 6 = .ok (.invokestatic 85, 3) := by decide +kernel
theorem dX8_type_9 : decode cX8_type 9 = .ok (.ifCond .ne 5, 3) := by decide +kernel
theorem dX8_type_12 : decode cX8_type 12 = .ok (.iconst (-1), 1) := by decide +kernel
theorem dX8_type_13 : decode cX8_type 13 = .ok (.ireturn, 1) := by decide +kernel
theorem dX8_type_14 : decode cX8_type 14 = .ok (.iload_n 3, 1) := by decide +kernel
theorem dX8_type_15 : decode cX8_type 15 = .ok (.iconst 1, 1) := by decide +kernel
theorem dX8_type_16 : decode cX8_type 16 = .ok (.isub, 1) := by decide +kernel
theorem dX8_type_17 : decode cX8_type 17 = .ok (.istore 4, 2) := by decide +kernel
theorem dX8_type_19 : decode cX8_type 19 = .ok (.iload 4, 2) := by decide +kernel
theorem dX8_type_21 : decode cX8_type 21 = .ok (.ifCond .lt 34, 3) := by decide +kernel
theorem dX8_type_24 : decode cX8_type 24 = .ok (.lload_n 1, 1) := by decide +kernel
theorem dX8_type_25 : decode cX8_type 25 = .ok (.bipush 8, 2) := by decide +kernel
theorem dX8_type_27 : decode cX8_type 27 = .ok (.iload 4, 2) := by decide +kernel
theorem dX8_type_29 : decode cX8_type 29 = .ok (.imul, 1) := by decide +kernel
theorem dX8_type_30 : decode cX8_type 30 = .ok (.lshr, 1) := by decide +kernel
theorem dX8_type_31 : decode cX8_type 31 = .ok (.ldc2_w 143, 3) := by decide +kernel
theorem dX8_type_34 : decode cX8_type 34 = .ok (.land, 1) := by decide +kernel
theorem dX8_type_35 : decode cX8_type 35 = .ok (.ldc2_w 145, 3) := by decide +kernel
theorem dX8_type_38 : decode cX8_type 38 = .ok (.ldc2_w 147, 3) := by decide +kernel
theorem dX8_type_41 : decode cX8_type 41 = .ok (.invokestatic 85, 3) := by decide +kernel
theorem dX8_type_44 : decode cX8_type 44 = .ok (.ifCond .ne 5, 3) := by decide +kernel
theorem dX8_type_47 : decode cX8_type 47 = .ok (.iconst (-1), 1) := by decide +kernel
theorem dX8_type_48 : decode cX8_type 48 = .ok (.ireturn, 1) := by decide +kernel
theorem dX8_type_49 : decode cX8_type 49 = .ok (.iinc 4 (-1), 3) := by decide +kernel
theorem dX8_type_52 : decode cX8_type 52 = .ok (.goto (-33), 3) := by decide +kernel
theorem dX8_type_55 : decode cX8_type 55 = .ok (.aload_n 0, 1) := by decide +kernel
theorem dX8_type_56 : decode cX8_type 56 = .ok (.getfield 149, 3) := by decide +kernel
theorem dX8_type_59 : decode cX8_type 59 = .ok (.iload_n 3, 1) := by decide +kernel
theorem dX8_type_60 : decode cX8_type 60 = .ok (.iadd, 1) := by decide +kernel
theorem dX8_type_61 : decode cX8_type 61 = .ok (.bipush 120, 2) := by decide +kernel
theorem dX8_type_63 : decode cX8_type 63 = .ok (.if_icmp .le 6, 3) := by decide +kernel
theorem dX8_type_66 : decode cX8_type 66 = .ok (.bipush (-3), 2) := by decide +kernel
theorem dX8_type_68 : decode cX8_type 68 = .ok (.ireturn, 1) := by decide +kernel
theorem dX8_type_69 : decode cX8_type 69 = .ok (.iload_n 3, 1) := by decide +kernel
theorem dX8_type_70 : decode cX8_type 70 = .ok (.iconst 1, 1) := by decide +kernel
theorem dX8_type_71 : decode cX8_type 71 = .ok (.isub, 1) := by decide +kernel
theorem dX8_type_72 : decode cX8_type 72 = .ok (.istore 4, 2) := by decide +kernel
theorem dX8_type_74 : decode cX8_type 74 = .ok (.iload 4, 2) := by decide +kernel
theorem dX8_type_76 : decode cX8_type 76 = .ok (.ifCond .lt 40, 3) := by decide +kernel
theorem dX8_type_79 : decode cX8_type 79 = .ok (.aload_n 0, 1) := by decide +kernel
theorem dX8_type_80 : decode cX8_type 80 = .ok (.getfield 19, 3) := by decide +kernel
theorem dX8_type_83 : decode cX8_type 83 = .ok (.aload_n 0, 1) := by decide +kernel
theorem dX8_type_84 : decode cX8_type 84 = .ok (.getfield 149, 3) := by decide +kernel
theorem dX8_type_87 : decode cX8_type 87 = .ok (.lload_n 1, 1) := by decide +kernel
theorem dX8_type_88 : decode cX8_type 88 = .ok (.bipush 8, 2) := by decide +kernel
theorem dX8_type_90 : decode cX8_type 90 = .ok (.iload 4, 2) := by decide +kernel
theorem dX8_type_92 : decode cX8_type 92 = .ok (.imul, 1) := by decide +kernel
theorem dX8_type_93 : decode cX8_type 93 = .ok (.lshr, 1) := by decide +kernel
theorem dX8_type_94 : decode cX8_type 94 = .ok (.ldc2_w 143, 3) := by decide +kernel
theorem dX8_type_97 : decode cX8_type 97 = .ok (.land, 1) := by decide +kernel
theorem dX8_type_98 : decode cX8_type 98 = .ok (.l2i, 1) := by decide +kernel
theorem dX8_type_99 : decode cX8_type 99 = .ok (.iastore, 1) := by decide +kernel
theorem dX8_type_100 : decode cX8_type 100 = .ok (.aload_n 0, 1) := by decide +kernel
theorem dX8_type_101 : decode cX8_type 101 = .ok (.dup, 1) := by decide +kernel
theorem dX8_type_102 : decode cX8_type 102 = .ok (.getfield 149, 3) := by decide +kernel
theorem dX8_type_105 : decode cX8_type 105 = .ok (.iconst 1, 1) := by decide +kernel
theorem dX8_type_106 : decode cX8_type 106 = .ok (.iadd, 1) := by decide +kernel
theorem dX8_type_107 : decode cX8_type 107 = .ok (.putfield 149, 3) := by decide +kernel
theorem dX8_type_110 : decode cX8_type 110 = .ok (.iinc 4 (-1), 3) := by decide +kernel
theorem dX8_type_113 : decode cX8_type 113 = .ok (.goto (-39), 3) := by decide +kernel
theorem dX8_type_116 : decode cX8_type 116 = .ok (.aload_n 0, 1) := by decide +kernel
theorem dX8_type_117 : decode cX8_type 117 = .ok (.getfield 149, 3) := by decide +kernel
theorem dX8_type_120 : decode cX8_type 120 = .ok (.ireturn, 1) := by decide +kernel
theorem dX8_nextByte_0 : decode cX8_nextByte 0 = .ok (.aload_n 0, 1) := by decide +kernel
theorem dX8_nextByte_1 : decode cX8_nextByte 1 = .ok (.getfield 152, 3) := by decide +kernel
theorem dX8_nextByte_4 : decode cX8_nextByte 4 = .ok (.aload_n 0, 1) := by decide +kernel
theorem dX8_nextByte_5 : decode cX8_nextByte 5 = .ok (.getfield 149, 3) := by decide +kernel
theorem dX8_nextByte_8 : decode cX8_nextByte 8 = .ok (.if_icmp .ge 30, 3) := by decide +kernel
theorem dX8_nextByte_11 : decode cX8_nextByte 11 = .ok (.aload_n 0, 1) := by decide +kernel
theorem dX8_nextByte_12 : decode cX8_nextByte 12 = .ok (.getfield 19, 3) := by decide +kernel
theorem dX8_nextByte_15 : decode cX8_nextByte 15 = .ok (.aload_n 0, 1) := by decide +kernel
theorem dX8_nextByte_16 : decode cX8_nextByte 16 = .ok (.getfield 152, 3) := by decide +kernel
theorem dX8_nextByte_19 : decode cX8_nextByte 19 = .ok (.iaload, 1) := by decide +kernel
theorem dX8_nextByte_20 : decode cX8_nextByte 20 = .ok (.bipush 32, 2) := by decide +kernel
theorem dX8_nextByte_22 : decode cX8_nextByte 22 = .ok (.if_icmp .ne 16, 3) := by decide +kernel
theorem dX8_nextByte_25 : decode cX8_nextByte 25 = .ok (.aload_n 0, 1) := by decide +kernel
theorem dX8_nextByte_26 : decode cX8_nextByte 26 = .ok (.dup, 1) := by decide +kernel
theorem dX8_nextByte_27 : decode cX8_nextByte 27 = .ok (.getfield 152, 3) := by decide +kernel
theorem dX8_nextByte_30 : decode cX8_nextByte 30 = .ok (.iconst 1, 1) := by decide +kernel
theorem dX8_nextByte_31 : decode cX8_nextByte 31 = .ok (.iadd, 1) := by decide +kernel
theorem dX8_nextByte_32 : decode cX8_nextByte 32 = .ok (.putfield 152, 3) := by decide +kernel
theorem dX8_nextByte_35 : decode cX8_nextByte 35 = .ok (.goto (-35), 3) := by decide +kernel
theorem dX8_nextByte_38 : decode cX8_nextByte 38 = .ok (.aload_n 0, 1) := by decide +kernel
theorem dX8_nextByte_39 : decode cX8_nextByte 39 = .ok (.getfield 152, 3) := by decide +kernel
theorem dX8_nextByte_42 : decode cX8_nextByte 42 = .ok (.aload_n 0, 1) := by decide +kernel
theorem dX8_nextByte_43 : decode cX8_nextByte 43 = .ok (.getfield 149, 3) := by decide +kernel
theorem dX8_nextByte_46 : decode cX8_nextByte 46 = .ok (.if_icmp .ge 15, 3) := by decide +kernel
theorem dX8_nextByte_49 : decode cX8_nextByte 49 = .ok (.aload_n 0, 1) := by decide +kernel
theorem dX8_nextByte_50 : decode cX8_nextByte 50 = .ok (.getfield 19, 3) := by decide +kernel
theorem dX8_nextByte_53 : decode cX8_nextByte 53 = .ok (.aload_n 0, 1) := by decide +kernel
theorem dX8_nextByte_54 : decode cX8_nextByte 54 = .ok (.getfield 152, 3) := by decide +kernel
theorem dX8_nextByte_57 : decode cX8_nextByte 57 = .ok (.iaload, 1) := by decide +kernel
theorem dX8_nextByte_58 : decode cX8_nextByte 58 = .ok (.goto 4, 3) := by decide +kernel
theorem dX8_nextByte_61 : decode cX8_nextByte 61 = .ok (.iconst (-1), 1) := by decide +kernel
theorem dX8_nextByte_62 : decode cX8_nextByte 62 = .ok (.ireturn, 1) := by decide +kernel
theorem dX8_takes_0 : decode cX8_takes 0 = .ok (.aload_n 0, 1) := by decide +kernel
theorem dX8_takes_1 : decode cX8_takes 1 = .ok (.invokevirtual 155, 3) := by decide +kernel
theorem dX8_takes_4 : decode cX8_takes 4 = .ok (.iload_n 1, 1) := by decide +kernel
theorem dX8_takes_5 : decode cX8_takes 5 = .ok (.if_icmp .ne 7, 3) := by decide +kernel
theorem dX8_takes_8 : decode cX8_takes 8 = .ok (.iconst 1, 1) := by decide +kernel
theorem dX8_takes_9 : decode cX8_takes 9 = .ok (.goto 4, 3) := by decide +kernel
theorem dX8_takes_12 : decode cX8_takes 12 = .ok (.iconst 0, 1) := by decide +kernel
theorem dX8_takes_13 : decode cX8_takes 13 = .ok (.istore_n 2, 1) := by decide +kernel
theorem dX8_takes_14 : decode cX8_takes 14 = .ok (.aload_n 0, 1) := by decide +kernel
theorem dX8_takes_15 : decode cX8_takes 15 = .ok (.dup, 1) := by decide +kernel
theorem dX8_takes_16 : decode cX8_takes 16 = .ok (.getfield 152, 3) := by decide +kernel
theorem dX8_takes_19 : decode cX8_takes 19 = .ok (.iload_n 2, 1) := by decide +kernel
theorem dX8_takes_20 : decode cX8_takes 20 = .ok (.ifCond .eq 7, 3) := by decide +kernel
theorem dX8_takes_23 : decode cX8_takes 23 = .ok (.iconst 1, 1) := by decide +kernel
theorem dX8_takes_24 : decode cX8_takes 24 = .ok (.goto 4, 3) := by decide +kernel
theorem dX8_takes_27 : decode cX8_takes 27 = .ok (.iconst 0, 1) := by decide +kernel
theorem dX8_takes_28 : decode cX8_takes 28 = .ok (.iadd, 1) := by decide +kernel
theorem dX8_takes_29 : decode cX8_takes 29 = .ok (.putfield 152, 3) := by decide +kernel
theorem dX8_takes_32 : decode cX8_takes 32 = .ok (.iload_n 2, 1) := by decide +kernel
theorem dX8_takes_33 : decode cX8_takes 33 = .ok (.ireturn, 1) := by decide +kernel
theorem dX8_readNumber_0 : decode cX8_readNumber 0 = .ok (.aload_n 0, 1) := by decide +kernel
theorem dX8_readNumber_1 : decode cX8_readNumber 1 = .ok (.invokevirtual 155, 3) := by decide +kernel
theorem dX8_readNumber_4 : decode cX8_readNumber 4 = .ok (.pop, 1) := by decide +kernel
theorem dX8_readNumber_5 : decode cX8_readNumber 5 = .ok (.aload_n 0, 1) := by decide +kernel
theorem dX8_readNumber_6 : decode cX8_readNumber 6 = .ok (.getfield 152, 3) := by decide +kernel
theorem dX8_readNumber_9 : decode cX8_readNumber 9 = .ok (.istore_n 3, 1) := by decide +kernel
theorem dX8_readNumber_10 : decode cX8_readNumber 10 = .ok (.iconst 0, 1) := by decide +kernel
theorem dX8_readNumber_11 : decode cX8_readNumber 11 = .ok (.istore 4, 2) := by decide +kernel
theorem dX8_readNumber_13 : decode cX8_readNumber 13 = .ok (.aload_n 0, 1) := by decide +kernel
theorem dX8_readNumber_14 : decode cX8_readNumber 14 = .ok (.getfield 152, 3) := by decide +kernel
theorem dX8_readNumber_17 : decode cX8_readNumber 17 = .ok (.aload_n 0, 1) := by decide +kernel
theorem dX8_readNumber_18 : decode cX8_readNumber 18 = .ok (.getfield 149, 3) := by decide +kernel
theorem dX8_readNumber_21 : decode cX8_readNumber 21 = .ok (.if_icmp .ge 71, 3) := by decide +kernel
theorem dX8_readNumber_24 : decode cX8_readNumber 24 = .ok (.aload_n 0, 1) := by decide +kernel
theorem dX8_readNumber_25 : decode cX8_readNumber 25 = .ok (.getfield 19, 3) := by decide +kernel
theorem dX8_readNumber_28 : decode cX8_readNumber 28 = .ok (.aload_n 0, 1) := by decide +kernel
theorem dX8_readNumber_29 : decode cX8_readNumber 29 = .ok (.getfield 152, 3) := by decide +kernel
theorem dX8_readNumber_32 : decode cX8_readNumber 32 = .ok (.iaload, 1) := by decide +kernel
theorem dX8_readNumber_33 : decode cX8_readNumber 33 = .ok (.i2l, 1) := by decide +kernel
theorem dX8_readNumber_34 : decode cX8_readNumber 34 = .ok (.ldc2_w 159, 3) := by decide +kernel
theorem dX8_readNumber_37 : decode cX8_readNumber 37 = .ok (.ldc2_w 161, 3) := by decide +kernel
theorem dX8_readNumber_40 : decode cX8_readNumber 40 = .ok (.invokestatic 85, 3) := by decide +kernel
theorem dX8_readNumber_43 : decode cX8_readNumber 43 = .ok (.ifCond .eq 49, 3) := by decide +kernel
theorem dX8_readNumber_46 : decode cX8_readNumber 46 = .ok (.iload 4, 2) := by decide +kernel
theorem dX8_readNumber_48 : decode cX8_readNumber 48 = .ok (.sipush 999, 3) := by decide +kernel
theorem dX8_readNumber_51 : decode cX8_readNumber 51 = .ok (.if_icmp .le 8, 3) := by decide +kernel
theorem dX8_readNumber_54 : decode cX8_readNumber 54 = .ok (.iload 4, 2) := by decide +kernel
theorem dX8_readNumber_56 : decode cX8_readNumber 56 = .ok (.goto 21, 3) := by decide +kernel
theorem dX8_readNumber_59 : decode cX8_readNumber 59 = .ok (.bipush 10, 2) := by decide +kernel
theorem dX8_readNumber_61 : decode cX8_readNumber 61 = .ok (.iload 4, 2) := by decide +kernel
theorem dX8_readNumber_63 : decode cX8_readNumber 63 = .ok (.imul, 1) := by decide +kernel
theorem dX8_readNumber_64 : decode cX8_readNumber 64 = .ok (.aload_n 0, 1) := by decide +kernel
theorem dX8_readNumber_65 : decode cX8_readNumber 65 = .ok (.getfield 19, 3) := by decide +kernel
theorem dX8_readNumber_68 : decode cX8_readNumber 68 = .ok (.aload_n 0, 1) := by decide +kernel
theorem dX8_readNumber_69 : decode cX8_readNumber 69 = .ok (.getfield 152, 3) := by decide +kernel
theorem dX8_readNumber_72 : decode cX8_readNumber 72 = .ok (.iaload, 1) := by decide +kernel
theorem dX8_readNumber_73 : decode cX8_readNumber 73 = .ok (.iadd, 1) := by decide +kernel
theorem dX8_readNumber_74 : decode cX8_readNumber 74 = .ok (.bipush 48, 2) := by decide +kernel
theorem dX8_readNumber_76 : decode cX8_readNumber 76 = .ok (.isub, 1) := by decide +kernel
theorem dX8_readNumber_77 : decode cX8_readNumber 77 = .ok (.istore 4, 2) := by decide +kernel
theorem dX8_readNumber_79 : decode cX8_readNumber 79 = .ok (.aload_n 0, 1) := by decide +kernel
theorem dX8_readNumber_80 : decode cX8_readNumber 80 = .ok (.dup, 1) := by decide +kernel
theorem dX8_readNumber_81 : decode cX8_readNumber 81 = .ok (.getfield 152, 3) := by decide +kernel
theorem dX8_readNumber_84 : decode cX8_readNumber 84 = .ok (.iconst 1, 1) := by decide +kernel
theorem dX8_readNumber_85 : decode cX8_readNumber 85 = .ok (.iadd, 1) := by decide +kernel
theorem dX8_readNumber_86 : decode cX8_readNumber 86 = .ok (.putfield 152, 3) := by decide +kernel
theorem dX8_readNumber_89 : decode cX8_readNumber 89 = .ok (.goto (-76), 3) := by decide +kernel
theorem dX8_readNumber_92 : decode cX8_readNumber 92 = .ok (.aload_n 0, 1) := by decide +kernel
theorem dX8_readNumber_93 : decode cX8_readNumber 93 = .ok (.getfield 152, 3) := by decide +kernel
theorem dX8_readNumber_96 : decode cX8_readNumber 96 = .ok (.iload_n 3, 1) := by decide +kernel
theorem dX8_readNumber_97 : decode cX8_readNumber 97 = .ok (.if_icmp .ne 5, 3) := by decide +kernel
theorem dX8_readNumber_100 : decode cX8_readNumber 100 = .ok (.iconst (-1), 1) := by decide +kernel
theorem dX8_readNumber_101 : decode cX8_readNumber 101 = .ok (.ireturn, 1) := by decide +kernel
theorem dX8_readNumber_102 : decode cX8_readNumber 102 = .ok (.iload 4, 2) := by decide +kernel
theorem dX8_readNumber_104 : decode cX8_readNumber 104 = .ok (.i2l, 1) := by decide +kernel
theorem dX8_readNumber_105 : decode cX8_readNumber 105 = .ok (.iload_n 1, 1) := by decide +kernel
theorem dX8_readNumber_106 : decode cX8_readNumber 106 = .ok (.i2l, 1) := by decide +kernel
theorem dX8_readNumber_107 : decode cX8_readNumber 107 = .ok (.iload_n 2, 1) := by decide +kernel
theorem dX8_readNumber_108 : decode cX8_readNumber 108 = .ok (.i2l, 1) := by decide +kernel
theorem dX8_readNumber_109 : decode cX8_readNumber 109 = .ok (.invokestatic 85, 3) := by decide +kernel
theorem dX8_readNumber_112 : decode cX8_readNumber 112 = .ok (.ifCond .ne 10, 3) := by decide +kernel
theorem dX8_readNumber_115 : decode cX8_readNumber 115 = .ok (.aload_n 0, 1) := by decide +kernel
theorem dX8_readNumber_116 : decode cX8_readNumber 116 = .ok (.iload_n 3, 1) := by decide +kernel
theorem dX8_readNumber_117 : decode cX8_readNumber 117 = .ok (.putfield 152, 3) := by decide +kernel
theorem dX8_readNumber_120 : decode cX8_readNumber 120 = .ok (.iconst (-1), 1) := by decide +kernel
theorem dX8_readNumber_121 : decode cX8_readNumber 121 = .ok (.ireturn, 1) := by decide +kernel
theorem dX8_readNumber_122 : decode cX8_readNumber 122 = .ok (.iload 4, 2) := by decide +kernel
theorem dX8_readNumber_124 : decode cX8_readNumber 124 = .ok (.ireturn, 1) := by decide +kernel
theorem dX8_readDigit_0 : decode cX8_readDigit 0 = .ok (.aload_n 0, 1) := by decide +kernel
theorem dX8_readDigit_1 : decode cX8_readDigit 1 = .ok (.invokevirtual 155, 3) := by decide +kernel
theorem dX8_readDigit_4 : decode cX8_readDigit 4 = .ok (.bipush 48, 2) := by decide +kernel
theorem dX8_readDigit_6 : decode cX8_readDigit 6 = .ok (.isub, 1) := by decide +kernel
theorem dX8_readDigit_7 : decode cX8_readDigit 7 = .ok (.istore_n 2, 1) := by decide +kernel
theorem dX8_readDigit_8 : decode cX8_readDigit 8 = .ok (.iload_n 2, 1) := by decide +kernel
theorem dX8_readDigit_9 : decode cX8_readDigit 9 = .ok (.i2l, 1) := by decide +kernel
theorem dX8_readDigit_10 : decode cX8_readDigit 10 = .ok (.lconst 0, 1) := by decide +kernel
theorem dX8_readDigit_11 : decode cX8_readDigit 11 = .ok (.iload_n 1, 1) := by decide +kernel
theorem dX8_readDigit_12 : decode cX8_readDigit 12 = .ok (.i2l, 1) := by decide +kernel
theorem dX8_readDigit_13 : decode cX8_readDigit 13 = .ok (.invokestatic 85, 3) := by decide +kernel
theorem dX8_readDigit_16 : decode cX8_readDigit 16 = .ok (.ifCond .ne 5, 3) := by decide +kernel
theorem dX8_readDigit_19 : decode cX8_readDigit 19 = .ok (.iconst (-1), 1) := by decide +kernel
theorem dX8_readDigit_20 : decode cX8_readDigit 20 = .ok (.ireturn, 1) := by decide +kernel
theorem dX8_readDigit_21 : decode cX8_readDigit 21 = .ok (.aload_n 0, 1) := by decide +kernel
theorem dX8_readDigit_22 : decode cX8_readDigit 22 = .ok (.dup, 1) := by decide +kernel
theorem dX8_readDigit_23 : decode cX8_readDigit 23 = .ok (.getfield 152, 3) := by decide +kernel
theorem dX8_readDigit_26 : decode cX8_readDigit 26 = .ok (.iconst 1, 1) := by decide +kernel
theorem dX8_readDigit_27 : decode cX8_readDigit 27 = .ok (.iadd, 1) := by decide +kernel
theorem dX8_readDigit_28 : decode cX8_readDigit 28 = .ok (.putfield 152, 3) := by decide +kernel
theorem dX8_readDigit_31 : decode cX8_readDigit 31 = .ok (.iload_n 2, 1) := by decide +kernel
theorem dX8_readDigit_32 : decode cX8_readDigit 32 = .ok (.ireturn, 1) := by decide +kernel
theorem dX8_readBride_0 : decode cX8_readBride 0 = .ok (.aload_n 0, 1) := by decide +kernel
theorem dX8_readBride_1 : decode cX8_readBride 1 = .ok (.getfield 22, 3) := by decide +kernel
theorem dX8_readBride_4 : decode cX8_readBride 4 = .ok (.iload_n 1, 1) := by decide +kernel
theorem dX8_readBride_5 : decode cX8_readBride 5 = .ok (.aload_n 0, 1) := by decide +kernel
theorem dX8_readBride_6 : decode cX8_readBride 6 = .ok (.bipush 20, 2) := by decide +kernel
theorem dX8_readBride_8 : decode cX8_readBride 8 = .ok (.bipush 60, 2) := by decide +kernel
theorem dX8_readBride_10 : decode cX8_readBride 10 = .ok (.invokevirtual 163, 3) := by decide +kernel
theorem dX8_readBride_13 : decode cX8_readBride 13 = .ok (.iastore, 1) := by decide +kernel
theorem dX8_readBride_14 : decode cX8_readBride 14 = .ok (.aload_n 0, 1) := by decide +kernel
theorem dX8_readBride_15 : decode cX8_readBride 15 = .ok (.getfield 22, 3) := by decide +kernel
theorem dX8_readBride_18 : decode cX8_readBride 18 = .ok (.iload_n 1, 1) := by decide +kernel
theorem dX8_readBride_19 : decode cX8_readBride 19 = .ok (.iaload, 1) := by decide +kernel
theorem dX8_readBride_20 : decode cX8_readBride 20 = .ok (.ifCond .lt 12, 3) := by decide +kernel
theorem dX8_readBride_23 : decode cX8_readBride 23 = .ok (.aload_n 0, 1) := by decide +kernel
theorem dX8_readBride_24 : decode cX8_readBride 24 = .ok (.bipush 47, 2) := by decide +kernel
theorem dX8_readBride_26 : decode cX8_readBride 26 = .ok (.invokevirtual 167, 3) := by decide +kernel
theorem dX8_readBride_29 : decode cX8_readBride 29 = .ok (.ifCond .ne 5, 3) := by decide +kernel
theorem dX8_readBride_32 : decode cX8_readBride 32 = .ok (.iconst 0, 1) := by decide +kernel
theorem dX8_readBride_33 : decode cX8_readBride 33 = .ok (.ireturn, 1) := by decide +kernel
theorem dX8_readBride_34 : decode cX8_readBride 34 = .ok (.aload_n 0, 1) := by decide +kernel
theorem dX8_readBride_35 : decode cX8_readBride 35 = .ok (.getfield 22, 3) := by decide +kernel
theorem dX8_readBride_38 : decode cX8_readBride 38 = .ok (.iload_n 1, 1) := by decide +kernel
theorem dX8_readBride_39 : decode cX8_readBride 39 = .ok (.iconst 1, 1) := by decide +kernel
theorem dX8_readBride_40 : decode cX8_readBride 40 = .ok (.iadd, 1) := by decide +kernel
theorem dX8_readBride_41 : decode cX8_readBride 41 = .ok (.aload_n 0, 1) := by decide +kernel
theorem dX8_readBride_42 : decode cX8_readBride 42 = .ok (.bipush 20, 2) := by decide +kernel
theorem dX8_readBride_44 : decode cX8_readBride 44 = .ok (.bipush 60, 2) := by decide +kernel
theorem dX8_readBride_46 : decode cX8_readBride 46 = .ok (.invokevirtual 163, 3) := by decide +kernel
theorem dX8_readBride_49 : decode cX8_readBride 49 = .ok (.iastore, 1) := by decide +kernel
theorem dX8_readBride_50 : decode cX8_readBride 50 = .ok (.aload_n 0, 1) := by decide +kernel
theorem dX8_readBride_51 : decode cX8_readBride 51 = .ok (.getfield 22, 3) := by decide +kernel
theorem dX8_readBride_54 : decode cX8_readBride 54 = .ok (.iload_n 1, 1) := by decide +kernel
theorem dX8_readBride_55 : decode cX8_readBride 55 = .ok (.iconst 1, 1) := by decide +kernel
theorem dX8_readBride_56 : decode cX8_readBride 56 = .ok (.iadd, 1) := by decide +kernel
theorem dX8_readBride_57 : decode cX8_readBride 57 = .ok (.iaload, 1) := by decide +kernel
theorem dX8_readBride_58 : decode cX8_readBride 58 = .ok (.ifCond .ge 5, 3) := by decide +kernel
theorem dX8_readBride_61 : decode cX8_readBride 61 = .ok (.iconst 0, 1) := by decide +kernel
theorem dX8_readBride_62 : decode cX8_readBride 62 = .ok (.ireturn, 1) := by decide +kernel
theorem dX8_readBride_63 : decode cX8_readBride 63 = .ok (.aload_n 0, 1) := by decide +kernel
theorem dX8_readBride_64 : decode cX8_readBride 64 = .ok (.getfield 22, 3) := by decide +kernel
theorem dX8_readBride_67 : decode cX8_readBride 67 = .ok (.iload_n 1, 1) := by decide +kernel
theorem dX8_readBride_68 : decode cX8_readBride 68 = .ok (.iconst 2, 1) := by decide +kernel
theorem dX8_readBride_69 : decode cX8_readBride 69 = .ok (.iadd, 1) := by decide +kernel
theorem dX8_readBride_70 : decode cX8_readBride 70 = .ok (.aload_n 0, 1) := by decide +kernel
theorem dX8_readBride_71 : decode cX8_readBride 71 = .ok (.bipush 115, 2) := by decide +kernel
theorem dX8_readBride_73 : decode cX8_readBride 73 = .ok (.invokevirtual 167, 3) := by decide +kernel
theorem dX8_readBride_76 : decode cX8_readBride 76 = .ok (.ifCond .eq 11, 3) := by decide +kernel
theorem dX8_readBride_79 : decode cX8_readBride 79 = .ok (.aload_n 0, 1) := by decide +kernel
theorem dX8_readBride_80 : decode cX8_readBride 80 = .ok (.iconst 4, 1) := by decide +kernel
theorem dX8_readBride_81 : decode cX8_readBride 81 = .ok (.invokevirtual 170, 3) := by decide +kernel
theorem dX8_readBride_84 : decode cX8_readBride 84 = .ok (.goto 4, 3) := by decide +kernel
theorem dX8_readBride_87 : decode cX8_readBride 87 = .ok (.iconst 0, 1) := by decide +kernel
theorem dX8_readBride_88 : decode cX8_readBride 88 = .ok (.iastore, 1) := by decide +kernel
theorem dX8_readBride_89 : decode cX8_readBride 89 = .ok (.aload_n 0, 1) := by decide +kernel
theorem dX8_readBride_90 : decode cX8_readBride 90 = .ok (.getfield 22, 3) := by decide +kernel
theorem dX8_readBride_93 : decode cX8_readBride 93 = .ok (.iload_n 1, 1) := by decide +kernel
theorem dX8_readBride_94 : decode cX8_readBride 94 = .ok (.iconst 2, 1) := by decide +kernel
theorem dX8_readBride_95 : decode cX8_readBride 95 = .ok (.iadd, 1) := by decide +kernel
theorem dX8_readBride_96 : decode cX8_readBride 96 = .ok (.iaload, 1) := by decide +kernel
theorem dX8_readBride_97 : decode cX8_readBride 97 = .ok (.ifCond .ge 5, 3) := by decide +kernel
theorem dX8_readBride_100 : decode cX8_readBride 100 = .ok (.iconst 0, 1) := by decide +kernel
theorem dX8_readBride_101 : decode cX8_readBride 101 = .ok (.ireturn, 1) := by decide +kernel
theorem dX8_readBride_102 : decode cX8_readBride 102 = .ok (.aload_n 0, 1) := by decide +kernel
theorem dX8_readBride_103 : decode cX8_readBride 103 = .ok (.getfield 22, 3) := by decide +kernel
theorem dX8_readBride_106 : decode cX8_readBride 106 = .ok (.iload_n 1, 1) := by decide +kernel
theorem dX8_readBride_107 : decode cX8_readBride 107 = .ok (.iconst 3, 1) := by decide +kernel
theorem dX8_readBride_108 : decode cX8_readBride 108 = .ok (.iadd, 1) := by decide +kernel
theorem dX8_readBride_109 : decode cX8_readBride 109 = .ok (.aload_n 0, 1) := by decide +kernel
theorem dX8_readBride_110 : decode cX8_readBride 110 = .ok (.bipush 104, 2) := by decide +kernel
theorem dX8_readBride_112 : decode cX8_readBride 112 = .ok (.invokevirtual 167, 3) := by decide +kernel
theorem dX8_readBride_115 : decode cX8_readBride 115 = .ok (.ifCond .eq 13, 3) := by decide +kernel
theorem dX8_readBride_118 : decode cX8_readBride 118 = .ok (.aload_n 0, 1) := by decide +kernel
theorem dX8_readBride_119 : decode cX8_readBride 119 = .ok (.iconst 0, 1) := by decide +kernel
theorem dX8_readBride_120 : decode cX8_readBride 120 = .ok (.bipush 11, 2) := by decide +kernel
theorem dX8_readBride_122 : decode cX8_readBride 122 = .ok (.invokevirtual 163, 3) := by decide +kernel
theorem dX8_readBride_125 : decode cX8_readBride 125 = .ok (.goto 4, 3) := by decide +kernel
theorem dX8_readBride_128 : decode cX8_readBride 128 = .ok (.iconst 0, 1) := by decide +kernel
theorem dX8_readBride_129 : decode cX8_readBride 129 = .ok (.iastore, 1) := by decide +kernel
theorem dX8_readBride_130 : decode cX8_readBride 130 = .ok (.aload_n 0, 1) := by decide +kernel
theorem dX8_readBride_131 : decode cX8_readBride 131 = .ok (.getfield 22, 3) := by decide +kernel
theorem dX8_readBride_134 : decode cX8_readBride 134 = .ok (.iload_n 1, 1) := by decide +kernel
theorem dX8_readBride_135 : decode cX8_readBride 135 = .ok (.iconst 3, 1) := by decide +kernel
theorem dX8_readBride_136 : decode cX8_readBride 136 = .ok (.iadd, 1) := by decide +kernel
theorem dX8_readBride_137 : decode cX8_readBride 137 = .ok (.iaload, 1) := by decide +kernel
theorem dX8_readBride_138 : decode cX8_readBride 138 = .ok (.ifCond .lt 7, 3) := by decide +kernel
theorem dX8_readBride_141 : decode cX8_readBride 141 = .ok (.iconst 1, 1) := by decide +kernel
theorem dX8_readBride_142 : decode cX8_readBride 142 = .ok (.goto 4, 3) := by decide +kernel
theorem dX8_readBride_145 : decode cX8_readBride 145 = .ok (.iconst 0, 1) := by decide +kernel
theorem dX8_readBride_146 : decode cX8_readBride 146 = .ok (.ireturn, 1) := by decide +kernel
theorem dX8_readShoe_0 : decode cX8_readShoe 0 = .ok (.aload_n 0, 1) := by decide +kernel
theorem dX8_readShoe_1 : decode cX8_readShoe 1 = .ok (.invokevirtual 155, 3) := by decide +kernel
theorem dX8_readShoe_4 : decode cX8_readShoe 4 = .ok (.istore_n 2, 1) := by decide +kernel
theorem dX8_readShoe_5 : decode cX8_readShoe 5 = .ok (.iload_n 2, 1) := by decide +kernel
theorem dX8_readShoe_6 : decode cX8_readShoe 6 = .ok (.bipush 108, 2) := by decide +kernel
theorem dX8_readShoe_8 : decode cX8_readShoe 8 = .ok (.if_icmp .eq 11, 3) := by decide +kernel
theorem dX8_readShoe_11 : decode cX8_readShoe 11 = .ok (.iload_n 2, 1) := by decide +kernel
theorem dX8_readShoe_12 : decode cX8_readShoe 12 = .ok (.bipush 114, 2) := by decide +kernel
theorem dX8_readShoe_14 : decode cX8_readShoe 14 = .ok (.if_icmp .eq 5, 3) := by decide +kernel
theorem dX8_readShoe_17 : decode cX8_readShoe 17 = .ok (.iconst 0, 1) := by decide +kernel
theorem dX8_readShoe_18 : decode cX8_readShoe 18 = .ok (.ireturn, 1) := by decide +kernel
theorem dX8_readShoe_19 : decode cX8_readShoe 19 = .ok (.aload_n 0, 1) := by decide +kernel
theorem dX8_readShoe_20 : decode cX8_readShoe 20 = .ok (.dup, 1) := by decide +kernel
theorem dX8_readShoe_21 : decode cX8_readShoe 21 = .ok (.getfield 152, 3) := by decide +kernel
theorem dX8_readShoe_24 : decode cX8_readShoe 24 = .ok (.iconst 1, 1) := by decide +kernel
theorem dX8_readShoe_25 : decode cX8_readShoe 25 = .ok (.iadd, 1) := by decide +kernel
theorem dX8_readShoe_26 : decode cX8_readShoe 26 = .ok (.putfield 152, 3) := by decide +kernel
theorem dX8_readShoe_29 : decode cX8_readShoe 29 = .ok (.aload_n 0, 1) := by decide +kernel
theorem dX8_readShoe_30 : decode cX8_readShoe 30 = .ok (.getfield 22, 3) := by decide +kernel
theorem dX8_readShoe_33 : decode cX8_readShoe 33 = .ok (.iload_n 1, 1) := by decide +kernel
theorem dX8_readShoe_34 : decode cX8_readShoe 34 = .ok (.iload_n 2, 1) := by decide +kernel
theorem dX8_readShoe_35 : decode cX8_readShoe 35 = .ok (.bipush 108, 2) := by decide +kernel
theorem dX8_readShoe_37 : decode cX8_readShoe 37 = .ok (.if_icmp .ne 7, 3) := by decide +kernel
theorem dX8_readShoe_40 : decode cX8_readShoe 40 = .ok (.iconst 0, 1) := by decide +kernel
theorem dX8_readShoe_41 : decode cX8_readShoe 41 = .ok (.goto 4, 3) := by decide +kernel
theorem dX8_readShoe_44 : decode cX8_readShoe 44 = .ok (.iconst 1, 1) := by decide +kernel
theorem dX8_readShoe_45 : decode cX8_readShoe 45 = .ok (.iastore, 1) := by decide +kernel
theorem dX8_readShoe_46 : decode cX8_readShoe 46 = .ok (.aload_n 0, 1) := by decide +kernel
theorem dX8_readShoe_47 : decode cX8_readShoe 47 = .ok (.getfield 22, 3) := by decide +kernel
theorem dX8_readShoe_50 : decode cX8_readShoe 50 = .ok (.iload_n 1, 1) := by decide +kernel
theorem dX8_readShoe_51 : decode cX8_readShoe 51 = .ok (.iconst 1, 1) := by decide +kernel
theorem dX8_readShoe_52 : decode cX8_readShoe 52 = .ok (.iadd, 1) := by decide +kernel
theorem dX8_readShoe_53 : decode cX8_readShoe 53 = .ok (.aload_n 0, 1) := by decide +kernel
theorem dX8_readShoe_54 : decode cX8_readShoe 54 = .ok (.bipush 20, 2) := by decide +kernel
theorem dX8_readShoe_56 : decode cX8_readShoe 56 = .ok (.bipush 70, 2) := by decide +kernel
theorem dX8_readShoe_58 : decode cX8_readShoe 58 = .ok (.invokevirtual 163, 3) := by decide +kernel
theorem dX8_readShoe_61 : decode cX8_readShoe 61 = .ok (.iastore, 1) := by decide +kernel
theorem dX8_readShoe_62 : decode cX8_readShoe 62 = .ok (.aload_n 0, 1) := by decide +kernel
theorem dX8_readShoe_63 : decode cX8_readShoe 63 = .ok (.getfield 22, 3) := by decide +kernel
theorem dX8_readShoe_66 : decode cX8_readShoe 66 = .ok (.iload_n 1, 1) := by decide +kernel
theorem dX8_readShoe_67 : decode cX8_readShoe 67 = .ok (.iconst 2, 1) := by decide +kernel
theorem dX8_readShoe_68 : decode cX8_readShoe 68 = .ok (.iadd, 1) := by decide +kernel
theorem dX8_readShoe_69 : decode cX8_readShoe 69 = .ok (.aload_n 0, 1) := by decide +kernel
theorem dX8_readShoe_70 : decode cX8_readShoe 70 = .ok (.getfield 22, 3) := by decide +kernel
theorem dX8_readShoe_73 : decode cX8_readShoe 73 = .ok (.iload_n 1, 1) := by decide +kernel
theorem dX8_readShoe_74 : decode cX8_readShoe 74 = .ok (.iconst 1, 1) := by decide +kernel
theorem dX8_readShoe_75 : decode cX8_readShoe 75 = .ok (.iadd, 1) := by decide +kernel
theorem dX8_readShoe_76 : decode cX8_readShoe 76 = .ok (.iaload, 1) := by decide +kernel
theorem dX8_readShoe_77 : decode cX8_readShoe 77 = .ok (.ifCond .ge 7, 3) := by decide +kernel
theorem dX8_readShoe_80 : decode cX8_readShoe 80 = .ok (.iconst 0, 1) := by decide +kernel
theorem dX8_readShoe_81 : decode cX8_readShoe 81 = .ok (.goto 43, 3) := by decide +kernel
theorem dX8_readShoe_84 : decode cX8_readShoe 84 = .ok (.aload_n 0, 1) := by decide +kernel
theorem dX8_readShoe_85 : decode cX8_readShoe 85 = .ok (.bipush 103, 2) := by decide +kernel
theorem dX8_readShoe_87 : decode cX8_readShoe 87 = .ok (.invokevirtual 167, 3) := by decide +kernel
theorem dX8_readShoe_90 : decode cX8_readShoe 90 = .ok (.ifCond .eq 7, 3) := by decide +kernel
theorem dX8_readShoe_93 : decode cX8_readShoe 93 = .ok (.iconst 1, 1) := by decide +kernel
theorem dX8_readShoe_94 : decode cX8_readShoe 94 = .ok (.goto 30, 3) := by decide +kernel
theorem dX8_readShoe_97 : decode cX8_readShoe 97 = .ok (.aload_n 0, 1) := by decide +kernel
theorem dX8_readShoe_98 : decode cX8_readShoe 98 = .ok (.bipush 118, 2) := by decide +kernel
theorem dX8_readShoe_100 : decode cX8_readShoe 100 = .ok (.invokevirtual 167, 3) := by decide +kernel
theorem dX8_readShoe_103 : decode cX8_readShoe 103 = .ok (.ifCond .eq 7, 3) := by decide +kernel
theorem dX8_readShoe_106 : decode cX8_readShoe 106 = .ok (.iconst 2, 1) := by decide +kernel
theorem dX8_readShoe_107 : decode cX8_readShoe 107 = .ok (.goto 17, 3) := by decide +kernel
theorem dX8_readShoe_110 : decode cX8_readShoe 110 = .ok (.aload_n 0, 1) := by decide +kernel
theorem dX8_readShoe_111 : decode cX8_readShoe 111 = .ok (.bipush 112, 2) := by decide +kernel
theorem dX8_readShoe_113 : decode cX8_readShoe 113 = .ok (.invokevirtual 167, 3) := by decide +kernel
theorem dX8_readShoe_116 : decode cX8_readShoe 116 = .ok (.ifCond .eq 7, 3) := by decide +kernel
theorem dX8_readShoe_119 : decode cX8_readShoe 119 = .ok (.iconst 3, 1) := by decide +kernel
theorem dX8_readShoe_120 : decode cX8_readShoe 120 = .ok (.goto 4, 3) := by decide +kernel
theorem dX8_readShoe_123 : decode cX8_readShoe 123 = .ok (.iconst 0, 1) := by decide +kernel
theorem dX8_readShoe_124 : decode cX8_readShoe 124 = .ok (.iastore, 1) := by decide +kernel
theorem dX8_readShoe_125 : decode cX8_readShoe 125 = .ok (.aload_n 0, 1) := by decide +kernel
theorem dX8_readShoe_126 : decode cX8_readShoe 126 = .ok (.getfield 22, 3) := by decide +kernel
theorem dX8_readShoe_129 : decode cX8_readShoe 129 = .ok (.iload_n 1, 1) := by decide +kernel
theorem dX8_readShoe_130 : decode cX8_readShoe 130 = .ok (.iconst 1, 1) := by decide +kernel
theorem dX8_readShoe_131 : decode cX8_readShoe 131 = .ok (.iadd, 1) := by decide +kernel
theorem dX8_readShoe_132 : decode cX8_readShoe 132 = .ok (.iaload, 1) := by decide +kernel
theorem dX8_readShoe_133 : decode cX8_readShoe 133 = .ok (.ifCond .lt 7, 3) := by decide +kernel
theorem dX8_readShoe_136 : decode cX8_readShoe 136 = .ok (.iconst 1, 1) := by decide +kernel
theorem dX8_readShoe_137 : decode cX8_readShoe 137 = .ok (.goto 4, 3) := by decide +kernel
theorem dX8_readShoe_140 : decode cX8_readShoe 140 = .ok (.iconst 0, 1) := by decide +kernel
theorem dX8_readShoe_141 : decode cX8_readShoe 141 = .ok (.ireturn, 1) := by decide +kernel
theorem dX8_readAll_0 : decode cX8_readAll 0 = .ok (.aload_n 0, 1) := by decide +kernel
theorem dX8_readAll_1 : decode cX8_readAll 1 = .ok (.iconst 0, 1) := by decide +kernel
theorem dX8_readAll_2 : decode cX8_readAll 2 = .ok (.putfield 152, 3) := by decide +kernel
theorem dX8_readAll_5 : decode cX8_readAll 5 = .ok (.iload_n 1, 1) := by decide +kernel
theorem dX8_readAll_6 : decode cX8_readAll 6 = .ok (.ifCond .eq 8, 3) := by decide +kernel
theorem dX8_readAll_9 : decode cX8_readAll 9 = .ok (.bipush 7, 2) := by decide +kernel
theorem dX8_readAll_11 : decode cX8_readAll 11 = .ok (.goto 5, 3) := by decide +kernel
theorem dX8_readAll_14 : decode cX8_readAll 14 = .ok (.bipush 16, 2) := by decide +kernel
theorem dX8_readAll_16 : decode cX8_readAll 16 = .ok (.istore_n 2, 1) := by decide +kernel
theorem dX8_readAll_17 : decode cX8_readAll 17 = .ok (.iconst 0, 1) := by decide +kernel
theorem dX8_readAll_18 : decode cX8_readAll 18 = .ok (.istore_n 3, 1) := by decide +kernel
theorem dX8_readAll_19 : decode cX8_readAll 19 = .ok (.iload_n 3, 1) := by decide +kernel
theorem dX8_readAll_20 : decode cX8_readAll 20 = .ok (.iload_n 2, 1) := by decide +kernel
theorem dX8_readAll_21 : decode cX8_readAll 21 = .ok (.if_icmp .ge 84, 3) := by decide +kernel
theorem dX8_readAll_24 : decode cX8_readAll 24 = .ok (.iload_n 1, 1) := by decide +kernel
theorem dX8_readAll_25 : decode cX8_readAll 25 = .ok (.ifCond .eq 16, 3) := by decide +kernel
theorem dX8_readAll_28 : decode cX8_readAll 28 = .ok (.aload_n 0, 1) := by decide +kernel
theorem dX8_readAll_29 : decode cX8_readAll 29 = .ok (.iconst 4, 1) := by decide +kernel
theorem dX8_readAll_30 : decode cX8_readAll 30 = .ok (.iload_n 3, 1) := by decide +kernel
theorem dX8_readAll_31 : decode cX8_readAll 31 = .ok (.imul, 1) := by decide +kernel
theorem dX8_readAll_32 : decode cX8_readAll 32 = .ok (.invokevirtual 173, 3) := by decide +kernel
theorem dX8_readAll_35 : decode cX8_readAll 35 = .ok (.ifCond .eq 16, 3) := by decide +kernel
theorem dX8_readAll_38 : decode cX8_readAll 38 = .ok (.goto 15, 3) := by decide +kernel
theorem dX8_readAll_41 : decode cX8_readAll 41 = .ok (.aload_n 0, 1) := by decide +kernel
theorem dX8_readAll_42 : decode cX8_readAll 42 = .ok (.iconst 4, 1) := by decide +kernel
theorem dX8_readAll_43 : decode cX8_readAll 43 = .ok (.iload_n 3, 1) := by decide +kernel
theorem dX8_readAll_44 : decode cX8_readAll 44 = .ok (.imul, 1) := by decide +kernel
theorem dX8_readAll_45 : decode cX8_readAll 45 = .ok (.invokevirtual 176, 3) := by decide +kernel
theorem dX8_readAll_48 : decode cX8_readAll 48 = .ok (.ifCond .ne 5, 3) := by decide +kernel
theorem dX8_readAll_51 : decode cX8_readAll 51 = .ok (.iconst 0, 1) := by decide +kernel
theorem dX8_readAll_52 : decode cX8_readAll 52 = .ok (.ireturn, 1) := by decide +kernel
theorem dX8_readAll_53 : decode cX8_readAll 53 = .ok (.aload_n 0, 1) := by decide +kernel
theorem dX8_readAll_54 : decode cX8_readAll 54 = .ok (.iload_n 3, 1) := by decide +kernel
theorem dX8_readAll_55 : decode cX8_readAll 55 = .ok (.iconst 1, 1) := by decide +kernel
theorem dX8_readAll_56 : decode cX8_readAll 56 = .ok (.iadd, 1) := by decide +kernel
theorem dX8_readAll_57 : decode cX8_readAll 57 = .ok (.putfield 179, 3) := by decide +kernel
theorem dX8_readAll_60 : decode cX8_readAll 60 = .ok (.aload_n 0, 1) := by decide +kernel
theorem dX8_readAll_61 : decode cX8_readAll 61 = .ok (.invokevirtual 155, 3) := by decide +kernel
theorem dX8_readAll_64 : decode cX8_readAll 64 = .ok (.istore 4, 2) := by decide +kernel
theorem dX8_readAll_66 : decode cX8_readAll 66 = .ok (.iload 4, 2) := by decide +kernel
theorem dX8_readAll_68 : decode cX8_readAll 68 = .ok (.ifCond .ge 5, 3) := by decide +kernel
theorem dX8_readAll_71 : decode cX8_readAll 71 = .ok (.iconst 1, 1) := by decide +kernel
theorem dX8_readAll_72 : decode cX8_readAll 72 = .ok (.ireturn, 1) := by decide +kernel
theorem dX8_readAll_73 : decode cX8_readAll 73 = .ok (.iload 4, 2) := by decide +kernel
theorem dX8_readAll_75 : decode cX8_readAll 75 = .ok (.bipush 44, 2) := by decide +kernel
theorem dX8_readAll_77 : decode cX8_readAll 77 = .ok (.if_icmp .ne 10, 3) := by decide +kernel
theorem dX8_readAll_80 : decode cX8_readAll 80 = .ok (.iload_n 3, 1) := by decide +kernel
theorem dX8_readAll_81 : decode cX8_readAll 81 = .ok (.iload_n 2, 1) := by decide +kernel
theorem dX8_readAll_82 : decode cX8_readAll 82 = .ok (.iconst 1, 1) := by decide +kernel
theorem dX8_readAll_83 : decode cX8_readAll 83 = .ok (.isub, 1) := by decide +kernel
theorem dX8_readAll_84 : decode cX8_readAll 84 = .ok (.if_icmp .ne 5, 3) := by decide +kernel
theorem dX8_readAll_87 : decode cX8_readAll 87 = .ok (.iconst 0, 1) := by decide +kernel
theorem dX8_readAll_88 : decode cX8_readAll 88 = .ok (.ireturn, 1) := by decide +kernel
theorem dX8_readAll_89 : decode cX8_readAll 89 = .ok (.aload_n 0, 1) := by decide +kernel
theorem dX8_readAll_90 : decode cX8_readAll 90 = .ok (.dup, 1) := by decide +kernel
theorem dX8_readAll_91 : decode cX8_readAll 91 = .ok (.getfield 152, 3) := by decide +kernel
theorem dX8_readAll_94 : decode cX8_readAll 94 = .ok (.iconst 1, 1) := by decide +kernel
theorem dX8_readAll_95 : decode cX8_readAll 95 = .ok (.iadd, 1) := by decide +kernel
theorem dX8_readAll_96 : decode cX8_readAll 96 = .ok (.putfield 152, 3) := by decide +kernel
theorem dX8_readAll_99 : decode cX8_readAll 99 = .ok (.iinc 3 1, 3) := by decide +kernel
theorem dX8_readAll_102 : decode cX8_readAll 102 = .ok (.goto (-83), 3) := by decide +kernel
theorem dX8_readAll_105 : decode cX8_readAll 105 = .ok (.iconst 0, 1) := by decide +kernel
theorem dX8_readAll_106 : decode cX8_readAll 106 = .ok (.ireturn, 1) := by decide +kernel
theorem dX8_brides_0 : decode cX8_brides 0 = .ok (.aload_n 0, 1) := by decide +kernel
theorem dX8_brides_1 : decode cX8_brides 1 = .ok (.iconst 1, 1) := by decide +kernel
theorem dX8_brides_2 : decode cX8_brides 2 = .ok (.invokevirtual 182, 3) := by decide +kernel
theorem dX8_brides_5 : decode cX8_brides 5 = .ok (.istore_n 1, 1) := by decide +kernel
theorem dX8_brides_6 : decode cX8_brides 6 = .ok (.iload_n 1, 1) := by decide +kernel
theorem dX8_brides_7 : decode cX8_brides 7 = .ok (.ifCond .ne 8, 3) := by decide +kernel
theorem dX8_brides_10 : decode cX8_brides 10 = .ok (.aload_n 0, 1) := by decide +kernel
theorem dX8_brides_11 : decode cX8_brides 11 = .ok (.invokevirtual 155, 3) := by decide +kernel
theorem dX8_brides_14 : decode cX8_brides 14 = .ok (.pop, 1) := by decide +kernel
theorem dX8_brides_15 : decode cX8_brides 15 = .ok (.aload_n 0, 1) := by decide +kernel
theorem dX8_brides_16 : decode cX8_brides 16 = .ok (.iconst 0, 1) := by decide +kernel
theorem dX8_brides_17 : decode cX8_brides 17 = .ok (.putfield 149, 3) := by decide +kernel
theorem dX8_brides_20 : decode cX8_brides 20 = .ok (.iload_n 1, 1) := by decide +kernel
theorem dX8_brides_21 : decode cX8_brides 21 = .ok (.ifCond .ne 11, 3) := by decide +kernel
theorem dX8_brides_24 : decode cX8_brides 24 = .ok (.bipush (-20), 2) := by decide +kernel
theorem dX8_brides_26 : decode cX8_brides 26 = .ok (.aload_n 0, 1) := by decide +kernel
theorem dX8_brides_27 : decode cX8_brides 27 = .ok (.getfield 152, 3) := by decide +kernel
theorem dX8_brides_30 : decode cX8_brides 30 = .ok (.isub, 1) := by decide +kernel
theorem dX8_brides_31 : decode cX8_brides 31 = .ok (.ireturn, 1) := by decide +kernel
theorem dX8_brides_32 : decode cX8_brides 32 = .ok (.aload_n 0, 1) := by decide +kernel
theorem dX8_brides_33 : decode cX8_brides 33 = .ok (.aload_n 0, 1) := by decide +kernel
theorem dX8_brides_34 : decode cX8_brides 34 = .ok (.getfield 179, 3) := by decide +kernel
theorem dX8_brides_37 : decode cX8_brides 37 = .ok (.putfield 81, 3) := by decide +kernel
theorem dX8_brides_40 : decode cX8_brides 40 = .ok (.iconst 0, 1) := by decide +kernel
theorem dX8_brides_41 : decode cX8_brides 41 = .ok (.istore_n 2, 1) := by decide +kernel
theorem dX8_brides_42 : decode cX8_brides 42 = .ok (.iload_n 2, 1) := by decide +kernel
theorem dX8_brides_43 : decode cX8_brides 43 = .ok (.iconst 4, 1) := by decide +kernel
theorem dX8_brides_44 : decode cX8_brides 44 = .ok (.aload_n 0, 1) := by decide +kernel
theorem dX8_brides_45 : decode cX8_brides 45 = .ok (.getfield 81, 3) := by decide +kernel
theorem dX8_brides_48 : decode cX8_brides 48 = .ok (.imul, 1) := by decide +kernel
theorem dX8_brides_49 : decode cX8_brides 49 = .ok (.if_icmp .ge 21, 3) := by decide +kernel
theorem dX8_brides_52 : decode cX8_brides 52 = .ok (.aload_n 0, 1) := by decide +kernel
theorem dX8_brides_53 : decode cX8_brides 53 = .ok (.getfield 7, 3) := by decide +kernel
theorem dX8_brides_56 : decode cX8_brides 56 = .ok (.iload_n 2, 1) := by decide +kernel
theorem dX8_brides_57 : decode cX8_brides 57 = .ok (.aload_n 0, 1) := by decide +kernel
theorem dX8_brides_58 : decode cX8_brides 58 = .ok (.getfield 22, 3) := by decide +kernel
theorem dX8_brides_61 : decode cX8_brides 61 = .ok (.iload_n 2, 1) := by decide +kernel
theorem dX8_brides_62 : decode cX8_brides 62 = .ok (.iaload, 1) := by decide +kernel
theorem dX8_brides_63 : decode cX8_brides 63 = .ok (.iastore, 1) := by decide +kernel
theorem dX8_brides_64 : decode cX8_brides 64 = .ok (.iinc 2 1, 3) := by decide +kernel
theorem dX8_brides_67 : decode cX8_brides 67 = .ok (.goto (-25), 3) := by decide +kernel
theorem dX8_brides_70 : decode cX8_brides 70 = .ok (.aload_n 0, 1) := by decide +kernel
theorem dX8_brides_71 : decode cX8_brides 71 = .ok (.getfield 81, 3) := by decide +kernel
theorem dX8_brides_74 : decode cX8_brides 74 = .ok (.ireturn, 1) := by decide +kernel
theorem dX8_heap_0 : decode cX8_heap 0 = .ok (.aload_n 0, 1) := by decide +kernel
theorem dX8_heap_1 : decode cX8_heap 1 = .ok (.iconst 0, 1) := by decide +kernel
theorem dX8_heap_2 : decode cX8_heap 2 = .ok (.invokevirtual 182, 3) := by decide +kernel
theorem dX8_heap_5 : decode cX8_heap 5 = .ok (.istore_n 1, 1) := by decide +kernel
theorem dX8_heap_6 : decode cX8_heap 6 = .ok (.iload_n 1, 1) := by decide +kernel
theorem dX8_heap_7 : decode cX8_heap 7 = .ok (.ifCond .ne 8, 3) := by decide +kernel
theorem dX8_heap_10 : decode cX8_heap 10 = .ok (.aload_n 0, 1) := by decide +kernel
theorem dX8_heap_11 : decode cX8_heap 11 = .ok (.invokevirtual 155, 3) := by decide +kernel
theorem dX8_heap_14 : decode cX8_heap 14 = .ok (.pop, 1) := by decide +kernel
theorem dX8_heap_15 : decode cX8_heap 15 = .ok (.aload_n 0, 1) := by decide +kernel
theorem dX8_heap_16 : decode cX8_heap 16 = .ok (.iconst 0, 1) := by decide +kernel
theorem dX8_heap_17 : decode cX8_heap 17 = .ok (.putfield 149, 3) := by decide +kernel
theorem dX8_heap_20 : decode cX8_heap 20 = .ok (.iload_n 1, 1) := by decide +kernel
theorem dX8_heap_21 : decode cX8_heap 21 = .ok (.ifCond .ne 11, 3) := by decide +kernel
theorem dX8_heap_24 : decode cX8_heap 24 = .ok (.bipush (-20), 2) := by decide +kernel
theorem dX8_heap_26 : decode cX8_heap 26 = .ok (.aload_n 0, 1) := by decide +kernel
theorem dX8_heap_27 : decode cX8_heap 27 = .ok (.getfield 152, 3) := by decide +kernel
theorem dX8_heap_30 : decode cX8_heap 30 = .ok (.isub, 1) := by decide +kernel
theorem dX8_heap_31 : decode cX8_heap 31 = .ok (.ireturn, 1) := by decide +kernel
theorem dX8_heap_32 : decode cX8_heap 32 = .ok (.aload_n 0, 1) := by decide +kernel
theorem dX8_heap_33 : decode cX8_heap 33 = .ok (.iconst 0, 1) := by decide +kernel
theorem dX8_heap_34 : decode cX8_heap 34 = .ok (.putfield 89, 3) := by decide +kernel
theorem dX8_heap_37 : decode cX8_heap 37 = .ok (.iconst 0, 1) := by decide +kernel
theorem dX8_heap_38 : decode cX8_heap 38 = .ok (.istore_n 2, 1) := by decide +kernel
theorem dX8_heap_39 : decode cX8_heap 39 = .ok (.iload_n 2, 1) := by decide +kernel
theorem dX8_heap_40 : decode cX8_heap 40 = .ok (.aload_n 0, 1) := by decide +kernel
theorem dX8_heap_41 : decode cX8_heap 41 = .ok (.getfield 179, 3) := by decide +kernel
theorem dX8_heap_44 : decode cX8_heap 44 = .ok (.if_icmp .ge 41, 3) := by decide +kernel
theorem dX8_heap_47 : decode cX8_heap 47 = .ok (.aload_n 0, 1) := by decide +kernel
theorem dX8_heap_48 : decode cX8_heap 48 = .ok (.aload_n 0, 1) := by decide +kernel
theorem dX8_heap_49 : decode cX8_heap 49 = .ok (.getfield 22, 3) := by decide +kernel
theorem dX8_heap_52 : decode cX8_heap 52 = .ok (.iconst 4, 1) := by decide +kernel
theorem dX8_heap_53 : decode cX8_heap 53 = .ok (.iload_n 2, 1) := by decide +kernel
theorem dX8_heap_54 : decode cX8_heap 54 = .ok (.imul, 1) := by decide +kernel
theorem dX8_heap_55 : decode cX8_heap 55 = .ok (.iaload, 1) := by decide +kernel
theorem dX8_heap_56 : decode cX8_heap 56 = .ok (.aload_n 0, 1) := by decide +kernel
theorem dX8_heap_57 : decode cX8_heap 57 = .ok (.getfield 22, 3) := by decide +kernel
theorem dX8_heap_60 : decode cX8_heap 60 = .ok (.iconst 4, 1) := by decide +kernel
theorem dX8_heap_61 : decode cX8_heap 61 = .ok (.iload_n 2, 1) := by decide +kernel
theorem dX8_heap_62 : decode cX8_heap 62 = .ok (.imul, 1) := by decide +kernel
theorem dX8_heap_63 : decode cX8_heap 63 = .ok (.iconst 1, 1) := by decide +kernel
theorem dX8_heap_64 : decode cX8_heap 64 = .ok (.iadd, 1) := by decide +kernel
theorem dX8_heap_65 : decode cX8_heap 65 = .ok (.iaload, 1) := by decide +kernel
theorem dX8_heap_66 : decode cX8_heap 66 = .ok (.aload_n 0, 1) := by decide +kernel
theorem dX8_heap_67 : decode cX8_heap 67 = .ok (.getfield 22, 3) := by decide +kernel
theorem dX8_heap_70 : decode cX8_heap 70 = .ok (.iconst 4, 1) := by decide +kernel
theorem dX8_heap_71 : decode cX8_heap 71 = .ok (.iload_n 2, 1) := by decide +kernel
theorem dX8_heap_72 : decode cX8_heap 72 = .ok (.imul, 1) := by decide +kernel
theorem dX8_heap_73 : decode cX8_heap 73 = .ok (.iconst 2, 1) := by decide +kernel
theorem dX8_heap_74 : decode cX8_heap 74 = .ok (.iadd, 1) := by decide +kernel
theorem dX8_heap_75 : decode cX8_heap 75 = .ok (.iaload, 1) := by decide +kernel
theorem dX8_heap_76 : decode cX8_heap 76 = .ok (.invokevirtual 112, 3) := by decide +kernel
theorem dX8_heap_79 : decode cX8_heap 79 = .ok (.iinc 2 1, 3) := by decide +kernel
theorem dX8_heap_82 : decode cX8_heap 82 = .ok (.goto (-43), 3) := by decide +kernel
theorem dX8_heap_85 : decode cX8_heap 85 = .ok (.aload_n 0, 1) := by decide +kernel
theorem dX8_heap_86 : decode cX8_heap 86 = .ok (.getfield 89, 3) := by decide +kernel
theorem dX8_heap_89 : decode cX8_heap 89 = .ok (.ireturn, 1) := by decide +kernel
theorem dX8_findSide_0 : decode cX8_findSide 0 = .ok (.aload_n 0, 1) := by decide +kernel
theorem dX8_findSide_1 : decode cX8_findSide 1 = .ok (.iconst 0, 1) := by decide +kernel
theorem dX8_findSide_2 : decode cX8_findSide 2 = .ok (.putfield 186, 3) := by decide +kernel
theorem dX8_findSide_5 : decode cX8_findSide 5 = .ok (.iconst 0, 1) := by decide +kernel
theorem dX8_findSide_6 : decode cX8_findSide 6 = .ok (.istore_n 2, 1) := by decide +kernel
theorem dX8_findSide_7 : decode cX8_findSide 7 = .ok (.iload_n 2, 1) := by decide +kernel
theorem dX8_findSide_8 : decode cX8_findSide 8 = .ok (.aload_n 0, 1) := by decide +kernel
theorem dX8_findSide_9 : decode cX8_findSide 9 = .ok (.getfield 89, 3) := by decide +kernel
theorem dX8_findSide_12 : decode cX8_findSide 12 = .ok (.if_icmp .ge 54, 3) := by decide +kernel
theorem dX8_findSide_15 : decode cX8_findSide 15 = .ok (.aload_n 0, 1) := by decide +kernel
theorem dX8_findSide_16 : decode cX8_findSide 16 = .ok (.getfield 13, 3) := by decide +kernel
theorem dX8_findSide_19 : decode cX8_findSide 19 = .ok (.iconst 4, 1) := by decide +kernel
theorem dX8_findSide_20 : decode cX8_findSide 20 = .ok (.iload_n 2, 1) := by decide +kernel
theorem dX8_findSide_21 : decode cX8_findSide 21 = .ok (.imul, 1) := by decide +kernel
theorem dX8_findSide_22 : decode cX8_findSide 22 = .ok (.iaload, 1) := by decide +kernel
theorem dX8_findSide_23 : decode cX8_findSide 23 = .ok (.iload_n 1, 1) := by decide +kernel
theorem dX8_findSide_24 : decode cX8_findSide 24 = .ok (.if_icmp .ne 36, 3) := by decide +kernel
theorem dX8_findSide_27 : decode cX8_findSide 27 = .ok (.aload_n 0, 1) := by decide +kernel
theorem dX8_findSide_28 : decode cX8_findSide 28 = .ok (.getfield 13, 3) := by decide +kernel
theorem dX8_findSide_31 : decode cX8_findSide 31 = .ok (.iconst 4, 1) := by decide +kernel
theorem dX8_findSide_32 : decode cX8_findSide 32 = .ok (.iload_n 2, 1) := by decide +kernel
theorem dX8_findSide_33 : decode cX8_findSide 33 = .ok (.imul, 1) := by decide +kernel
theorem dX8_findSide_34 : decode cX8_findSide 34 = .ok (.iconst 3, 1) := by decide +kernel
theorem dX8_findSide_35 : decode cX8_findSide 35 = .ok (.iadd, 1) := by decide +kernel
theorem dX8_findSide_36 : decode cX8_findSide 36 = .ok (.iaload, 1) := by decide +kernel
theorem dX8_findSide_37 : decode cX8_findSide 37 = .ok (.ifCond .ne 23, 3) := by decide +kernel
theorem dX8_findSide_40 : decode cX8_findSide 40 = .ok (.aload_n 0, 1) := by decide +kernel
theorem dX8_findSide_41 : decode cX8_findSide 41 = .ok (.getfield 25, 3) := by decide +kernel
theorem dX8_findSide_44 : decode cX8_findSide 44 = .ok (.aload_n 0, 1) := by decide +kernel
theorem dX8_findSide_45 : decode cX8_findSide 45 = .ok (.getfield 186, 3) := by decide +kernel
theorem dX8_findSide_48 : decode cX8_findSide 48 = .ok (.iload_n 2, 1) := by decide +kernel
theorem dX8_findSide_49 : decode cX8_findSide 49 = .ok (.iastore, 1) := by decide +kernel
theorem dX8_findSide_50 : decode cX8_findSide 50 = .ok (.aload_n 0, 1) := by decide +kernel
theorem dX8_findSide_51 : decode cX8_findSide 51 = .ok (.dup, 1) := by decide +kernel
theorem dX8_findSide_52 : decode cX8_findSide 52 = .ok (.getfield 186, 3) := by decide +kernel
theorem dX8_findSide_55 : decode cX8_findSide 55 = .ok (.iconst 1, 1) := by decide +kernel
theorem dX8_findSide_56 : decode cX8_findSide 56 = .ok (.iadd, 1) := by decide +kernel
theorem dX8_findSide_57 : decode cX8_findSide 57 = .ok (.putfield 186, 3) := by decide +kernel
theorem dX8_findSide_60 : decode cX8_findSide 60 = .ok (.iinc 2 1, 3) := by decide +kernel
theorem dX8_findSide_63 : decode cX8_findSide 63 = .ok (.goto (-56), 3) := by decide +kernel
theorem dX8_findSide_66 : decode cX8_findSide 66 = .ok (.iconst 0, 1) := by decide +kernel
theorem dX8_findSide_67 : decode cX8_findSide 67 = .ok (.istore_n 2, 1) := by decide +kernel
theorem dX8_findSide_68 : decode cX8_findSide 68 = .ok (.iload_n 2, 1) := by decide +kernel
theorem dX8_findSide_69 : decode cX8_findSide 69 = .ok (.aload_n 0, 1) := by decide +kernel
theorem dX8_findSide_70 : decode cX8_findSide 70 = .ok (.getfield 81, 3) := by decide +kernel
theorem dX8_findSide_73 : decode cX8_findSide 73 = .ok (.if_icmp .ge 57, 3) := by decide +kernel
theorem dX8_findSide_76 : decode cX8_findSide 76 = .ok (.iconst 0, 1) := by decide +kernel
theorem dX8_findSide_77 : decode cX8_findSide 77 = .ok (.istore_n 3, 1) := by decide +kernel
theorem dX8_findSide_78 : decode cX8_findSide 78 = .ok (.iload_n 3, 1) := by decide +kernel
theorem dX8_findSide_79 : decode cX8_findSide 79 = .ok (.aload_n 0, 1) := by decide +kernel
theorem dX8_findSide_80 : decode cX8_findSide 80 = .ok (.getfield 186, 3) := by decide +kernel
theorem dX8_findSide_83 : decode cX8_findSide 83 = .ok (.if_icmp .ge 41, 3) := by decide +kernel
theorem dX8_findSide_86 : decode cX8_findSide 86 = .ok (.aload_n 0, 1) := by decide +kernel
theorem dX8_findSide_87 : decode cX8_findSide 87 = .ok (.getfield 28, 3) := by decide +kernel
theorem dX8_findSide_90 : decode cX8_findSide 90 = .ok (.bipush 16, 2) := by decide +kernel
theorem dX8_findSide_92 : decode cX8_findSide 92 = .ok (.iload_n 2, 1) := by decide +kernel
theorem dX8_findSide_93 : decode cX8_findSide 93 = .ok (.imul, 1) := by decide +kernel
theorem dX8_findSide_94 : decode cX8_findSide 94 = .ok (.iload_n 3, 1) := by decide +kernel
theorem dX8_findSide_95 : decode cX8_findSide 95 = .ok (.iadd, 1) := by decide +kernel
theorem dX8_findSide_96 : decode cX8_findSide 96 = .ok (.aload_n 0, 1) := by decide +kernel
theorem dX8_findSide_97 : decode cX8_findSide 97 = .ok (.aload_n 0, 1) := by decide +kernel
theorem dX8_findSide_98 : decode cX8_findSide 98 = .ok (.getfield 25, 3) := by decide +kernel
theorem dX8_findSide_101 : decode cX8_findSide 101 = .ok (.iload_n 3, 1) := by decide +kernel
theorem dX8_findSide_102 : decode cX8_findSide 102 = .ok (.iaload, 1) := by decide +kernel
theorem dX8_findSide_103 : decode cX8_findSide 103 = .ok (.iload_n 2, 1) := by decide +kernel
theorem dX8_findSide_104 : decode cX8_findSide 104 = .ok (.aload_n 0, 1) := by decide +kernel
theorem dX8_findSide_105 : decode cX8_findSide 105 = .ok (.getfield 7, 3) := by decide +kernel
theorem dX8_findSide_108 : decode cX8_findSide 108 = .ok (.iconst 4, 1) := by decide +kernel
theorem dX8_findSide_109 : decode cX8_findSide 109 = .ok (.iload_n 2, 1) := by decide +kernel
theorem dX8_findSide_110 : decode cX8_findSide 110 = .ok (.imul, 1) := by decide +kernel
theorem dX8_findSide_111 : decode cX8_findSide 111 = .ok (.iconst 3, 1) := by decide +kernel
theorem dX8_findSide_112 : decode cX8_findSide 112 = .ok (.iadd, 1) := by decide +kernel
theorem dX8_findSide_113 : decode cX8_findSide 113 = .ok (.iaload, 1) := by decide +kernel
theorem dX8_findSide_114 : decode cX8_findSide 114 = .ok (.invokevirtual 138, 3) := by decide +kernel
theorem dX8_findSide_117 : decode cX8_findSide 117 = .ok (.iastore, 1) := by decide +kernel
theorem dX8_findSide_118 : decode cX8_findSide 118 = .ok (.iinc 3 1, 3) := by decide +kernel
theorem dX8_findSide_121 : decode cX8_findSide 121 = .ok (.goto (-43), 3) := by decide +kernel
theorem dX8_findSide_124 : decode cX8_findSide 124 = .ok (.iinc 2 1, 3) := by decide +kernel
theorem dX8_findSide_127 : decode cX8_findSide 127 = .ok (.goto (-59), 3) := by decide +kernel
theorem dX8_findSide_130 : decode cX8_findSide 130 = .ok (.return_, 1) := by decide +kernel
theorem dX8_ones_0 : decode cX8_ones 0 = .ok (.iconst 0, 1) := by decide +kernel
theorem dX8_ones_1 : decode cX8_ones 1 = .ok (.istore_n 1, 1) := by decide +kernel
theorem dX8_ones_2 : decode cX8_ones 2 = .ok (.iload_n 0, 1) := by decide +kernel
theorem dX8_ones_3 : decode cX8_ones 3 = .ok (.istore_n 2, 1) := by decide +kernel
theorem dX8_ones_4 : decode cX8_ones 4 = .ok (.iload_n 2, 1) := by decide +kernel
theorem dX8_ones_5 : decode cX8_ones 5 = .ok (.ifCond .eq 15, 3) := by decide +kernel
theorem dX8_ones_8 : decode cX8_ones 8 = .ok (.iinc 1 1, 3) := by decide +kernel
theorem dX8_ones_11 : decode cX8_ones 11 = .ok (.iload_n 2, 1) := by decide +kernel
theorem dX8_ones_12 : decode cX8_ones 12 = .ok (.iload_n 2, 1) := by decide +kernel
theorem dX8_ones_13 : decode cX8_ones 13 = .ok (.iconst 1, 1) := by decide +kernel
theorem dX8_ones_14 : decode cX8_ones 14 = .ok (.isub, 1) := by decide +kernel
theorem dX8_ones_15 : decode cX8_ones 15 = .ok (.iand, 1) := by decide +kernel
theorem dX8_ones_16 : decode cX8_ones 16 = .ok (.istore_n 2, 1) := by decide +kernel
theorem dX8_ones_17 : decode cX8_ones 17 = .ok (.goto (-13), 3) := by decide +kernel
theorem dX8_ones_20 : decode cX8_ones 20 = .ok (.iload_n 1, 1) := by decide +kernel
theorem dX8_ones_21 : decode cX8_ones 21 = .ok (.ireturn, 1) := by decide +kernel
theorem dX8_findLeast_0 : decode cX8_findLeast 0 = .ok (.iconst 1, 1) := by decide +kernel
theorem dX8_findLeast_1 : decode cX8_findLeast 1 = .ok (.aload_n 0, 1) := by decide +kernel
theorem dX8_findLeast_2 : decode cX8_findLeast 2 = .ok (.getfield 186, 3) := by decide +kernel
theorem dX8_findLeast_5 : decode cX8_findLeast 5 = .ok (.ishl, 1) := by decide +kernel
theorem dX8_findLeast_6 : decode cX8_findLeast 6 = .ok (.iconst 1, 1) := by decide +kernel
theorem dX8_findLeast_7 : decode cX8_findLeast 7 = .ok (.isub, 1) := by decide +kernel
theorem dX8_findLeast_8 : decode cX8_findLeast 8 = .ok (.istore_n 1, 1) := by decide +kernel
theorem dX8_findLeast_9 : decode cX8_findLeast 9 = .ok (.iload_n 1, 1) := by decide +kernel
theorem dX8_findLeast_10 : decode cX8_findLeast 10 = .ok (.ifCond .lt 132, 3) := by decide +kernel
theorem dX8_findLeast_13 : decode cX8_findLeast 13 = .ok (.iload_n 1, 1) := by decide +kernel
theorem dX8_findLeast_14 : decode cX8_findLeast 14 = .ok (.invokestatic 189, 3) := by decide +kernel
theorem dX8_findLeast_17 : decode cX8_findLeast 17 = .ok (.istore_n 2, 1) := by decide +kernel
theorem dX8_findLeast_18 : decode cX8_findLeast 18 = .ok (.aload_n 0, 1) := by decide +kernel
theorem dX8_findLeast_19 : decode cX8_findLeast 19 = .ok (.getfield 32, 3) := by decide +kernel
theorem dX8_findLeast_22 : decode cX8_findLeast 22 = .ok (.iload_n 1, 1) := by decide +kernel
theorem dX8_findLeast_23 : decode cX8_findLeast 23 = .ok (.iload_n 2, 1) := by decide +kernel
theorem dX8_findLeast_24 : decode cX8_findLeast 24 = .ok (.aload_n 0, 1) := by decide +kernel
theorem dX8_findLeast_25 : decode cX8_findLeast 25 = .ok (.getfield 81, 3) := by decide +kernel
theorem dX8_findLeast_28 : decode cX8_findLeast 28 = .ok (.if_icmp .ne 7, 3) := by decide +kernel
theorem dX8_findLeast_31 : decode cX8_findLeast 31 = .ok (.iconst 0, 1) := by decide +kernel
theorem dX8_findLeast_32 : decode cX8_findLeast 32 = .ok (.goto 5, 3) := by decide +kernel
theorem dX8_findLeast_35 : decode cX8_findLeast 35 = .ok (.ldc 192, 2) := by decide +kernel
theorem dX8_findLeast_37 : decode cX8_findLeast 37 = .ok (.iastore, 1) := by decide +kernel
theorem dX8_findLeast_38 : decode cX8_findLeast 38 = .ok (.iconst 0, 1) := by decide +kernel
theorem dX8_findLeast_39 : decode cX8_findLeast 39 = .ok (.istore_n 3, 1) := by decide +kernel
theorem dX8_findLeast_40 : decode cX8_findLeast 40 = .ok (.iload_n 3, 1) := by decide +kernel
theorem dX8_findLeast_41 : decode cX8_findLeast 41 = .ok (.aload_n 0, 1) := by decide +kernel
theorem dX8_findLeast_42 : decode cX8_findLeast 42 = .ok (.getfield 186, 3) := by decide +kernel
theorem dX8_findLeast_45 : decode cX8_findLeast 45 = .ok (.if_icmp .ge 91, 3) := by decide +kernel
theorem dX8_findLeast_48 : decode cX8_findLeast 48 = .ok (.iload_n 2, 1) := by decide +kernel
theorem dX8_findLeast_49 : decode cX8_findLeast 49 = .ok (.aload_n 0, 1) := by decide +kernel
theorem dX8_findLeast_50 : decode cX8_findLeast 50 = .ok (.getfield 81, 3) := by decide +kernel
theorem dX8_findLeast_53 : decode cX8_findLeast 53 = .ok (.if_icmp .ge 83, 3) := by decide +kernel
theorem dX8_findLeast_56 : decode cX8_findLeast 56 = .ok (.iload_n 1, 1) := by decide +kernel
theorem dX8_findLeast_57 : decode cX8_findLeast 57 = .ok (.iload_n 3, 1) := by decide +kernel
theorem dX8_findLeast_58 : decode cX8_findLeast 58 = .ok (.ishr, 1) := by decide +kernel
theorem dX8_findLeast_59 : decode cX8_findLeast 59 = .ok (.iconst 1, 1) := by decide +kernel
theorem dX8_findLeast_60 : decode cX8_findLeast 60 = .ok (.iand, 1) := by decide +kernel
theorem dX8_findLeast_61 : decode cX8_findLeast 61 = .ok (.ifCond .ne 69, 3) := by decide +kernel
theorem dX8_findLeast_64 : decode cX8_findLeast 64 = .ok (.aload_n 0, 1) := by decide +kernel
theorem dX8_findLeast_65 : decode cX8_findLeast 65 = .ok (.getfield 28, 3) := by decide +kernel
theorem dX8_findLeast_68 : decode cX8_findLeast 68 = .ok (.bipush 16, 2) := by decide +kernel
theorem dX8_findLeast_70 : decode cX8_findLeast 70 = .ok (.iload_n 2, 1) := by decide +kernel
theorem dX8_findLeast_71 : decode cX8_findLeast 71 = .ok (.imul, 1) := by decide +kernel
theorem dX8_findLeast_72 : decode cX8_findLeast 72 = .ok (.iload_n 3, 1) := by decide +kernel
theorem dX8_findLeast_73 : decode cX8_findLeast 73 = .ok (.iadd, 1) := by decide +kernel
theorem dX8_findLeast_74 : decode cX8_findLeast 74 = .ok (.iaload, 1) := by decide +kernel
theorem dX8_findLeast_75 : decode cX8_findLeast 75 = .ok (.ifCond .lt 55, 3) := by decide +kernel
theorem dX8_findLeast_78 : decode cX8_findLeast 78 = .ok (.aload_n 0, 1) := by decide +kernel
theorem dX8_findLeast_79 : decode cX8_findLeast 79 = .ok (.getfield 28, 3) := by decide +kernel
theorem dX8_findLeast_82 : decode cX8_findLeast 82 = .ok (.bipush 16, 2) := by decide +kernel
theorem dX8_findLeast_84 : decode cX8_findLeast 84 = .ok (.iload_n 2, 1) := by decide +kernel
theorem dX8_findLeast_85 : decode cX8_findLeast 85 = .ok (.imul, 1) := by decide +kernel
theorem dX8_findLeast_86 : decode cX8_findLeast 86 = .ok (.iload_n 3, 1) := by decide +kernel
theorem dX8_findLeast_87 : decode cX8_findLeast 87 = .ok (.iadd, 1) := by decide +kernel
theorem dX8_findLeast_88 : decode cX8_findLeast 88 = .ok (.iaload, 1) := by decide +kernel
theorem dX8_findLeast_89 : decode cX8_findLeast 89 = .ok (.aload_n 0, 1) := by decide +kernel
theorem dX8_findLeast_90 : decode cX8_findLeast 90 = .ok (.getfield 32, 3) := by decide +kernel
theorem dX8_findLeast_93 : decode cX8_findLeast 93 = .ok (.iload_n 1, 1) := by decide +kernel
theorem dX8_findLeast_94 : decode cX8_findLeast 94 = .ok (.iconst 1, 1) := by decide +kernel
theorem dX8_findLeast_95 : decode cX8_findLeast 95 = .ok (.iload_n 3, 1) := by decide +kernel
theorem dX8_findLeast_96 : decode cX8_findLeast 96 = .ok (.ishl, 1) := by decide +kernel
theorem dX8_findLeast_97 : decode cX8_findLeast 97 = .ok (.ior, 1) := by decide +kernel
theorem dX8_findLeast_98 : decode cX8_findLeast 98 = .ok (.iaload, 1) := by decide +kernel
theorem dX8_findLeast_99 : decode cX8_findLeast 99 = .ok (.iadd, 1) := by decide +kernel
theorem dX8_findLeast_100 : decode cX8_findLeast 100 = .ok (.istore 4, 2) := by decide +kernel
theorem dX8_findLeast_102 : decode cX8_findLeast 102 = .ok (.aload_n 0, 1) := by decide +kernel
theorem dX8_findLeast_103 : decode cX8_findLeast 103 = .ok (.getfield 32, 3) := by decide +kernel
theorem dX8_findLeast_106 : decode cX8_findLeast 106 = .ok (.iload_n 1, 1) := by decide +kernel
theorem dX8_findLeast_107 : decode cX8_findLeast 107 = .ok (.iload 4, 2) := by decide +kernel
theorem dX8_findLeast_109 : decode cX8_findLeast 109 = .ok (.aload_n 0, 1) := by decide +kernel
theorem dX8_findLeast_110 : decode cX8_findLeast 110 = .ok (.getfield 32, 3) := by decide +kernel
theorem dX8_findLeast_113 : decode cX8_findLeast 113 = .ok (.iload_n 1, 1) := by decide +kernel
theorem dX8_findLeast_114 : decode cX8_findLeast 114 = .ok (.iaload, 1) := by decide +kernel
theorem dX8_findLeast_115 : decode cX8_findLeast 115 = .ok (.if_icmp .ge 8, 3) := by decide +kernel
theorem dX8_findLeast_118 : decode cX8_findLeast 118 = .ok (.iload 4, 2) := by decide +kernel
theorem dX8_findLeast_120 : decode cX8_findLeast 120 = .ok (.goto 9, 3) := by decide +kernel
theorem dX8_findLeast_123 : decode cX8_findLeast 123 = .ok (.aload_n 0, 1) := by decide +kernel
theorem dX8_findLeast_124 : decode cX8_findLeast 124 = .ok (.getfield 32, 3) := by decide +kernel
theorem dX8_findLeast_127 : decode cX8_findLeast 127 = .ok (.iload_n 1, 1) := by decide +kernel
theorem dX8_findLeast_128 : decode cX8_findLeast 128 = .ok (.iaload, 1) := by decide +kernel
theorem dX8_findLeast_129 : decode cX8_findLeast 129 = .ok (.iastore, 1) := by decide +kernel
theorem dX8_findLeast_130 : decode cX8_findLeast 130 = .ok (.iinc 3 1, 3) := by decide +kernel
theorem dX8_findLeast_133 : decode cX8_findLeast 133 = .ok (.goto (-93), 3) := by decide +kernel
theorem dX8_findLeast_136 : decode cX8_findLeast 136 = .ok (.iinc 1 (-1), 3) := by decide +kernel
theorem dX8_findLeast_139 : decode cX8_findLeast 139 = .ok (.goto (-130), 3) := by decide +kernel
theorem dX8_findLeast_142 : decode cX8_findLeast 142 = .ok (.aload_n 0, 1) := by decide +kernel
theorem dX8_findLeast_143 : decode cX8_findLeast 143 = .ok (.getfield 32, 3) := by decide +kernel
theorem dX8_findLeast_146 : decode cX8_findLeast 146 = .ok (.iconst 0, 1) := by decide +kernel
theorem dX8_findLeast_147 : decode cX8_findLeast 147 = .ok (.iaload, 1) := by decide +kernel
theorem dX8_findLeast_148 : decode cX8_findLeast 148 = .ok (.ireturn, 1) := by decide +kernel
theorem dX8_findWay_0 : decode cX8_findWay 0 = .ok (.aload_n 0, 1) := by decide +kernel
theorem dX8_findWay_1 : decode cX8_findWay 1 = .ok (.iload_n 1, 1) := by decide +kernel
theorem dX8_findWay_2 : decode cX8_findWay 2 = .ok (.invokevirtual 193, 3) := by decide +kernel
theorem dX8_findWay_5 : decode cX8_findWay 5 = .ok (.aload_n 0, 1) := by decide +kernel
theorem dX8_findWay_6 : decode cX8_findWay 6 = .ok (.invokevirtual 197, 3) := by decide +kernel
theorem dX8_findWay_9 : decode cX8_findWay 9 = .ok (.istore_n 2, 1) := by decide +kernel
theorem dX8_findWay_10 : decode cX8_findWay 10 = .ok (.iconst 0, 1) := by decide +kernel
theorem dX8_findWay_11 : decode cX8_findWay 11 = .ok (.istore_n 3, 1) := by decide +kernel
theorem dX8_findWay_12 : decode cX8_findWay 12 = .ok (.iconst 0, 1) := by decide +kernel
theorem dX8_findWay_13 : decode cX8_findWay 13 = .ok (.istore 4, 2) := by decide +kernel
theorem dX8_findWay_15 : decode cX8_findWay 15 = .ok (.iload 4, 2) := by decide +kernel
theorem dX8_findWay_17 : decode cX8_findWay 17 = .ok (.aload_n 0, 1) := by decide +kernel
theorem dX8_findWay_18 : decode cX8_findWay 18 = .ok (.getfield 81, 3) := by decide +kernel
theorem dX8_findWay_21 : decode cX8_findWay 21 = .ok (.if_icmp .ge 105, 3) := by decide +kernel
theorem dX8_findWay_24 : decode cX8_findWay 24 = .ok (.iload_n 2, 1) := by decide +kernel
theorem dX8_findWay_25 : decode cX8_findWay 25 = .ok (.ldc 192, 2) := by decide +kernel
theorem dX8_findWay_27 : decode cX8_findWay 27 = .ok (.if_icmp .ge 99, 3) := by decide +kernel
theorem dX8_findWay_30 : decode cX8_findWay 30 = .ok (.iconst 0, 1) := by decide +kernel
theorem dX8_findWay_31 : decode cX8_findWay 31 = .ok (.istore 5, 2) := by decide +kernel
theorem dX8_findWay_33 : decode cX8_findWay 33 = .ok (.iload_n 3, 1) := by decide +kernel
theorem dX8_findWay_34 : decode cX8_findWay 34 = .ok (.iload 5, 2) := by decide +kernel
theorem dX8_findWay_36 : decode cX8_findWay 36 = .ok (.ishr, 1) := by decide +kernel
theorem dX8_findWay_37 : decode cX8_findWay 37 = .ok (.iconst 1, 1) := by decide +kernel
theorem dX8_findWay_38 : decode cX8_findWay 38 = .ok (.iand, 1) := by decide +kernel
theorem dX8_findWay_39 : decode cX8_findWay 39 = .ok (.iconst 1, 1) := by decide +kernel
theorem dX8_findWay_40 : decode cX8_findWay 40 = .ok (.if_icmp .eq 53, 3) := by decide +kernel
theorem dX8_findWay_43 : decode cX8_findWay 43 = .ok (.aload_n 0, 1) := by decide +kernel
theorem dX8_findWay_44 : decode cX8_findWay 44 = .ok (.getfield 28, 3) := by decide +kernel
theorem dX8_findWay_47 : decode cX8_findWay 47 = .ok (.bipush 16, 2) := by decide +kernel
theorem dX8_findWay_49 : decode cX8_findWay 49 = .ok (.iload 4, 2) := by decide +kernel
theorem dX8_findWay_51 : decode cX8_findWay 51 = .ok (.imul, 1) := by decide +kernel
theorem dX8_findWay_52 : decode cX8_findWay 52 = .ok (.iload 5, 2) := by decide +kernel
theorem dX8_findWay_54 : decode cX8_findWay 54 = .ok (.iadd, 1) := by decide +kernel
theorem dX8_findWay_55 : decode cX8_findWay 55 = .ok (.iaload, 1) := by decide +kernel
theorem dX8_findWay_56 : decode cX8_findWay 56 = .ok (.ifCond .lt 37, 3) := by decide +kernel
theorem dX8_findWay_59 : decode cX8_findWay 59 = .ok (.aload_n 0, 1) := by decide +kernel
theorem dX8_findWay_60 : decode cX8_findWay 60 = .ok (.getfield 28, 3) := by decide +kernel
theorem dX8_findWay_63 : decode cX8_findWay 63 = .ok (.bipush 16, 2) := by decide +kernel
theorem dX8_findWay_65 : decode cX8_findWay 65 = .ok (.iload 4, 2) := by decide +kernel
theorem dX8_findWay_67 : decode cX8_findWay 67 = .ok (.imul, 1) := by decide +kernel
theorem dX8_findWay_68 : decode cX8_findWay 68 = .ok (.iload 5, 2) := by decide +kernel
theorem dX8_findWay_70 : decode cX8_findWay 70 = .ok (.iadd, 1) := by decide +kernel
theorem dX8_findWay_71 : decode cX8_findWay 71 = .ok (.iaload, 1) := by decide +kernel
theorem dX8_findWay_72 : decode cX8_findWay 72 = .ok (.aload_n 0, 1) := by decide +kernel
theorem dX8_findWay_73 : decode cX8_findWay 73 = .ok (.getfield 32, 3) := by decide +kernel
theorem dX8_findWay_76 : decode cX8_findWay 76 = .ok (.iload_n 3, 1) := by decide +kernel
theorem dX8_findWay_77 : decode cX8_findWay 77 = .ok (.iconst 1, 1) := by decide +kernel
theorem dX8_findWay_78 : decode cX8_findWay 78 = .ok (.iload 5, 2) := by decide +kernel
theorem dX8_findWay_80 : decode cX8_findWay 80 = .ok (.ishl, 1) := by decide +kernel
theorem dX8_findWay_81 : decode cX8_findWay 81 = .ok (.ior, 1) := by decide +kernel
theorem dX8_findWay_82 : decode cX8_findWay 82 = .ok (.iaload, 1) := by decide +kernel
theorem dX8_findWay_83 : decode cX8_findWay 83 = .ok (.iadd, 1) := by decide +kernel
theorem dX8_findWay_84 : decode cX8_findWay 84 = .ok (.aload_n 0, 1) := by decide +kernel
theorem dX8_findWay_85 : decode cX8_findWay 85 = .ok (.getfield 32, 3) := by decide +kernel
theorem dX8_findWay_88 : decode cX8_findWay 88 = .ok (.iload_n 3, 1) := by decide +kernel
theorem dX8_findWay_89 : decode cX8_findWay 89 = .ok (.iaload, 1) := by decide +kernel
theorem dX8_findWay_90 : decode cX8_findWay 90 = .ok (.if_icmp .eq 9, 3) := by decide +kernel
theorem dX8_findWay_93 : decode cX8_findWay 93 = .ok (.iinc 5 1, 3) := by decide +kernel
theorem dX8_findWay_96 : decode cX8_findWay 96 = .ok (.goto (-63), 3) := by decide +kernel
theorem dX8_findWay_99 : decode cX8_findWay 99 = .ok (.aload_n 0, 1) := by decide +kernel
theorem dX8_findWay_100 : decode cX8_findWay 100 = .ok (.getfield 35, 3) := by decide +kernel
theorem dX8_findWay_103 : decode cX8_findWay 103 = .ok (.iload 4, 2) := by decide +kernel
theorem dX8_findWay_105 : decode cX8_findWay 105 = .ok (.aload_n 0, 1) := by decide +kernel
theorem dX8_findWay_106 : decode cX8_findWay 106 = .ok (.getfield 25, 3) := by decide +kernel
theorem dX8_findWay_109 : decode cX8_findWay 109 = .ok (.iload 5, 2) := by decide +kernel
theorem dX8_findWay_111 : decode cX8_findWay 111 = .ok (.iaload, 1) := by decide +kernel
theorem dX8_findWay_112 : decode cX8_findWay 112 = .ok (.iastore, 1) := by decide +kernel
theorem dX8_findWay_113 : decode cX8_findWay 113 = .ok (.iload_n 3, 1) := by decide +kernel
theorem dX8_findWay_114 : decode cX8_findWay 114 = .ok (.iconst 1, 1) := by decide +kernel
theorem dX8_findWay_115 : decode cX8_findWay 115 = .ok (.iload 5, 2) := by decide +kernel
theorem dX8_findWay_117 : decode cX8_findWay 117 = .ok (.ishl, 1) := by decide +kernel
theorem dX8_findWay_118 : decode cX8_findWay 118 = .ok (.ior, 1) := by decide +kernel
theorem dX8_findWay_119 : decode cX8_findWay 119 = .ok (.istore_n 3, 1) := by decide +kernel
theorem dX8_findWay_120 : decode cX8_findWay 120 = .ok (.iinc 4 1, 3) := by decide +kernel
theorem dX8_findWay_123 : decode cX8_findWay 123 = .ok (.goto (-108), 3) := by decide +kernel
theorem dX8_findWay_126 : decode cX8_findWay 126 = .ok (.iload_n 2, 1) := by decide +kernel
theorem dX8_findWay_127 : decode cX8_findWay 127 = .ok (.ireturn, 1) := by decide +kernel
theorem dX8_shod_0 : decode cX8_shod 0 = .ok (.iload_n 1, 1) := by decide +kernel
theorem dX8_shod_1 : decode cX8_shod 1 = .ok (.i2l, 1) := by decide +kernel
theorem dX8_shod_2 : decode cX8_shod 2 = .ok (.lconst 0, 1) := by decide +kernel
theorem dX8_shod_3 : decode cX8_shod 3 = .ok (.lconst 1, 1) := by decide +kernel
theorem dX8_shod_4 : decode cX8_shod 4 = .ok (.invokestatic 85, 3) := by decide +kernel
theorem dX8_shod_7 : decode cX8_shod 7 = .ok (.ifCond .eq 21, 3) := by decide +kernel
theorem dX8_shod_10 : decode cX8_shod 10 = .ok (.iload_n 2, 1) := by decide +kernel
theorem dX8_shod_11 : decode cX8_shod 11 = .ok (.i2l, 1) := by decide +kernel
theorem dX8_shod_12 : decode cX8_shod 12 = .ok (.ldc2_w 200, 3) := by decide +kernel
theorem dX8_shod_15 : decode cX8_shod 15 = .ok (.aload_n 0, 1) := by decide +kernel
theorem dX8_shod_16 : decode cX8_shod 16 = .ok (.getfield 81, 3) := by decide +kernel
theorem dX8_shod_19 : decode cX8_shod 19 = .ok (.iconst 1, 1) := by decide +kernel
theorem dX8_shod_20 : decode cX8_shod 20 = .ok (.isub, 1) := by decide +kernel
theorem dX8_shod_21 : decode cX8_shod 21 = .ok (.i2l, 1) := by decide +kernel
theorem dX8_shod_22 : decode cX8_shod 22 = .ok (.invokestatic 85, 3) := by decide +kernel
theorem dX8_shod_25 : decode cX8_shod 25 = .ok (.ifCond .ne 5, 3) := by decide +kernel
theorem dX8_shod_28 : decode cX8_shod 28 = .ok (.iconst (-1), 1) := by decide +kernel
theorem dX8_shod_29 : decode cX8_shod 29 = .ok (.ireturn, 1) := by decide +kernel
theorem dX8_shod_30 : decode cX8_shod 30 = .ok (.aload_n 0, 1) := by decide +kernel
theorem dX8_shod_31 : decode cX8_shod 31 = .ok (.iload_n 1, 1) := by decide +kernel
theorem dX8_shod_32 : decode cX8_shod 32 = .ok (.invokevirtual 202, 3) := by decide +kernel
theorem dX8_shod_35 : decode cX8_shod 35 = .ok (.istore_n 3, 1) := by decide +kernel
theorem dX8_shod_36 : decode cX8_shod 36 = .ok (.iload_n 3, 1) := by decide +kernel
theorem dX8_shod_37 : decode cX8_shod 37 = .ok (.ldc 192, 2) := by decide +kernel
theorem dX8_shod_39 : decode cX8_shod 39 = .ok (.if_icmp .lt 8, 3) := by decide +kernel
theorem dX8_shod_42 : decode cX8_shod 42 = .ok (.bipush (-4), 2) := by decide +kernel
theorem dX8_shod_44 : decode cX8_shod 44 = .ok (.goto 17, 3) := by decide +kernel
theorem dX8_shod_47 : decode cX8_shod 47 = .ok (.iload_n 2, 1) := by decide +kernel
theorem dX8_shod_48 : decode cX8_shod 48 = .ok (.ifCond .ge 7, 3) := by decide +kernel
theorem dX8_shod_51 : decode cX8_shod 51 = .ok (.iload_n 3, 1) := by decide +kernel
theorem dX8_shod_52 : decode cX8_shod 52 = .ok (.goto 9, 3) := by decide +kernel
theorem dX8_shod_55 : decode cX8_shod 55 = .ok (.aload_n 0, 1) := by decide +kernel
theorem dX8_shod_56 : decode cX8_shod 56 = .ok (.getfield 35, 3) := by decide +kernel
theorem dX8_shod_59 : decode cX8_shod 59 = .ok (.iload_n 2, 1) := by decide +kernel
theorem dX8_shod_60 : decode cX8_shod 60 = .ok (.iaload, 1) := by decide +kernel
theorem dX8_shod_61 : decode cX8_shod 61 = .ok (.ireturn, 1) := by decide +kernel
theorem dX8_most_0 : decode cX8_most 0 = .ok (.iload_n 1, 1) := by decide +kernel
theorem dX8_most_1 : decode cX8_most 1 = .ok (.i2l, 1) := by decide +kernel
theorem dX8_most_2 : decode cX8_most 2 = .ok (.lconst 0, 1) := by decide +kernel
theorem dX8_most_3 : decode cX8_most 3 = .ok (.lconst 1, 1) := by decide +kernel
theorem dX8_most_4 : decode cX8_most 4 = .ok (.invokestatic 85, 3) := by decide +kernel
theorem dX8_most_7 : decode cX8_most 7 = .ok (.ifCond .ne 5, 3) := by decide +kernel
theorem dX8_most_10 : decode cX8_most 10 = .ok (.iconst (-1), 1) := by decide +kernel
theorem dX8_most_11 : decode cX8_most 11 = .ok (.ireturn, 1) := by decide +kernel
theorem dX8_most_12 : decode cX8_most 12 = .ok (.aload_n 0, 1) := by decide +kernel
theorem dX8_most_13 : decode cX8_most 13 = .ok (.iload_n 1, 1) := by decide +kernel
theorem dX8_most_14 : decode cX8_most 14 = .ok (.invokevirtual 193, 3) := by decide +kernel
theorem dX8_most_17 : decode cX8_most 17 = .ok (.iconst 0, 1) := by decide +kernel
theorem dX8_most_18 : decode cX8_most 18 = .ok (.istore_n 2, 1) := by decide +kernel
theorem dX8_most_19 : decode cX8_most 19 = .ok (.iload_n 2, 1) := by decide +kernel
theorem dX8_most_20 : decode cX8_most 20 = .ok (.sipush 128, 3) := by decide +kernel
theorem dX8_most_23 : decode cX8_most 23 = .ok (.if_icmp .ge 24, 3) := by decide +kernel
theorem dX8_most_26 : decode cX8_most 26 = .ok (.aload_n 0, 1) := by decide +kernel
theorem dX8_most_27 : decode cX8_most 27 = .ok (.getfield 38, 3) := by decide +kernel
theorem dX8_most_30 : decode cX8_most 30 = .ok (.iload_n 2, 1) := by decide +kernel
theorem dX8_most_31 : decode cX8_most 31 = .ok (.iload_n 2, 1) := by decide +kernel
theorem dX8_most_32 : decode cX8_most 32 = .ok (.ifCond .ne 7, 3) := by decide +kernel
theorem dX8_most_35 : decode cX8_most 35 = .ok (.iconst 1, 1) := by decide +kernel
theorem dX8_most_36 : decode cX8_most 36 = .ok (.goto 4, 3) := by decide +kernel
theorem dX8_most_39 : decode cX8_most 39 = .ok (.iconst 0, 1) := by decide +kernel
theorem dX8_most_40 : decode cX8_most 40 = .ok (.bastore, 1) := by decide +kernel
theorem dX8_most_41 : decode cX8_most 41 = .ok (.iinc 2 1, 3) := by decide +kernel
theorem dX8_most_44 : decode cX8_most 44 = .ok (.goto (-25), 3) := by decide +kernel
theorem dX8_most_47 : decode cX8_most 47 = .ok (.iconst 0, 1) := by decide +kernel
theorem dX8_most_48 : decode cX8_most 48 = .ok (.istore_n 2, 1) := by decide +kernel
theorem dX8_most_49 : decode cX8_most 49 = .ok (.iload_n 2, 1) := by decide +kernel
theorem dX8_most_50 : decode cX8_most 50 = .ok (.aload_n 0, 1) := by decide +kernel
theorem dX8_most_51 : decode cX8_most 51 = .ok (.getfield 186, 3) := by decide +kernel
theorem dX8_most_54 : decode cX8_most 54 = .ok (.if_icmp .ge 107, 3) := by decide +kernel
theorem dX8_most_57 : decode cX8_most 57 = .ok (.iconst 1, 1) := by decide +kernel
theorem dX8_most_58 : decode cX8_most 58 = .ok (.aload_n 0, 1) := by decide +kernel
theorem dX8_most_59 : decode cX8_most 59 = .ok (.getfield 81, 3) := by decide +kernel
theorem dX8_most_62 : decode cX8_most 62 = .ok (.ishl, 1) := by decide +kernel
theorem dX8_most_63 : decode cX8_most 63 = .ok (.iconst 1, 1) := by decide +kernel
theorem dX8_most_64 : decode cX8_most 64 = .ok (.isub, 1) := by decide +kernel
theorem dX8_most_65 : decode cX8_most 65 = .ok (.istore_n 3, 1) := by decide +kernel
theorem dX8_most_66 : decode cX8_most 66 = .ok (.iload_n 3, 1) := by decide +kernel
theorem dX8_most_67 : decode cX8_most 67 = .ok (.ifCond .le 88, 3) := by decide +kernel
theorem dX8_most_70 : decode cX8_most 70 = .ok (.iconst 0, 1) := by decide +kernel
theorem dX8_most_71 : decode cX8_most 71 = .ok (.istore 4, 2) := by decide +kernel
theorem dX8_most_73 : decode cX8_most 73 = .ok (.iload 4, 2) := by decide +kernel
theorem dX8_most_75 : decode cX8_most 75 = .ok (.aload_n 0, 1) := by decide +kernel
theorem dX8_most_76 : decode cX8_most 76 = .ok (.getfield 81, 3) := by decide +kernel
theorem dX8_most_79 : decode cX8_most 79 = .ok (.if_icmp .ge 70, 3) := by decide +kernel
theorem dX8_most_82 : decode cX8_most 82 = .ok (.aload_n 0, 1) := by decide +kernel
theorem dX8_most_83 : decode cX8_most 83 = .ok (.getfield 38, 3) := by decide +kernel
theorem dX8_most_86 : decode cX8_most 86 = .ok (.iload_n 3, 1) := by decide +kernel
theorem dX8_most_87 : decode cX8_most 87 = .ok (.aload_n 0, 1) := by decide +kernel
theorem dX8_most_88 : decode cX8_most 88 = .ok (.getfield 38, 3) := by decide +kernel
theorem dX8_most_91 : decode cX8_most 91 = .ok (.iload_n 3, 1) := by decide +kernel
theorem dX8_most_92 : decode cX8_most 92 = .ok (.baload, 1) := by decide +kernel
theorem dX8_most_93 : decode cX8_most 93 = .ok (.ifCond .ne 44, 3) := by decide +kernel
theorem dX8_most_96 : decode cX8_most 96 = .ok (.iload_n 3, 1) := by decide +kernel
theorem dX8_most_97 : decode cX8_most 97 = .ok (.iload 4, 2) := by decide +kernel
theorem dX8_most_99 : decode cX8_most 99 = .ok (.ishr, 1) := by decide +kernel
theorem dX8_most_100 : decode cX8_most 100 = .ok (.iconst 1, 1) := by decide +kernel
theorem dX8_most_101 : decode cX8_most 101 = .ok (.iand, 1) := by decide +kernel
theorem dX8_most_102 : decode cX8_most 102 = .ok (.iconst 1, 1) := by decide +kernel
theorem dX8_most_103 : decode cX8_most 103 = .ok (.if_icmp .ne 38, 3) := by decide +kernel
theorem dX8_most_106 : decode cX8_most 106 = .ok (.aload_n 0, 1) := by decide +kernel
theorem dX8_most_107 : decode cX8_most 107 = .ok (.getfield 28, 3) := by decide +kernel
theorem dX8_most_110 : decode cX8_most 110 = .ok (.bipush 16, 2) := by decide +kernel
theorem dX8_most_112 : decode cX8_most 112 = .ok (.iload 4, 2) := by decide +kernel
theorem dX8_most_114 : decode cX8_most 114 = .ok (.imul, 1) := by decide +kernel
theorem dX8_most_115 : decode cX8_most 115 = .ok (.iload_n 2, 1) := by decide +kernel
theorem dX8_most_116 : decode cX8_most 116 = .ok (.iadd, 1) := by decide +kernel
theorem dX8_most_117 : decode cX8_most 117 = .ok (.iaload, 1) := by decide +kernel
theorem dX8_most_118 : decode cX8_most 118 = .ok (.ifCond .lt 23, 3) := by decide +kernel
theorem dX8_most_121 : decode cX8_most 121 = .ok (.aload_n 0, 1) := by decide +kernel
theorem dX8_most_122 : decode cX8_most 122 = .ok (.getfield 38, 3) := by decide +kernel
theorem dX8_most_125 : decode cX8_most 125 = .ok (.iload_n 3, 1) := by decide +kernel
theorem dX8_most_126 : decode cX8_most 126 = .ok (.iconst 1, 1) := by decide +kernel
theorem dX8_most_127 : decode cX8_most 127 = .ok (.iload 4, 2) := by decide +kernel
theorem dX8_most_129 : decode cX8_most 129 = .ok (.ishl, 1) := by decide +kernel
theorem dX8_most_130 : decode cX8_most 130 = .ok (.iconst (-1), 1) := by decide +kernel
theorem dX8_most_131 : decode cX8_most 131 = .ok (.ixor, 1) := by decide +kernel
theorem dX8_most_132 : decode cX8_most 132 = .ok (.iand, 1) := by decide +kernel
theorem dX8_most_133 : decode cX8_most 133 = .ok (.baload, 1) := by decide +kernel
theorem dX8_most_134 : decode cX8_most 134 = .ok (.ifCond .eq 7, 3) := by decide +kernel
theorem dX8_most_137 : decode cX8_most 137 = .ok (.iconst 1, 1) := by decide +kernel
theorem dX8_most_138 : decode cX8_most 138 = .ok (.goto 4, 3) := by decide +kernel
theorem dX8_most_141 : decode cX8_most 141 = .ok (.iconst 0, 1) := by decide +kernel
theorem dX8_most_142 : decode cX8_most 142 = .ok (.bastore, 1) := by decide +kernel
theorem dX8_most_143 : decode cX8_most 143 = .ok (.iinc 4 1, 3) := by decide +kernel
theorem dX8_most_146 : decode cX8_most 146 = .ok (.goto (-73), 3) := by decide +kernel
theorem dX8_most_149 : decode cX8_most 149 = .ok (.iinc 3 (-1), 3) := by decide +kernel
theorem dX8_most_152 : decode cX8_most 152 = .ok (.goto (-86), 3) := by decide +kernel
theorem dX8_most_155 : decode cX8_most 155 = .ok (.iinc 2 1, 3) := by decide +kernel
theorem dX8_most_158 : decode cX8_most 158 = .ok (.goto (-109), 3) := by decide +kernel
theorem dX8_most_161 : decode cX8_most 161 = .ok (.iconst 0, 1) := by decide +kernel
theorem dX8_most_162 : decode cX8_most 162 = .ok (.istore_n 2, 1) := by decide +kernel
theorem dX8_most_163 : decode cX8_most 163 = .ok (.iconst 0, 1) := by decide +kernel
theorem dX8_most_164 : decode cX8_most 164 = .ok (.istore_n 3, 1) := by decide +kernel
theorem dX8_most_165 : decode cX8_most 165 = .ok (.iload_n 3, 1) := by decide +kernel
theorem dX8_most_166 : decode cX8_most 166 = .ok (.iconst 1, 1) := by decide +kernel
theorem dX8_most_167 : decode cX8_most 167 = .ok (.aload_n 0, 1) := by decide +kernel
theorem dX8_most_168 : decode cX8_most 168 = .ok (.getfield 81, 3) := by decide +kernel
theorem dX8_most_171 : decode cX8_most 171 = .ok (.ishl, 1) := by decide +kernel
theorem dX8_most_172 : decode cX8_most 172 = .ok (.if_icmp .ge 35, 3) := by decide +kernel
theorem dX8_most_175 : decode cX8_most 175 = .ok (.aload_n 0, 1) := by decide +kernel
theorem dX8_most_176 : decode cX8_most 176 = .ok (.getfield 38, 3) := by decide +kernel
theorem dX8_most_179 : decode cX8_most 179 = .ok (.iload_n 3, 1) := by decide +kernel
theorem dX8_most_180 : decode cX8_most 180 = .ok (.baload, 1) := by decide +kernel
theorem dX8_most_181 : decode cX8_most 181 = .ok (.ifCond .eq 18, 3) := by decide +kernel
theorem dX8_most_184 : decode cX8_most 184 = .ok (.iload_n 3, 1) := by decide +kernel
theorem dX8_most_185 : decode cX8_most 185 = .ok (.invokestatic 189, 3) := by decide +kernel
theorem dX8_most_188 : decode cX8_most 188 = .ok (.iload_n 2, 1) := by decide +kernel
theorem dX8_most_189 : decode cX8_most 189 = .ok (.if_icmp .le 10, 3) := by decide +kernel
theorem dX8_most_192 : decode cX8_most 192 = .ok (.iload_n 3, 1) := by decide +kernel
theorem dX8_most_193 : decode cX8_most 193 = .ok (.invokestatic 189, 3) := by decide +kernel
theorem dX8_most_196 : decode cX8_most 196 = .ok (.goto 4, 3) := by decide +kernel
theorem dX8_most_199 : decode cX8_most 199 = .ok (.iload_n 2, 1) := by decide +kernel
theorem dX8_most_200 : decode cX8_most 200 = .ok (.istore_n 2, 1) := by decide +kernel
theorem dX8_most_201 : decode cX8_most 201 = .ok (.iinc 3 1, 3) := by decide +kernel
theorem dX8_most_204 : decode cX8_most 204 = .ok (.goto (-39), 3) := by decide +kernel
theorem dX8_most_207 : decode cX8_most 207 = .ok (.iload_n 2, 1) := by decide +kernel
theorem dX8_most_208 : decode cX8_most 208 = .ok (.ireturn, 1) := by decide +kernel
theorem dX8_chain_0 : decode cX8_chain 0 = .ok (.aload_n 0, 1) := by decide +kernel
theorem dX8_chain_1 : decode cX8_chain 1 = .ok (.iload_n 1, 1) := by decide +kernel
theorem dX8_chain_2 : decode cX8_chain 2 = .ok (.invokevirtual 116, 3) := by decide +kernel
theorem dX8_chain_5 : decode cX8_chain 5 = .ok (.ifCond .ne 5, 3) := by decide +kernel
theorem dX8_chain_8 : decode cX8_chain 8 = .ok (.iconst (-1), 1) := by decide +kernel
theorem dX8_chain_9 : decode cX8_chain 9 = .ok (.ireturn, 1) := by decide +kernel
theorem dX8_chain_10 : decode cX8_chain 10 = .ok (.aload_n 0, 1) := by decide +kernel
theorem dX8_chain_11 : decode cX8_chain 11 = .ok (.getfield 13, 3) := by decide +kernel
theorem dX8_chain_14 : decode cX8_chain 14 = .ok (.iconst 4, 1) := by decide +kernel
theorem dX8_chain_15 : decode cX8_chain 15 = .ok (.iload_n 1, 1) := by decide +kernel
theorem dX8_chain_16 : decode cX8_chain 16 = .ok (.imul, 1) := by decide +kernel
theorem dX8_chain_17 : decode cX8_chain 17 = .ok (.iconst 3, 1) := by decide +kernel
theorem dX8_chain_18 : decode cX8_chain 18 = .ok (.iadd, 1) := by decide +kernel
theorem dX8_chain_19 : decode cX8_chain 19 = .ok (.iaload, 1) := by decide +kernel
theorem dX8_chain_20 : decode cX8_chain 20 = .ok (.iconst 1, 1) := by decide +kernel
theorem dX8_chain_21 : decode cX8_chain 21 = .ok (.if_icmp .eq 20, 3) := by decide +kernel
theorem dX8_chain_24 : decode cX8_chain 24 = .ok (.aload_n 0, 1) := by decide +kernel
theorem dX8_chain_25 : decode cX8_chain 25 = .ok (.aload_n 0, 1) := by decide +kernel
theorem dX8_chain_26 : decode cX8_chain 26 = .ok (.getfield 13, 3) := by decide +kernel
theorem dX8_chain_29 : decode cX8_chain 29 = .ok (.iconst 4, 1) := by decide +kernel
theorem dX8_chain_30 : decode cX8_chain 30 = .ok (.iload_n 1, 1) := by decide +kernel
theorem dX8_chain_31 : decode cX8_chain 31 = .ok (.imul, 1) := by decide +kernel
theorem dX8_chain_32 : decode cX8_chain 32 = .ok (.iaload, 1) := by decide +kernel
theorem dX8_chain_33 : decode cX8_chain 33 = .ok (.invokevirtual 202, 3) := by decide +kernel
theorem dX8_chain_36 : decode cX8_chain 36 = .ok (.ldc 192, 2) := by decide +kernel
theorem dX8_chain_38 : decode cX8_chain 38 = .ok (.if_icmp .lt 6, 3) := by decide +kernel
theorem dX8_chain_41 : decode cX8_chain 41 = .ok (.bipush (-2), 2) := by decide +kernel
theorem dX8_chain_43 : decode cX8_chain 43 = .ok (.ireturn, 1) := by decide +kernel
theorem dX8_chain_44 : decode cX8_chain 44 = .ok (.iconst 0, 1) := by decide +kernel
theorem dX8_chain_45 : decode cX8_chain 45 = .ok (.istore_n 2, 1) := by decide +kernel
theorem dX8_chain_46 : decode cX8_chain 46 = .ok (.iconst 0, 1) := by decide +kernel
theorem dX8_chain_47 : decode cX8_chain 47 = .ok (.istore_n 3, 1) := by decide +kernel
theorem dX8_chain_48 : decode cX8_chain 48 = .ok (.iload_n 3, 1) := by decide +kernel
theorem dX8_chain_49 : decode cX8_chain 49 = .ok (.aload_n 0, 1) := by decide +kernel
theorem dX8_chain_50 : decode cX8_chain 50 = .ok (.getfield 81, 3) := by decide +kernel
theorem dX8_chain_53 : decode cX8_chain 53 = .ok (.if_icmp .ge 29, 3) := by decide +kernel
theorem dX8_chain_56 : decode cX8_chain 56 = .ok (.iload_n 2, 1) := by decide +kernel
theorem dX8_chain_57 : decode cX8_chain 57 = .ok (.ifCond .ne 13, 3) := by decide +kernel
theorem dX8_chain_60 : decode cX8_chain 60 = .ok (.aload_n 0, 1) := by decide +kernel
theorem dX8_chain_61 : decode cX8_chain 61 = .ok (.getfield 35, 3) := by decide +kernel
theorem dX8_chain_64 : decode cX8_chain 64 = .ok (.iload_n 3, 1) := by decide +kernel
theorem dX8_chain_65 : decode cX8_chain 65 = .ok (.iaload, 1) := by decide +kernel
theorem dX8_chain_66 : decode cX8_chain 66 = .ok (.iload_n 1, 1) := by decide +kernel
theorem dX8_chain_67 : decode cX8_chain 67 = .ok (.if_icmp .ne 7, 3) := by decide +kernel
theorem dX8_chain_70 : decode cX8_chain 70 = .ok (.iconst 1, 1) := by decide +kernel
theorem dX8_chain_71 : decode cX8_chain 71 = .ok (.goto 4, 3) := by decide +kernel
theorem dX8_chain_74 : decode cX8_chain 74 = .ok (.iconst 0, 1) := by decide +kernel
theorem dX8_chain_75 : decode cX8_chain 75 = .ok (.istore_n 2, 1) := by decide +kernel
theorem dX8_chain_76 : decode cX8_chain 76 = .ok (.iinc 3 1, 3) := by decide +kernel
theorem dX8_chain_79 : decode cX8_chain 79 = .ok (.goto (-31), 3) := by decide +kernel
theorem dX8_chain_82 : decode cX8_chain 82 = .ok (.iload_n 2, 1) := by decide +kernel
theorem dX8_chain_83 : decode cX8_chain 83 = .ok (.ifCond .ne 6, 3) := by decide +kernel
theorem dX8_chain_86 : decode cX8_chain 86 = .ok (.bipush (-2), 2) := by decide +kernel
theorem dX8_chain_88 : decode cX8_chain 88 = .ok (.ireturn, 1) := by decide +kernel
theorem dX8_chain_89 : decode cX8_chain 89 = .ok (.iconst 0, 1) := by decide +kernel
theorem dX8_chain_90 : decode cX8_chain 90 = .ok (.istore_n 3, 1) := by decide +kernel
theorem dX8_chain_91 : decode cX8_chain 91 = .ok (.iload_n 3, 1) := by decide +kernel
theorem dX8_chain_92 : decode cX8_chain 92 = .ok (.aload_n 0, 1) := by decide +kernel
theorem dX8_chain_93 : decode cX8_chain 93 = .ok (.getfield 81, 3) := by decide +kernel
theorem dX8_chain_96 : decode cX8_chain 96 = .ok (.if_icmp .ge 95, 3) := by decide +kernel
theorem dX8_chain_99 : decode cX8_chain 99 = .ok (.iconst 0, 1) := by decide +kernel
theorem dX8_chain_100 : decode cX8_chain 100 = .ok (.istore 4, 2) := by decide +kernel
theorem dX8_chain_102 : decode cX8_chain 102 = .ok (.iload 4, 2) := by decide +kernel
theorem dX8_chain_104 : decode cX8_chain 104 = .ok (.aload_n 0, 1) := by decide +kernel
theorem dX8_chain_105 : decode cX8_chain 105 = .ok (.getfield 186, 3) := by decide +kernel
theorem dX8_chain_108 : decode cX8_chain 108 = .ok (.if_icmp .ge 77, 3) := by decide +kernel
theorem dX8_chain_111 : decode cX8_chain 111 = .ok (.aload_n 0, 1) := by decide +kernel
theorem dX8_chain_112 : decode cX8_chain 112 = .ok (.getfield 28, 3) := by decide +kernel
theorem dX8_chain_115 : decode cX8_chain 115 = .ok (.bipush 16, 2) := by decide +kernel
theorem dX8_chain_117 : decode cX8_chain 117 = .ok (.iload_n 3, 1) := by decide +kernel
theorem dX8_chain_118 : decode cX8_chain 118 = .ok (.imul, 1) := by decide +kernel
theorem dX8_chain_119 : decode cX8_chain 119 = .ok (.iload 4, 2) := by decide +kernel
theorem dX8_chain_121 : decode cX8_chain 121 = .ok (.iadd, 1) := by decide +kernel
theorem dX8_chain_122 : decode cX8_chain 122 = .ok (.iaload, 1) := by decide +kernel
theorem dX8_chain_123 : decode cX8_chain 123 = .ok (.istore 5, 2) := by decide +kernel
theorem dX8_chain_125 : decode cX8_chain 125 = .ok (.aload_n 0, 1) := by decide +kernel
theorem dX8_chain_126 : decode cX8_chain 126 = .ok (.getfield 28, 3) := by decide +kernel
theorem dX8_chain_129 : decode cX8_chain 129 = .ok (.bipush 16, 2) := by decide +kernel
theorem dX8_chain_131 : decode cX8_chain 131 = .ok (.iload_n 3, 1) := by decide +kernel
theorem dX8_chain_132 : decode cX8_chain 132 = .ok (.imul, 1) := by decide +kernel
theorem dX8_chain_133 : decode cX8_chain 133 = .ok (.iload 4, 2) := by decide +kernel
theorem dX8_chain_135 : decode cX8_chain 135 = .ok (.iadd, 1) := by decide +kernel
theorem dX8_chain_136 : decode cX8_chain 136 = .ok (.iload 5, 2) := by decide +kernel
theorem dX8_chain_138 : decode cX8_chain 138 = .ok (.ifCond .lt 14, 3) := by decide +kernel
theorem dX8_chain_141 : decode cX8_chain 141 = .ok (.aload_n 0, 1) := by decide +kernel
theorem dX8_chain_142 : decode cX8_chain 142 = .ok (.getfield 25, 3) := by decide +kernel
theorem dX8_chain_145 : decode cX8_chain 145 = .ok (.iload 4, 2) := by decide +kernel
theorem dX8_chain_147 : decode cX8_chain 147 = .ok (.iaload, 1) := by decide +kernel
theorem dX8_chain_148 : decode cX8_chain 148 = .ok (.iload_n 1, 1) := by decide +kernel
theorem dX8_chain_149 : decode cX8_chain 149 = .ok (.if_icmp .ne 8, 3) := by decide +kernel
theorem dX8_chain_152 : decode cX8_chain 152 = .ok (.bipush (-4), 2) := by decide +kernel
theorem dX8_chain_154 : decode cX8_chain 154 = .ok (.goto 24, 3) := by decide +kernel
theorem dX8_chain_157 : decode cX8_chain 157 = .ok (.aload_n 0, 1) := by decide +kernel
theorem dX8_chain_158 : decode cX8_chain 158 = .ok (.getfield 35, 3) := by decide +kernel
theorem dX8_chain_161 : decode cX8_chain 161 = .ok (.iload_n 3, 1) := by decide +kernel
theorem dX8_chain_162 : decode cX8_chain 162 = .ok (.iaload, 1) := by decide +kernel
theorem dX8_chain_163 : decode cX8_chain 163 = .ok (.aload_n 0, 1) := by decide +kernel
theorem dX8_chain_164 : decode cX8_chain 164 = .ok (.getfield 25, 3) := by decide +kernel
theorem dX8_chain_167 : decode cX8_chain 167 = .ok (.iload 4, 2) := by decide +kernel
theorem dX8_chain_169 : decode cX8_chain 169 = .ok (.iaload, 1) := by decide +kernel
theorem dX8_chain_170 : decode cX8_chain 170 = .ok (.if_icmp .ne 7, 3) := by decide +kernel
theorem dX8_chain_173 : decode cX8_chain 173 = .ok (.iconst 0, 1) := by decide +kernel
theorem dX8_chain_174 : decode cX8_chain 174 = .ok (.goto 4, 3) := by decide +kernel
theorem dX8_chain_177 : decode cX8_chain 177 = .ok (.iconst 1, 1) := by decide +kernel
theorem dX8_chain_178 : decode cX8_chain 178 = .ok (.iastore, 1) := by decide +kernel
theorem dX8_chain_179 : decode cX8_chain 179 = .ok (.iinc 4 1, 3) := by decide +kernel
theorem dX8_chain_182 : decode cX8_chain 182 = .ok (.goto (-80), 3) := by decide +kernel
theorem dX8_chain_185 : decode cX8_chain 185 = .ok (.iinc 3 1, 3) := by decide +kernel
theorem dX8_chain_188 : decode cX8_chain 188 = .ok (.goto (-97), 3) := by decide +kernel
theorem dX8_chain_191 : decode cX8_chain 191 = .ok (.aload_n 0, 1) := by decide +kernel
theorem dX8_chain_192 : decode cX8_chain 192 = .ok (.invokevirtual 197, 3) := by decide +kernel
theorem dX8_chain_195 : decode cX8_chain 195 = .ok (.istore_n 3, 1) := by decide +kernel
theorem dX8_chain_196 : decode cX8_chain 196 = .ok (.iload_n 3, 1) := by decide +kernel
theorem dX8_chain_197 : decode cX8_chain 197 = .ok (.ldc 192, 2) := by decide +kernel
theorem dX8_chain_199 : decode cX8_chain 199 = .ok (.if_icmp .lt 8, 3) := by decide +kernel
theorem dX8_chain_202 : decode cX8_chain 202 = .ok (.bipush (-4), 2) := by decide +kernel
theorem dX8_chain_204 : decode cX8_chain 204 = .ok (.goto 4, 3) := by decide +kernel
theorem dX8_chain_207 : decode cX8_chain 207 = .ok (.iload_n 3, 1) := by decide +kernel
theorem dX8_chain_208 : decode cX8_chain 208 = .ok (.ireturn, 1) := by decide +kernel
theorem dX8_limpsOf_0 : decode cX8_limpsOf 0 = .ok (.aload_n 0, 1) := by decide +kernel
theorem dX8_limpsOf_1 : decode cX8_limpsOf 1 = .ok (.iload_n 1, 1) := by decide +kernel
theorem dX8_limpsOf_2 : decode cX8_limpsOf 2 = .ok (.aload_n 0, 1) := by decide +kernel
theorem dX8_limpsOf_3 : decode cX8_limpsOf 3 = .ok (.getfield 13, 3) := by decide +kernel
theorem dX8_limpsOf_6 : decode cX8_limpsOf 6 = .ok (.iconst 4, 1) := by decide +kernel
theorem dX8_limpsOf_7 : decode cX8_limpsOf 7 = .ok (.iload_n 2, 1) := by decide +kernel
theorem dX8_limpsOf_8 : decode cX8_limpsOf 8 = .ok (.imul, 1) := by decide +kernel
theorem dX8_limpsOf_9 : decode cX8_limpsOf 9 = .ok (.iaload, 1) := by decide +kernel
theorem dX8_limpsOf_10 : decode cX8_limpsOf 10 = .ok (.iload_n 3, 1) := by decide +kernel
theorem dX8_limpsOf_11 : decode cX8_limpsOf 11 = .ok (.invokevirtual 121, 3) := by decide +kernel
theorem dX8_limpsOf_14 : decode cX8_limpsOf 14 = .ok (.istore 4, 2) := by decide +kernel
theorem dX8_limpsOf_16 : decode cX8_limpsOf 16 = .ok (.aload_n 0, 1) := by decide +kernel
theorem dX8_limpsOf_17 : decode cX8_limpsOf 17 = .ok (.getfield 13, 3) := by decide +kernel
theorem dX8_limpsOf_20 : decode cX8_limpsOf 20 = .ok (.iconst 4, 1) := by decide +kernel
theorem dX8_limpsOf_21 : decode cX8_limpsOf 21 = .ok (.iload_n 2, 1) := by decide +kernel
theorem dX8_limpsOf_22 : decode cX8_limpsOf 22 = .ok (.imul, 1) := by decide +kernel
theorem dX8_limpsOf_23 : decode cX8_limpsOf 23 = .ok (.iconst 1, 1) := by decide +kernel
theorem dX8_limpsOf_24 : decode cX8_limpsOf 24 = .ok (.iadd, 1) := by decide +kernel
theorem dX8_limpsOf_25 : decode cX8_limpsOf 25 = .ok (.iaload, 1) := by decide +kernel
theorem dX8_limpsOf_26 : decode cX8_limpsOf 26 = .ok (.istore 5, 2) := by decide +kernel
theorem dX8_limpsOf_28 : decode cX8_limpsOf 28 = .ok (.iload 4, 2) := by decide +kernel
theorem dX8_limpsOf_30 : decode cX8_limpsOf 30 = .ok (.aload_n 0, 1) := by decide +kernel
theorem dX8_limpsOf_31 : decode cX8_limpsOf 31 = .ok (.iload_n 2, 1) := by decide +kernel
theorem dX8_limpsOf_32 : decode cX8_limpsOf 32 = .ok (.invokevirtual 132, 3) := by decide +kernel
theorem dX8_limpsOf_35 : decode cX8_limpsOf 35 = .ok (.iadd, 1) := by decide +kernel
theorem dX8_limpsOf_36 : decode cX8_limpsOf 36 = .ok (.istore 6, 2) := by decide +kernel
theorem dX8_limpsOf_38 : decode cX8_limpsOf 38 = .ok (.iload 4, 2) := by decide +kernel
theorem dX8_limpsOf_40 : decode cX8_limpsOf 40 = .ok (.aload_n 0, 1) := by decide +kernel
theorem dX8_limpsOf_41 : decode cX8_limpsOf 41 = .ok (.iload_n 2, 1) := by decide +kernel
theorem dX8_limpsOf_42 : decode cX8_limpsOf 42 = .ok (.invokevirtual 129, 3) := by decide +kernel
theorem dX8_limpsOf_45 : decode cX8_limpsOf 45 = .ok (.isub, 1) := by decide +kernel
theorem dX8_limpsOf_46 : decode cX8_limpsOf 46 = .ok (.istore 7, 2) := by decide +kernel
theorem dX8_limpsOf_48 : decode cX8_limpsOf 48 = .ok (.iload 5, 2) := by decide +kernel
theorem dX8_limpsOf_50 : decode cX8_limpsOf 50 = .ok (.iload 6, 2) := by decide +kernel
theorem dX8_limpsOf_52 : decode cX8_limpsOf 52 = .ok (.if_icmp .le 11, 3) := by decide +kernel
theorem dX8_limpsOf_55 : decode cX8_limpsOf 55 = .ok (.iload 5, 2) := by decide +kernel
theorem dX8_limpsOf_57 : decode cX8_limpsOf 57 = .ok (.iload 6, 2) := by decide +kernel
theorem dX8_limpsOf_59 : decode cX8_limpsOf 59 = .ok (.isub, 1) := by decide +kernel
theorem dX8_limpsOf_60 : decode cX8_limpsOf 60 = .ok (.goto 19, 3) := by decide +kernel
theorem dX8_limpsOf_63 : decode cX8_limpsOf 63 = .ok (.iload 5, 2) := by decide +kernel
theorem dX8_limpsOf_65 : decode cX8_limpsOf 65 = .ok (.iload 7, 2) := by decide +kernel
theorem dX8_limpsOf_67 : decode cX8_limpsOf 67 = .ok (.if_icmp .ge 11, 3) := by decide +kernel
theorem dX8_limpsOf_70 : decode cX8_limpsOf 70 = .ok (.iload 5, 2) := by decide +kernel
theorem dX8_limpsOf_72 : decode cX8_limpsOf 72 = .ok (.iload 7, 2) := by decide +kernel
theorem dX8_limpsOf_74 : decode cX8_limpsOf 74 = .ok (.isub, 1) := by decide +kernel
theorem dX8_limpsOf_75 : decode cX8_limpsOf 75 = .ok (.goto 4, 3) := by decide +kernel
theorem dX8_limpsOf_78 : decode cX8_limpsOf 78 = .ok (.iconst 0, 1) := by decide +kernel
theorem dX8_limpsOf_79 : decode cX8_limpsOf 79 = .ok (.ireturn, 1) := by decide +kernel
theorem dX8_limps_0 : decode cX8_limps 0 = .ok (.aload_n 0, 1) := by decide +kernel
theorem dX8_limps_1 : decode cX8_limps 1 = .ok (.iload_n 1, 1) := by decide +kernel
theorem dX8_limps_2 : decode cX8_limps 2 = .ok (.invokevirtual 104, 3) := by decide +kernel
theorem dX8_limps_5 : decode cX8_limps 5 = .ok (.ifCond .eq 28, 3) := by decide +kernel
theorem dX8_limps_8 : decode cX8_limps 8 = .ok (.aload_n 0, 1) := by decide +kernel
theorem dX8_limps_9 : decode cX8_limps 9 = .ok (.iload_n 2, 1) := by decide +kernel
theorem dX8_limps_10 : decode cX8_limps 10 = .ok (.invokevirtual 116, 3) := by decide +kernel
theorem dX8_limps_13 : decode cX8_limps 13 = .ok (.ifCond .eq 20, 3) := by decide +kernel
theorem dX8_limps_16 : decode cX8_limps 16 = .ok (.iload_n 3, 1) := by decide +kernel
theorem dX8_limps_17 : decode cX8_limps 17 = .ok (.invokestatic 135, 3) := by decide +kernel
theorem dX8_limps_20 : decode cX8_limps 20 = .ok (.ifCond .eq 13, 3) := by decide +kernel
theorem dX8_limps_23 : decode cX8_limps 23 = .ok (.aload_n 0, 1) := by decide +kernel
theorem dX8_limps_24 : decode cX8_limps 24 = .ok (.iload_n 1, 1) := by decide +kernel
theorem dX8_limps_25 : decode cX8_limps 25 = .ok (.iload_n 2, 1) := by decide +kernel
theorem dX8_limps_26 : decode cX8_limps 26 = .ok (.iload_n 3, 1) := by decide +kernel
theorem dX8_limps_27 : decode cX8_limps 27 = .ok (.invokevirtual 205, 3) := by decide +kernel
theorem dX8_limps_30 : decode cX8_limps 30 = .ok (.goto 5, 3) := by decide +kernel
theorem dX8_limps_33 : decode cX8_limps 33 = .ok (.ldc 208, 2) := by decide +kernel
theorem dX8_limps_35 : decode cX8_limps 35 = .ok (.ireturn, 1) := by decide +kernel
theorem dX8_triesOf_0 : decode cX8_triesOf 0 = .ok (.iload_n 1, 1) := by decide +kernel
theorem dX8_triesOf_1 : decode cX8_triesOf 1 = .ok (.iload_n 2, 1) := by decide +kernel
theorem dX8_triesOf_2 : decode cX8_triesOf 2 = .ok (.if_icmp .lt 7, 3) := by decide +kernel
theorem dX8_triesOf_5 : decode cX8_triesOf 5 = .ok (.iconst 0, 1) := by decide +kernel
theorem dX8_triesOf_6 : decode cX8_triesOf 6 = .ok (.goto 20, 3) := by decide +kernel
theorem dX8_triesOf_9 : decode cX8_triesOf 9 = .ok (.aload_n 0, 1) := by decide +kernel
theorem dX8_triesOf_10 : decode cX8_triesOf 10 = .ok (.getfield 45, 3) := by decide +kernel
theorem dX8_triesOf_13 : decode cX8_triesOf 13 = .ok (.bipush 41, 2) := by decide +kernel
theorem dX8_triesOf_15 : decode cX8_triesOf 15 = .ok (.iload_n 1, 1) := by decide +kernel
theorem dX8_triesOf_16 : decode cX8_triesOf 16 = .ok (.bipush 20, 2) := by decide +kernel
theorem dX8_triesOf_18 : decode cX8_triesOf 18 = .ok (.isub, 1) := by decide +kernel
theorem dX8_triesOf_19 : decode cX8_triesOf 19 = .ok (.imul, 1) := by decide +kernel
theorem dX8_triesOf_20 : decode cX8_triesOf 20 = .ok (.iload_n 2, 1) := by decide +kernel
theorem dX8_triesOf_21 : decode cX8_triesOf 21 = .ok (.iadd, 1) := by decide +kernel
theorem dX8_triesOf_22 : decode cX8_triesOf 22 = .ok (.bipush 20, 2) := by decide +kernel
theorem dX8_triesOf_24 : decode cX8_triesOf 24 = .ok (.isub, 1) := by decide +kernel
theorem dX8_triesOf_25 : decode cX8_triesOf 25 = .ok (.iaload, 1) := by decide +kernel
theorem dX8_triesOf_26 : decode cX8_triesOf 26 = .ok (.ireturn, 1) := by decide +kernel
theorem dX8_triesBy_0 : decode cX8_triesBy 0 = .ok (.aload_n 0, 1) := by decide +kernel
theorem dX8_triesBy_1 : decode cX8_triesBy 1 = .ok (.iload_n 1, 1) := by decide +kernel
theorem dX8_triesBy_2 : decode cX8_triesBy 2 = .ok (.iload_n 3, 1) := by decide +kernel
theorem dX8_triesBy_3 : decode cX8_triesBy 3 = .ok (.iconst 1, 1) := by decide +kernel
theorem dX8_triesBy_4 : decode cX8_triesBy 4 = .ok (.isub, 1) := by decide +kernel
theorem dX8_triesBy_5 : decode cX8_triesBy 5 = .ok (.invokevirtual 209, 3) := by decide +kernel
theorem dX8_triesBy_8 : decode cX8_triesBy 8 = .ok (.istore 4, 2) := by decide +kernel
theorem dX8_triesBy_10 : decode cX8_triesBy 10 = .ok (.aload_n 0, 1) := by decide +kernel
theorem dX8_triesBy_11 : decode cX8_triesBy 11 = .ok (.iload_n 3, 1) := by decide +kernel
theorem dX8_triesBy_12 : decode cX8_triesBy 12 = .ok (.iconst 1, 1) := by decide +kernel
theorem dX8_triesBy_13 : decode cX8_triesBy 13 = .ok (.iadd, 1) := by decide +kernel
theorem dX8_triesBy_14 : decode cX8_triesBy 14 = .ok (.iload_n 2, 1) := by decide +kernel
theorem dX8_triesBy_15 : decode cX8_triesBy 15 = .ok (.invokevirtual 209, 3) := by decide +kernel
theorem dX8_triesBy_18 : decode cX8_triesBy 18 = .ok (.istore 5, 2) := by decide +kernel
theorem dX8_triesBy_20 : decode cX8_triesBy 20 = .ok (.iconst 1, 1) := by decide +kernel
theorem dX8_triesBy_21 : decode cX8_triesBy 21 = .ok (.iload 4, 2) := by decide +kernel
theorem dX8_triesBy_23 : decode cX8_triesBy 23 = .ok (.iload 5, 2) := by decide +kernel
theorem dX8_triesBy_25 : decode cX8_triesBy 25 = .ok (.if_icmp .le 8, 3) := by decide +kernel
theorem dX8_triesBy_28 : decode cX8_triesBy 28 = .ok (.iload 4, 2) := by decide +kernel
theorem dX8_triesBy_30 : decode cX8_triesBy 30 = .ok (.goto 5, 3) := by decide +kernel
theorem dX8_triesBy_33 : decode cX8_triesBy 33 = .ok (.iload 5, 2) := by decide +kernel
theorem dX8_triesBy_35 : decode cX8_triesBy 35 = .ok (.iadd, 1) := by decide +kernel
theorem dX8_triesBy_36 : decode cX8_triesBy 36 = .ok (.ireturn, 1) := by decide +kernel
theorem dX8_findTries_0 : decode cX8_findTries 0 = .ok (.iconst 0, 1) := by decide +kernel
theorem dX8_findTries_1 : decode cX8_findTries 1 = .ok (.istore_n 2, 1) := by decide +kernel
theorem dX8_findTries_2 : decode cX8_findTries 2 = .ok (.iload_n 2, 1) := by decide +kernel
theorem dX8_findTries_3 : decode cX8_findTries 3 = .ok (.bipush 71, 2) := by decide +kernel
theorem dX8_findTries_5 : decode cX8_findTries 5 = .ok (.if_icmp .ge 16, 3) := by decide +kernel
theorem dX8_findTries_8 : decode cX8_findTries 8 = .ok (.aload_n 0, 1) := by decide +kernel
theorem dX8_findTries_9 : decode cX8_findTries 9 = .ok (.getfield 42, 3) := by decide +kernel
theorem dX8_findTries_12 : decode cX8_findTries 12 = .ok (.iload_n 2, 1) := by decide +kernel
theorem dX8_findTries_13 : decode cX8_findTries 13 = .ok (.iconst 0, 1) := by decide +kernel
theorem dX8_findTries_14 : decode cX8_findTries 14 = .ok (.bastore, 1) := by decide +kernel
theorem dX8_findTries_15 : decode cX8_findTries 15 = .ok (.iinc 2 1, 3) := by decide +kernel
theorem dX8_findTries_18 : decode cX8_findTries 18 = .ok (.goto (-16), 3) := by decide +kernel
theorem dX8_findTries_21 : decode cX8_findTries 21 = .ok (.iconst 0, 1) := by decide +kernel
theorem dX8_findTries_22 : decode cX8_findTries 22 = .ok (.istore_n 2, 1) := by decide +kernel
theorem dX8_findTries_23 : decode cX8_findTries 23 = .ok (.iload_n 2, 1) := by decide +kernel
theorem dX8_findTries_24 : decode cX8_findTries 24 = .ok (.aload_n 0, 1) := by decide +kernel
theorem dX8_findTries_25 : decode cX8_findTries 25 = .ok (.getfield 89, 3) := by decide +kernel
theorem dX8_findTries_28 : decode cX8_findTries 28 = .ok (.if_icmp .ge 72, 3) := by decide +kernel
theorem dX8_findTries_31 : decode cX8_findTries 31 = .ok (.aload_n 0, 1) := by decide +kernel
theorem dX8_findTries_32 : decode cX8_findTries 32 = .ok (.getfield 42, 3) := by decide +kernel
theorem dX8_findTries_35 : decode cX8_findTries 35 = .ok (.aload_n 0, 1) := by decide +kernel
theorem dX8_findTries_36 : decode cX8_findTries 36 = .ok (.getfield 13, 3) := by decide +kernel
theorem dX8_findTries_39 : decode cX8_findTries 39 = .ok (.iconst 4, 1) := by decide +kernel
theorem dX8_findTries_40 : decode cX8_findTries 40 = .ok (.iload_n 2, 1) := by decide +kernel
theorem dX8_findTries_41 : decode cX8_findTries 41 = .ok (.imul, 1) := by decide +kernel
theorem dX8_findTries_42 : decode cX8_findTries 42 = .ok (.iconst 1, 1) := by decide +kernel
theorem dX8_findTries_43 : decode cX8_findTries 43 = .ok (.iadd, 1) := by decide +kernel
theorem dX8_findTries_44 : decode cX8_findTries 44 = .ok (.iaload, 1) := by decide +kernel
theorem dX8_findTries_45 : decode cX8_findTries 45 = .ok (.aload_n 0, 1) := by decide +kernel
theorem dX8_findTries_46 : decode cX8_findTries 46 = .ok (.getfield 42, 3) := by decide +kernel
theorem dX8_findTries_49 : decode cX8_findTries 49 = .ok (.aload_n 0, 1) := by decide +kernel
theorem dX8_findTries_50 : decode cX8_findTries 50 = .ok (.getfield 13, 3) := by decide +kernel
theorem dX8_findTries_53 : decode cX8_findTries 53 = .ok (.iconst 4, 1) := by decide +kernel
theorem dX8_findTries_54 : decode cX8_findTries 54 = .ok (.iload_n 2, 1) := by decide +kernel
theorem dX8_findTries_55 : decode cX8_findTries 55 = .ok (.imul, 1) := by decide +kernel
theorem dX8_findTries_56 : decode cX8_findTries 56 = .ok (.iconst 1, 1) := by decide +kernel
theorem dX8_findTries_57 : decode cX8_findTries 57 = .ok (.iadd, 1) := by decide +kernel
theorem dX8_findTries_58 : decode cX8_findTries 58 = .ok (.iaload, 1) := by decide +kernel
theorem dX8_findTries_59 : decode cX8_findTries 59 = .ok (.baload, 1) := by decide +kernel
theorem dX8_findTries_60 : decode cX8_findTries 60 = .ok (.ifCond .ne 28, 3) := by decide +kernel
theorem dX8_findTries_63 : decode cX8_findTries 63 = .ok (.aload_n 0, 1) := by decide +kernel
theorem dX8_findTries_64 : decode cX8_findTries 64 = .ok (.getfield 13, 3) := by decide +kernel
theorem dX8_findTries_67 : decode cX8_findTries 67 = .ok (.iconst 4, 1) := by decide +kernel
theorem dX8_findTries_68 : decode cX8_findTries 68 = .ok (.iload_n 2, 1) := by decide +kernel
theorem dX8_findTries_69 : decode cX8_findTries 69 = .ok (.imul, 1) := by decide +kernel
theorem dX8_findTries_70 : decode cX8_findTries 70 = .ok (.iaload, 1) := by decide +kernel
theorem dX8_findTries_71 : decode cX8_findTries 71 = .ok (.iload_n 1, 1) := by decide +kernel
theorem dX8_findTries_72 : decode cX8_findTries 72 = .ok (.if_icmp .ne 20, 3) := by decide +kernel
theorem dX8_findTries_75 : decode cX8_findTries 75 = .ok (.aload_n 0, 1) := by decide +kernel
theorem dX8_findTries_76 : decode cX8_findTries 76 = .ok (.getfield 13, 3) := by decide +kernel
theorem dX8_findTries_79 : decode cX8_findTries 79 = .ok (.iconst 4, 1) := by decide +kernel
theorem dX8_findTries_80 : decode cX8_findTries 80 = .ok (.iload_n 2, 1) := by decide +kernel
theorem dX8_findTries_81 : decode cX8_findTries 81 = .ok (.imul, 1) := by decide +kernel
theorem dX8_findTries_82 : decode cX8_findTries 82 = .ok (.iconst 3, 1) := by decide +kernel
theorem dX8_findTries_83 : decode cX8_findTries 83 = .ok (.iadd, 1) := by decide +kernel
theorem dX8_findTries_84 : decode cX8_findTries 84 = .ok (.iaload, 1) := by decide +kernel
theorem dX8_findTries_85 : decode cX8_findTries 85 = .ok (.ifCond .ne 7, 3) := by decide +kernel
theorem dX8_findTries_88 : decode cX8_findTries 88 = .ok (.iconst 1, 1) := by decide +kernel
theorem dX8_findTries_89 : decode cX8_findTries 89 = .ok (.goto 4, 3) := by decide +kernel
theorem dX8_findTries_92 : decode cX8_findTries 92 = .ok (.iconst 0, 1) := by decide +kernel
theorem dX8_findTries_93 : decode cX8_findTries 93 = .ok (.bastore, 1) := by decide +kernel
theorem dX8_findTries_94 : decode cX8_findTries 94 = .ok (.iinc 2 1, 3) := by decide +kernel
theorem dX8_findTries_97 : decode cX8_findTries 97 = .ok (.goto (-74), 3) := by decide +kernel
theorem dX8_findTries_100 : decode cX8_findTries 100 = .ok (.iconst 1, 1) := by decide +kernel
theorem dX8_findTries_101 : decode cX8_findTries 101 = .ok (.istore_n 2, 1) := by decide +kernel
theorem dX8_findTries_102 : decode cX8_findTries 102 = .ok (.iload_n 2, 1) := by decide +kernel
theorem dX8_findTries_103 : decode cX8_findTries 103 = .ok (.bipush 41, 2) := by decide +kernel
theorem dX8_findTries_105 : decode cX8_findTries 105 = .ok (.if_icmp .ge 111, 3) := by decide +kernel
theorem dX8_findTries_108 : decode cX8_findTries 108 = .ok (.bipush 20, 2) := by decide +kernel
theorem dX8_findTries_110 : decode cX8_findTries 110 = .ok (.istore_n 3, 1) := by decide +kernel
theorem dX8_findTries_111 : decode cX8_findTries 111 = .ok (.iload_n 3, 1) := by decide +kernel
theorem dX8_findTries_112 : decode cX8_findTries 112 = .ok (.iload_n 2, 1) := by decide +kernel
theorem dX8_findTries_113 : decode cX8_findTries 113 = .ok (.iadd, 1) := by decide +kernel
theorem dX8_findTries_114 : decode cX8_findTries 114 = .ok (.bipush 60, 2) := by decide +kernel
theorem dX8_findTries_116 : decode cX8_findTries 116 = .ok (.if_icmp .gt 94, 3) := by decide +kernel
theorem dX8_findTries_119 : decode cX8_findTries 119 = .ok (.ldc 192, 2) := by decide +kernel
theorem dX8_findTries_121 : decode cX8_findTries 121 = .ok (.istore 4, 2) := by decide +kernel
theorem dX8_findTries_123 : decode cX8_findTries 123 = .ok (.iload_n 3, 1) := by decide +kernel
theorem dX8_findTries_124 : decode cX8_findTries 124 = .ok (.istore 5, 2) := by decide +kernel
theorem dX8_findTries_126 : decode cX8_findTries 126 = .ok (.iload 5, 2) := by decide +kernel
theorem dX8_findTries_128 : decode cX8_findTries 128 = .ok (.iload_n 3, 1) := by decide +kernel
theorem dX8_findTries_129 : decode cX8_findTries 129 = .ok (.iload_n 2, 1) := by decide +kernel
theorem dX8_findTries_130 : decode cX8_findTries 130 = .ok (.iadd, 1) := by decide +kernel
theorem dX8_findTries_131 : decode cX8_findTries 131 = .ok (.if_icmp .gt 52, 3) := by decide +kernel
theorem dX8_findTries_134 : decode cX8_findTries 134 = .ok (.aload_n 0, 1) := by decide +kernel
theorem dX8_findTries_135 : decode cX8_findTries 135 = .ok (.getfield 42, 3) := by decide +kernel
theorem dX8_findTries_138 : decode cX8_findTries 138 = .ok (.iload 5, 2) := by decide +kernel
theorem dX8_findTries_140 : decode cX8_findTries 140 = .ok (.baload, 1) := by decide +kernel
theorem dX8_findTries_141 : decode cX8_findTries 141 = .ok (.ifCond .eq 16, 3) := by decide +kernel
theorem dX8_findTries_144 : decode cX8_findTries 144 = .ok (.aload_n 0, 1) := by decide +kernel
theorem dX8_findTries_145 : decode cX8_findTries 145 = .ok (.iload_n 3, 1) := by decide +kernel
theorem dX8_findTries_146 : decode cX8_findTries 146 = .ok (.iload_n 3, 1) := by decide +kernel
theorem dX8_findTries_147 : decode cX8_findTries 147 = .ok (.iload_n 2, 1) := by decide +kernel
theorem dX8_findTries_148 : decode cX8_findTries 148 = .ok (.iadd, 1) := by decide +kernel
theorem dX8_findTries_149 : decode cX8_findTries 149 = .ok (.iload 5, 2) := by decide +kernel
theorem dX8_findTries_151 : decode cX8_findTries 151 = .ok (.invokevirtual 212, 3) := by decide +kernel
theorem dX8_findTries_154 : decode cX8_findTries 154 = .ok (.goto 5, 3) := by decide +kernel
theorem dX8_findTries_157 : decode cX8_findTries 157 = .ok (.ldc 192, 2) := by decide +kernel
theorem dX8_findTries_159 : decode cX8_findTries 159 = .ok (.istore 6, 2) := by decide +kernel
theorem dX8_findTries_161 : decode cX8_findTries 161 = .ok (.iload 6, 2) := by decide +kernel
theorem dX8_findTries_163 : decode cX8_findTries 163 = .ok (.iload 4, 2) := by decide +kernel
theorem dX8_findTries_165 : decode cX8_findTries 165 = .ok (.if_icmp .ge 8, 3) := by decide +kernel
theorem dX8_findTries_168 : decode cX8_findTries 168 = .ok (.iload 6, 2) := by decide +kernel
theorem dX8_findTries_170 : decode cX8_findTries 170 = .ok (.goto 5, 3) := by decide +kernel
theorem dX8_findTries_173 : decode cX8_findTries 173 = .ok (.iload 4, 2) := by decide +kernel
theorem dX8_findTries_175 : decode cX8_findTries 175 = .ok (.istore 4, 2) := by decide +kernel
theorem dX8_findTries_177 : decode cX8_findTries 177 = .ok (.iinc 5 1, 3) := by decide +kernel
theorem dX8_findTries_180 : decode cX8_findTries 180 = .ok (.goto (-54), 3) := by decide +kernel
theorem dX8_findTries_183 : decode cX8_findTries 183 = .ok (.aload_n 0, 1) := by decide +kernel
theorem dX8_findTries_184 : decode cX8_findTries 184 = .ok (.getfield 45, 3) := by decide +kernel
theorem dX8_findTries_187 : decode cX8_findTries 187 = .ok (.bipush 41, 2) := by decide +kernel
theorem dX8_findTries_189 : decode cX8_findTries 189 = .ok (.iload_n 3, 1) := by decide +kernel
theorem dX8_findTries_190 : decode cX8_findTries 190 = .ok (.bipush 20, 2) := by decide +kernel
theorem dX8_findTries_192 : decode cX8_findTries 192 = .ok (.isub, 1) := by decide +kernel
theorem dX8_findTries_193 : decode cX8_findTries 193 = .ok (.imul, 1) := by decide +kernel
theorem dX8_findTries_194 : decode cX8_findTries 194 = .ok (.iload_n 3, 1) := by decide +kernel
theorem dX8_findTries_195 : decode cX8_findTries 195 = .ok (.iadd, 1) := by decide +kernel
theorem dX8_findTries_196 : decode cX8_findTries 196 = .ok (.iload_n 2, 1) := by decide +kernel
theorem dX8_findTries_197 : decode cX8_findTries 197 = .ok (.iadd, 1) := by decide +kernel
theorem dX8_findTries_198 : decode cX8_findTries 198 = .ok (.bipush 20, 2) := by decide +kernel
theorem dX8_findTries_200 : decode cX8_findTries 200 = .ok (.isub, 1) := by decide +kernel
theorem dX8_findTries_201 : decode cX8_findTries 201 = .ok (.iload 4, 2) := by decide +kernel
theorem dX8_findTries_203 : decode cX8_findTries 203 = .ok (.iastore, 1) := by decide +kernel
theorem dX8_findTries_204 : decode cX8_findTries 204 = .ok (.iinc 3 1, 3) := by decide +kernel
theorem dX8_findTries_207 : decode cX8_findTries 207 = .ok (.goto (-96), 3) := by decide +kernel
theorem dX8_findTries_210 : decode cX8_findTries 210 = .ok (.iinc 2 1, 3) := by decide +kernel
theorem dX8_findTries_213 : decode cX8_findTries 213 = .ok (.goto (-111), 3) := by decide +kernel
theorem dX8_findTries_216 : decode cX8_findTries 216 = .ok (.return_, 1) := by decide +kernel
theorem dX8_tries_0 : decode cX8_tries 0 = .ok (.iload_n 1, 1) := by decide +kernel
theorem dX8_tries_1 : decode cX8_tries 1 = .ok (.i2l, 1) := by decide +kernel
theorem dX8_tries_2 : decode cX8_tries 2 = .ok (.lconst 0, 1) := by decide +kernel
theorem dX8_tries_3 : decode cX8_tries 3 = .ok (.lconst 1, 1) := by decide +kernel
theorem dX8_tries_4 : decode cX8_tries 4 = .ok (.invokestatic 85, 3) := by decide +kernel
theorem dX8_tries_7 : decode cX8_tries 7 = .ok (.ifCond .eq 33, 3) := by decide +kernel
theorem dX8_tries_10 : decode cX8_tries 10 = .ok (.iload_n 2, 1) := by decide +kernel
theorem dX8_tries_11 : decode cX8_tries 11 = .ok (.i2l, 1) := by decide +kernel
theorem dX8_tries_12 : decode cX8_tries 12 = .ok (.ldc2_w 94, 3) := by decide +kernel
theorem dX8_tries_15 : decode cX8_tries 15 = .ok (.iload_n 3, 1) := by decide +kernel
theorem dX8_tries_16 : decode cX8_tries 16 = .ok (.i2l, 1) := by decide +kernel
theorem dX8_tries_17 : decode cX8_tries 17 = .ok (.invokestatic 85, 3) := by decide +kernel
theorem dX8_tries_20 : decode cX8_tries 20 = .ok (.ifCond .eq 20, 3) := by decide +kernel
theorem dX8_tries_23 : decode cX8_tries 23 = .ok (.iload_n 3, 1) := by decide +kernel
theorem dX8_tries_24 : decode cX8_tries 24 = .ok (.bipush 60, 2) := by decide +kernel
theorem dX8_tries_26 : decode cX8_tries 26 = .ok (.if_icmp .gt 14, 3) := by decide +kernel
theorem dX8_tries_29 : decode cX8_tries 29 = .ok (.iload 4, 2) := by decide +kernel
theorem dX8_tries_31 : decode cX8_tries 31 = .ok (.i2l, 1) := by decide +kernel
theorem dX8_tries_32 : decode cX8_tries 32 = .ok (.lconst 0, 1) := by decide +kernel
theorem dX8_tries_33 : decode cX8_tries 33 = .ok (.lconst 1, 1) := by decide +kernel
theorem dX8_tries_34 : decode cX8_tries 34 = .ok (.invokestatic 85, 3) := by decide +kernel
theorem dX8_tries_37 : decode cX8_tries 37 = .ok (.ifCond .ne 5, 3) := by decide +kernel
theorem dX8_tries_40 : decode cX8_tries 40 = .ok (.iconst (-1), 1) := by decide +kernel
theorem dX8_tries_41 : decode cX8_tries 41 = .ok (.ireturn, 1) := by decide +kernel
theorem dX8_tries_42 : decode cX8_tries 42 = .ok (.aload_n 0, 1) := by decide +kernel
theorem dX8_tries_43 : decode cX8_tries 43 = .ok (.iload_n 1, 1) := by decide +kernel
theorem dX8_tries_44 : decode cX8_tries 44 = .ok (.invokevirtual 215, 3) := by decide +kernel
theorem dX8_tries_47 : decode cX8_tries 47 = .ok (.aload_n 0, 1) := by decide +kernel
theorem dX8_tries_48 : decode cX8_tries 48 = .ok (.iload_n 2, 1) := by decide +kernel
theorem dX8_tries_49 : decode cX8_tries 49 = .ok (.iload_n 3, 1) := by decide +kernel
theorem dX8_tries_50 : decode cX8_tries 50 = .ok (.invokevirtual 209, 3) := by decide +kernel
theorem dX8_tries_53 : decode cX8_tries 53 = .ok (.istore 5, 2) := by decide +kernel
theorem dX8_tries_55 : decode cX8_tries 55 = .ok (.iload 4, 2) := by decide +kernel
theorem dX8_tries_57 : decode cX8_tries 57 = .ok (.ifCond .ne 18, 3) := by decide +kernel
theorem dX8_tries_60 : decode cX8_tries 60 = .ok (.iload 5, 2) := by decide +kernel
theorem dX8_tries_62 : decode cX8_tries 62 = .ok (.ldc 192, 2) := by decide +kernel
theorem dX8_tries_64 : decode cX8_tries 64 = .ok (.if_icmp .lt 8, 3) := by decide +kernel
theorem dX8_tries_67 : decode cX8_tries 67 = .ok (.bipush (-4), 2) := by decide +kernel
theorem dX8_tries_69 : decode cX8_tries 69 = .ok (.goto 5, 3) := by decide +kernel
theorem dX8_tries_72 : decode cX8_tries 72 = .ok (.iload 5, 2) := by decide +kernel
theorem dX8_tries_74 : decode cX8_tries 74 = .ok (.ireturn, 1) := by decide +kernel
theorem dX8_tries_75 : decode cX8_tries 75 = .ok (.iload 5, 2) := by decide +kernel
theorem dX8_tries_77 : decode cX8_tries 77 = .ok (.ldc 192, 2) := by decide +kernel
theorem dX8_tries_79 : decode cX8_tries 79 = .ok (.if_icmp .ge 8, 3) := by decide +kernel
theorem dX8_tries_82 : decode cX8_tries 82 = .ok (.iload 5, 2) := by decide +kernel
theorem dX8_tries_84 : decode cX8_tries 84 = .ok (.ifCond .ne 6, 3) := by decide +kernel
theorem dX8_tries_87 : decode cX8_tries 87 = .ok (.bipush (-4), 2) := by decide +kernel
theorem dX8_tries_89 : decode cX8_tries 89 = .ok (.ireturn, 1) := by decide +kernel
theorem dX8_tries_90 : decode cX8_tries 90 = .ok (.iload_n 2, 1) := by decide +kernel
theorem dX8_tries_91 : decode cX8_tries 91 = .ok (.istore 6, 2) := by decide +kernel
theorem dX8_tries_93 : decode cX8_tries 93 = .ok (.aload_n 0, 1) := by decide +kernel
theorem dX8_tries_94 : decode cX8_tries 94 = .ok (.getfield 42, 3) := by decide +kernel
theorem dX8_tries_97 : decode cX8_tries 97 = .ok (.iload 6, 2) := by decide +kernel
theorem dX8_tries_99 : decode cX8_tries 99 = .ok (.baload, 1) := by decide +kernel
theorem dX8_tries_100 : decode cX8_tries 100 = .ok (.ifCond .eq 16, 3) := by decide +kernel
theorem dX8_tries_103 : decode cX8_tries 103 = .ok (.aload_n 0, 1) := by decide +kernel
theorem dX8_tries_104 : decode cX8_tries 104 = .ok (.iload_n 2, 1) := by decide +kernel
theorem dX8_tries_105 : decode cX8_tries 105 = .ok (.iload_n 3, 1) := by decide +kernel
theorem dX8_tries_106 : decode cX8_tries 106 = .ok (.iload 6, 2) := by decide +kernel
theorem dX8_tries_108 : decode cX8_tries 108 = .ok (.invokevirtual 212, 3) := by decide +kernel
theorem dX8_tries_111 : decode cX8_tries 111 = .ok (.iload 5, 2) := by decide +kernel
theorem dX8_tries_113 : decode cX8_tries 113 = .ok (.if_icmp .eq 9, 3) := by decide +kernel
theorem dX8_tries_116 : decode cX8_tries 116 = .ok (.iinc 6 1, 3) := by decide +kernel
theorem dX8_tries_119 : decode cX8_tries 119 = .ok (.goto (-26), 3) := by decide +kernel
theorem dX8_tries_122 : decode cX8_tries 122 = .ok (.iload 6, 2) := by decide +kernel
theorem dX8_tries_124 : decode cX8_tries 124 = .ok (.ireturn, 1) := by decide +kernel
theorem dX8_image_0 : decode cX8_image 0 = .ok (.iconst 0, 1) := by decide +kernel
theorem dX8_image_1 : decode cX8_image 1 = .ok (.istore_n 1, 1) := by decide +kernel
theorem dX8_image_2 : decode cX8_image 2 = .ok (.iload_n 1, 1) := by decide +kernel
theorem dX8_image_3 : decode cX8_image 3 = .ok (.bipush 28, 2) := by decide +kernel
theorem dX8_image_5 : decode cX8_image 5 = .ok (.if_icmp .ge 21, 3) := by decide +kernel
theorem dX8_image_8 : decode cX8_image 8 = .ok (.aload_n 0, 1) := by decide +kernel
theorem dX8_image_9 : decode cX8_image 9 = .ok (.getfield 48, 3) := by decide +kernel
theorem dX8_image_12 : decode cX8_image 12 = .ok (.iload_n 1, 1) := by decide +kernel
theorem dX8_image_13 : decode cX8_image 13 = .ok (.aload_n 0, 1) := by decide +kernel
theorem dX8_image_14 : decode cX8_image 14 = .ok (.getfield 7, 3) := by decide +kernel
theorem dX8_image_17 : decode cX8_image 17 = .ok (.iload_n 1, 1) := by decide +kernel
theorem dX8_image_18 : decode cX8_image 18 = .ok (.iaload, 1) := by decide +kernel
theorem dX8_image_19 : decode cX8_image 19 = .ok (.iastore, 1) := by decide +kernel
theorem dX8_image_20 : decode cX8_image 20 = .ok (.iinc 1 1, 3) := by decide +kernel
theorem dX8_image_23 : decode cX8_image 23 = .ok (.goto (-21), 3) := by decide +kernel
theorem dX8_image_26 : decode cX8_image 26 = .ok (.iconst 0, 1) := by decide +kernel
theorem dX8_image_27 : decode cX8_image 27 = .ok (.istore_n 1, 1) := by decide +kernel
theorem dX8_image_28 : decode cX8_image 28 = .ok (.iload_n 1, 1) := by decide +kernel
theorem dX8_image_29 : decode cX8_image 29 = .ok (.bipush 64, 2) := by decide +kernel
theorem dX8_image_31 : decode cX8_image 31 = .ok (.if_icmp .ge 24, 3) := by decide +kernel
theorem dX8_image_34 : decode cX8_image 34 = .ok (.aload_n 0, 1) := by decide +kernel
theorem dX8_image_35 : decode cX8_image 35 = .ok (.getfield 48, 3) := by decide +kernel
theorem dX8_image_38 : decode cX8_image 38 = .ok (.bipush 28, 2) := by decide +kernel
theorem dX8_image_40 : decode cX8_image 40 = .ok (.iload_n 1, 1) := by decide +kernel
theorem dX8_image_41 : decode cX8_image 41 = .ok (.iadd, 1) := by decide +kernel
theorem dX8_image_42 : decode cX8_image 42 = .ok (.aload_n 0, 1) := by decide +kernel
theorem dX8_image_43 : decode cX8_image 43 = .ok (.getfield 13, 3) := by decide +kernel
theorem dX8_image_46 : decode cX8_image 46 = .ok (.iload_n 1, 1) := by decide +kernel
theorem dX8_image_47 : decode cX8_image 47 = .ok (.iaload, 1) := by decide +kernel
theorem dX8_image_48 : decode cX8_image 48 = .ok (.iastore, 1) := by decide +kernel
theorem dX8_image_49 : decode cX8_image 49 = .ok (.iinc 1 1, 3) := by decide +kernel
theorem dX8_image_52 : decode cX8_image 52 = .ok (.goto (-24), 3) := by decide +kernel
theorem dX8_image_55 : decode cX8_image 55 = .ok (.aload_n 0, 1) := by decide +kernel
theorem dX8_image_56 : decode cX8_image 56 = .ok (.getfield 48, 3) := by decide +kernel
theorem dX8_image_59 : decode cX8_image 59 = .ok (.bipush 92, 2) := by decide +kernel
theorem dX8_image_61 : decode cX8_image 61 = .ok (.aload_n 0, 1) := by decide +kernel
theorem dX8_image_62 : decode cX8_image 62 = .ok (.getfield 16, 3) := by decide +kernel
theorem dX8_image_65 : decode cX8_image 65 = .ok (.iconst 0, 1) := by decide +kernel
theorem dX8_image_66 : decode cX8_image 66 = .ok (.iaload, 1) := by decide +kernel
theorem dX8_image_67 : decode cX8_image 67 = .ok (.iastore, 1) := by decide +kernel
theorem dX8_image_68 : decode cX8_image 68 = .ok (.aload_n 0, 1) := by decide +kernel
theorem dX8_image_69 : decode cX8_image 69 = .ok (.getfield 48, 3) := by decide +kernel
theorem dX8_image_72 : decode cX8_image 72 = .ok (.bipush 93, 2) := by decide +kernel
theorem dX8_image_74 : decode cX8_image 74 = .ok (.aload_n 0, 1) := by decide +kernel
theorem dX8_image_75 : decode cX8_image 75 = .ok (.getfield 16, 3) := by decide +kernel
theorem dX8_image_78 : decode cX8_image 78 = .ok (.iconst 1, 1) := by decide +kernel
theorem dX8_image_79 : decode cX8_image 79 = .ok (.iaload, 1) := by decide +kernel
theorem dX8_image_80 : decode cX8_image 80 = .ok (.iastore, 1) := by decide +kernel
theorem dX8_image_81 : decode cX8_image 81 = .ok (.aload_n 0, 1) := by decide +kernel
theorem dX8_image_82 : decode cX8_image 82 = .ok (.aload_n 0, 1) := by decide +kernel
theorem dX8_image_83 : decode cX8_image 83 = .ok (.getfield 81, 3) := by decide +kernel
theorem dX8_image_86 : decode cX8_image 86 = .ok (.putfield 218, 3) := by decide +kernel
theorem dX8_image_89 : decode cX8_image 89 = .ok (.aload_n 0, 1) := by decide +kernel
theorem dX8_image_90 : decode cX8_image 90 = .ok (.aload_n 0, 1) := by decide +kernel
theorem dX8_image_91 : decode cX8_image 91 = .ok (.getfield 89, 3) := by decide +kernel
theorem dX8_image_94 : decode cX8_image 94 = .ok (.putfield 221, 3) := by decide +kernel
theorem dX8_image_97 : decode cX8_image 97 = .ok (.aload_n 0, 1) := by decide +kernel
theorem dX8_image_98 : decode cX8_image 98 = .ok (.iconst 1, 1) := by decide +kernel
theorem dX8_image_99 : decode cX8_image 99 = .ok (.putfield 224, 3) := by decide +kernel
theorem dX8_image_102 : decode cX8_image 102 = .ok (.iconst 1, 1) := by decide +kernel
theorem dX8_image_103 : decode cX8_image 103 = .ok (.ireturn, 1) := by decide +kernel
theorem dX8_restore_0 : decode cX8_restore 0 = .ok (.aload_n 0, 1) := by decide +kernel
theorem dX8_restore_1 : decode cX8_restore 1 = .ok (.getfield 224, 3) := by decide +kernel
theorem dX8_restore_4 : decode cX8_restore 4 = .ok (.ifCond .ne 6, 3) := by decide +kernel
theorem dX8_restore_7 : decode cX8_restore 7 = .ok (.bipush (-4), 2) := by decide +kernel
theorem dX8_restore_9 : decode cX8_restore 9 = .ok (.ireturn, 1) := by decide +kernel
theorem dX8_restore_10 : decode cX8_restore 10 = .ok (.iconst 0, 1) := by decide +kernel
theorem dX8_restore_11 : decode cX8_restore 11 = .ok (.istore_n 1, 1) := by decide +kernel
theorem dX8_restore_12 : decode cX8_restore 12 = .ok (.iload_n 1, 1) := by decide +kernel
theorem dX8_restore_13 : decode cX8_restore 13 = .ok (.bipush 28, 2) := by decide +kernel
theorem dX8_restore_15 : decode cX8_restore 15 = .ok (.if_icmp .ge 21, 3) := by decide +kernel
theorem dX8_restore_18 : decode cX8_restore 18 = .ok (.aload_n 0, 1) := by decide +kernel
theorem dX8_restore_19 : decode cX8_restore 19 = .ok (.getfield 7, 3) := by decide +kernel
theorem dX8_restore_22 : decode cX8_restore 22 = .ok (.iload_n 1, 1) := by decide +kernel
theorem dX8_restore_23 : decode cX8_restore 23 = .ok (.aload_n 0, 1) := by decide +kernel
theorem dX8_restore_24 : decode cX8_restore 24 = .ok (.getfield 48, 3) := by decide +kernel
theorem dX8_restore_27 : decode cX8_restore 27 = .ok (.iload_n 1, 1) := by decide +kernel
theorem dX8_restore_28 : decode cX8_restore 28 = .ok (.iaload, 1) := by decide +kernel
theorem dX8_restore_29 : decode cX8_restore 29 = .ok (.iastore, 1) := by decide +kernel
theorem dX8_restore_30 : decode cX8_restore 30 = .ok (.iinc 1 1, 3) := by decide +kernel
theorem dX8_restore_33 : decode cX8_restore 33 = .ok (.goto (-21), 3) := by decide +kernel
theorem dX8_restore_36 : decode cX8_restore 36 = .ok (.iconst 0, 1) := by decide +kernel
theorem dX8_restore_37 : decode cX8_restore 37 = .ok (.istore_n 1, 1) := by decide +kernel
theorem dX8_restore_38 : decode cX8_restore 38 = .ok (.iload_n 1, 1) := by decide +kernel
theorem dX8_restore_39 : decode cX8_restore 39 = .ok (.bipush 64, 2) := by decide +kernel
theorem dX8_restore_41 : decode cX8_restore 41 = .ok (.if_icmp .ge 24, 3) := by decide +kernel
theorem dX8_restore_44 : decode cX8_restore 44 = .ok (.aload_n 0, 1) := by decide +kernel
theorem dX8_restore_45 : decode cX8_restore 45 = .ok (.getfield 13, 3) := by decide +kernel
theorem dX8_restore_48 : decode cX8_restore 48 = .ok (.iload_n 1, 1) := by decide +kernel
theorem dX8_restore_49 : decode cX8_restore 49 = .ok (.aload_n 0, 1) := by decide +kernel
theorem dX8_restore_50 : decode cX8_restore 50 = .ok (.getfield 48, 3) := by decide +kernel
theorem dX8_restore_53 : decode cX8_restore 53 = .ok (.bipush 28, 2) := by decide +kernel
theorem dX8_restore_55 : decode cX8_restore 55 = .ok (.iload_n 1, 1) := by decide +kernel
theorem dX8_restore_56 : decode cX8_restore 56 = .ok (.iadd, 1) := by decide +kernel
theorem dX8_restore_57 : decode cX8_restore 57 = .ok (.iaload, 1) := by decide +kernel
theorem dX8_restore_58 : decode cX8_restore 58 = .ok (.iastore, 1) := by decide +kernel
theorem dX8_restore_59 : decode cX8_restore 59 = .ok (.iinc 1 1, 3) := by decide +kernel
theorem dX8_restore_62 : decode cX8_restore 62 = .ok (.goto (-24), 3) := by decide +kernel
theorem dX8_restore_65 : decode cX8_restore 65 = .ok (.aload_n 0, 1) := by decide +kernel
theorem dX8_restore_66 : decode cX8_restore 66 = .ok (.getfield 16, 3) := by decide +kernel
theorem dX8_restore_69 : decode cX8_restore 69 = .ok (.iconst 0, 1) := by decide +kernel
theorem dX8_restore_70 : decode cX8_restore 70 = .ok (.aload_n 0, 1) := by decide +kernel
theorem dX8_restore_71 : decode cX8_restore 71 = .ok (.getfield 48, 3) := by decide +kernel
theorem dX8_restore_74 : decode cX8_restore 74 = .ok (.bipush 92, 2) := by decide +kernel
theorem dX8_restore_76 : decode cX8_restore 76 = .ok (.iaload, 1) := by decide +kernel
theorem dX8_restore_77 : decode cX8_restore 77 = .ok (.iastore, 1) := by decide +kernel
theorem dX8_restore_78 : decode cX8_restore 78 = .ok (.aload_n 0, 1) := by decide +kernel
theorem dX8_restore_79 : decode cX8_restore 79 = .ok (.getfield 16, 3) := by decide +kernel
theorem dX8_restore_82 : decode cX8_restore 82 = .ok (.iconst 1, 1) := by decide +kernel
theorem dX8_restore_83 : decode cX8_restore 83 = .ok (.aload_n 0, 1) := by decide +kernel
theorem dX8_restore_84 : decode cX8_restore 84 = .ok (.getfield 48, 3) := by decide +kernel
theorem dX8_restore_87 : decode cX8_restore 87 = .ok (.bipush 93, 2) := by decide +kernel
theorem dX8_restore_89 : decode cX8_restore 89 = .ok (.iaload, 1) := by decide +kernel
theorem dX8_restore_90 : decode cX8_restore 90 = .ok (.iastore, 1) := by decide +kernel
theorem dX8_restore_91 : decode cX8_restore 91 = .ok (.aload_n 0, 1) := by decide +kernel
theorem dX8_restore_92 : decode cX8_restore 92 = .ok (.aload_n 0, 1) := by decide +kernel
theorem dX8_restore_93 : decode cX8_restore 93 = .ok (.getfield 218, 3) := by decide +kernel
theorem dX8_restore_96 : decode cX8_restore 96 = .ok (.putfield 81, 3) := by decide +kernel
theorem dX8_restore_99 : decode cX8_restore 99 = .ok (.aload_n 0, 1) := by decide +kernel
theorem dX8_restore_100 : decode cX8_restore 100 = .ok (.aload_n 0, 1) := by decide +kernel
theorem dX8_restore_101 : decode cX8_restore 101 = .ok (.getfield 221, 3) := by decide +kernel
theorem dX8_restore_104 : decode cX8_restore 104 = .ok (.putfield 89, 3) := by decide +kernel
theorem dX8_restore_107 : decode cX8_restore 107 = .ok (.iconst 1, 1) := by decide +kernel
theorem dX8_restore_108 : decode cX8_restore 108 = .ok (.ireturn, 1) := by decide +kernel
theorem dX8_isSheet_0 : decode cX8_isSheet 0 = .ok (.iload_n 0, 1) := by decide +kernel
theorem dX8_isSheet_1 : decode cX8_isSheet 1 = .ok (.i2l, 1) := by decide +kernel
theorem dX8_isSheet_2 : decode cX8_isSheet 2 = .ok (.lconst 0, 1) := by decide +kernel
theorem dX8_isSheet_3 : decode cX8_isSheet 3 = .ok (.ldc2_w 108, 3) := by decide +kernel
theorem dX8_isSheet_6 : decode cX8_isSheet 6 = .ok (.invokestatic 85, 3) := by decide +kernel
theorem dX8_isSheet_9 : decode cX8_isSheet 9 = .ok (.ifCond .eq 19, 3) := by decide +kernel
theorem dX8_isSheet_12 : decode cX8_isSheet 12 = .ok (.iload_n 1, 1) := by decide +kernel
theorem dX8_isSheet_13 : decode cX8_isSheet 13 = .ok (.i2l, 1) := by decide +kernel
theorem dX8_isSheet_14 : decode cX8_isSheet 14 = .ok (.lconst 0, 1) := by decide +kernel
theorem dX8_isSheet_15 : decode cX8_isSheet 15 = .ok (.ldc2_w 228, 3) := by decide +kernel
theorem dX8_isSheet_18 : decode cX8_isSheet 18 = .ok (.invokestatic 85, 3) := by decide +kernel
theorem dX8_isSheet_21 : decode cX8_isSheet 21 = .ok (.ifCond .eq 7, 3) := by decide +kernel
theorem dX8_isSheet_24 : decode cX8_isSheet 24 = .ok (.iconst 1, 1) := by decide +kernel
theorem dX8_isSheet_25 : decode cX8_isSheet 25 = .ok (.goto 4, 3) := by decide +kernel
theorem dX8_isSheet_28 : decode cX8_isSheet 28 = .ok (.iconst 0, 1) := by decide +kernel
theorem dX8_isSheet_29 : decode cX8_isSheet 29 = .ok (.ireturn, 1) := by decide +kernel
theorem dX8_sheet_0 : decode cX8_sheet 0 = .ok (.iload_n 1, 1) := by decide +kernel
theorem dX8_sheet_1 : decode cX8_sheet 1 = .ok (.iload_n 2, 1) := by decide +kernel
theorem dX8_sheet_2 : decode cX8_sheet 2 = .ok (.invokestatic 230, 3) := by decide +kernel
theorem dX8_sheet_5 : decode cX8_sheet 5 = .ok (.ifCond .eq 9, 3) := by decide +kernel
theorem dX8_sheet_8 : decode cX8_sheet 8 = .ok (.iload_n 3, 1) := by decide +kernel
theorem dX8_sheet_9 : decode cX8_sheet 9 = .ok (.bipush 100, 2) := by decide +kernel
theorem dX8_sheet_11 : decode cX8_sheet 11 = .ok (.if_icmp .le 5, 3) := by decide +kernel
theorem dX8_sheet_14 : decode cX8_sheet 14 = .ok (.iconst (-1), 1) := by decide +kernel
theorem dX8_sheet_15 : decode cX8_sheet 15 = .ok (.ireturn, 1) := by decide +kernel
theorem dX8_sheet_16 : decode cX8_sheet 16 = .ok (.iload_n 3, 1) := by decide +kernel
theorem dX8_sheet_17 : decode cX8_sheet 17 = .ok (.ifCond .ge 6, 3) := by decide +kernel
theorem dX8_sheet_20 : decode cX8_sheet 20 = .ok (.bipush (-14), 2) := by decide +kernel
theorem dX8_sheet_22 : decode cX8_sheet 22 = .ok (.ireturn, 1) := by decide +kernel
theorem dX8_sheet_23 : decode cX8_sheet 23 = .ok (.aload_n 0, 1) := by decide +kernel
theorem dX8_sheet_24 : decode cX8_sheet 24 = .ok (.getfield 51, 3) := by decide +kernel
theorem dX8_sheet_27 : decode cX8_sheet 27 = .ok (.iload_n 1, 1) := by decide +kernel
theorem dX8_sheet_28 : decode cX8_sheet 28 = .ok (.iload_n 2, 1) := by decide +kernel
theorem dX8_sheet_29 : decode cX8_sheet 29 = .ok (.iastore, 1) := by decide +kernel
theorem dX8_sheet_30 : decode cX8_sheet 30 = .ok (.aload_n 0, 1) := by decide +kernel
theorem dX8_sheet_31 : decode cX8_sheet 31 = .ok (.getfield 54, 3) := by decide +kernel
theorem dX8_sheet_34 : decode cX8_sheet 34 = .ok (.iload_n 1, 1) := by decide +kernel
theorem dX8_sheet_35 : decode cX8_sheet 35 = .ok (.iload_n 3, 1) := by decide +kernel
theorem dX8_sheet_36 : decode cX8_sheet 36 = .ok (.iastore, 1) := by decide +kernel
theorem dX8_sheet_37 : decode cX8_sheet 37 = .ok (.iconst 0, 1) := by decide +kernel
theorem dX8_sheet_38 : decode cX8_sheet 38 = .ok (.istore 4, 2) := by decide +kernel
theorem dX8_sheet_40 : decode cX8_sheet 40 = .ok (.iload 4, 2) := by decide +kernel
theorem dX8_sheet_42 : decode cX8_sheet 42 = .ok (.bipush 100, 2) := by decide +kernel
theorem dX8_sheet_44 : decode cX8_sheet 44 = .ok (.if_icmp .ge 22, 3) := by decide +kernel
theorem dX8_sheet_47 : decode cX8_sheet 47 = .ok (.aload_n 0, 1) := by decide +kernel
theorem dX8_sheet_48 : decode cX8_sheet 48 = .ok (.getfield 57, 3) := by decide +kernel
theorem dX8_sheet_51 : decode cX8_sheet 51 = .ok (.bipush 100, 2) := by decide +kernel
theorem dX8_sheet_53 : decode cX8_sheet 53 = .ok (.iload_n 1, 1) := by decide +kernel
theorem dX8_sheet_54 : decode cX8_sheet 54 = .ok (.imul, 1) := by decide +kernel
theorem dX8_sheet_55 : decode cX8_sheet 55 = .ok (.iload 4, 2) := by decide +kernel
theorem dX8_sheet_57 : decode cX8_sheet 57 = .ok (.iadd, 1) := by decide +kernel
theorem dX8_sheet_58 : decode cX8_sheet 58 = .ok (.iconst 0, 1) := by decide +kernel
theorem dX8_sheet_59 : decode cX8_sheet 59 = .ok (.iastore, 1) := by decide +kernel
theorem dX8_sheet_60 : decode cX8_sheet 60 = .ok (.iinc 4 1, 3) := by decide +kernel
theorem dX8_sheet_63 : decode cX8_sheet 63 = .ok (.goto (-23), 3) := by decide +kernel
theorem dX8_sheet_66 : decode cX8_sheet 66 = .ok (.iload_n 3, 1) := by decide +kernel
theorem dX8_sheet_67 : decode cX8_sheet 67 = .ok (.ireturn, 1) := by decide +kernel
theorem dX8_drop_0 : decode cX8_drop 0 = .ok (.iload_n 1, 1) := by decide +kernel
theorem dX8_drop_1 : decode cX8_drop 1 = .ok (.i2l, 1) := by decide +kernel
theorem dX8_drop_2 : decode cX8_drop 2 = .ok (.lconst 0, 1) := by decide +kernel
theorem dX8_drop_3 : decode cX8_drop 3 = .ok (.ldc2_w 108, 3) := by decide +kernel
theorem dX8_drop_6 : decode cX8_drop 6 = .ok (.invokestatic 85, 3) := by decide +kernel
theorem dX8_drop_9 : decode cX8_drop 9 = .ok (.ifCond .ne 5, 3) := by decide +kernel
theorem dX8_drop_12 : decode cX8_drop 12 = .ok (.iconst (-1), 1) := by decide +kernel
theorem dX8_drop_13 : decode cX8_drop 13 = .ok (.ireturn, 1) := by decide +kernel
theorem dX8_drop_14 : decode cX8_drop 14 = .ok (.aload_n 0, 1) := by decide +kernel
theorem dX8_drop_15 : decode cX8_drop 15 = .ok (.getfield 51, 3) := by decide +kernel
theorem dX8_drop_18 : decode cX8_drop 18 = .ok (.iload_n 1, 1) := by decide +kernel
theorem dX8_drop_19 : decode cX8_drop 19 = .ok (.iaload, 1) := by decide +kernel
theorem dX8_drop_20 : decode cX8_drop 20 = .ok (.ifCond .ge 6, 3) := by decide +kernel
theorem dX8_drop_23 : decode cX8_drop 23 = .ok (.bipush (-11), 2) := by decide +kernel
theorem dX8_drop_25 : decode cX8_drop 25 = .ok (.ireturn, 1) := by decide +kernel
theorem dX8_drop_26 : decode cX8_drop 26 = .ok (.aload_n 0, 1) := by decide +kernel
theorem dX8_drop_27 : decode cX8_drop 27 = .ok (.getfield 51, 3) := by decide +kernel
theorem dX8_drop_30 : decode cX8_drop 30 = .ok (.iload_n 1, 1) := by decide +kernel
theorem dX8_drop_31 : decode cX8_drop 31 = .ok (.iconst (-1), 1) := by decide +kernel
theorem dX8_drop_32 : decode cX8_drop 32 = .ok (.iastore, 1) := by decide +kernel
theorem dX8_drop_33 : decode cX8_drop 33 = .ok (.aload_n 0, 1) := by decide +kernel
theorem dX8_drop_34 : decode cX8_drop 34 = .ok (.getfield 54, 3) := by decide +kernel
theorem dX8_drop_37 : decode cX8_drop 37 = .ok (.iload_n 1, 1) := by decide +kernel
theorem dX8_drop_38 : decode cX8_drop 38 = .ok (.iaload, 1) := by decide +kernel
theorem dX8_drop_39 : decode cX8_drop 39 = .ok (.ireturn, 1) := by decide +kernel
theorem dX8_lacksRow_0 : decode cX8_lacksRow 0 = .ok (.aload_n 0, 1) := by decide +kernel
theorem dX8_lacksRow_1 : decode cX8_lacksRow 1 = .ok (.getfield 51, 3) := by decide +kernel
theorem dX8_lacksRow_4 : decode cX8_lacksRow 4 = .ok (.iload_n 1, 1) := by decide +kernel
theorem dX8_lacksRow_5 : decode cX8_lacksRow 5 = .ok (.iaload, 1) := by decide +kernel
theorem dX8_lacksRow_6 : decode cX8_lacksRow 6 = .ok (.iload_n 2, 1) := by decide +kernel
theorem dX8_lacksRow_7 : decode cX8_lacksRow 7 = .ok (.if_icmp .eq 20, 3) := by decide +kernel
theorem dX8_lacksRow_10 : decode cX8_lacksRow 10 = .ok (.aload_n 0, 1) := by decide +kernel
theorem dX8_lacksRow_11 : decode cX8_lacksRow 11 = .ok (.getfield 51, 3) := by decide +kernel
theorem dX8_lacksRow_14 : decode cX8_lacksRow 14 = .ok (.iload_n 1, 1) := by decide +kernel
theorem dX8_lacksRow_15 : decode cX8_lacksRow 15 = .ok (.iaload, 1) := by decide +kernel
theorem dX8_lacksRow_16 : decode cX8_lacksRow 16 = .ok (.ifCond .ge 8, 3) := by decide +kernel
theorem dX8_lacksRow_19 : decode cX8_lacksRow 19 = .ok (.bipush (-11), 2) := by decide +kernel
theorem dX8_lacksRow_21 : decode cX8_lacksRow 21 = .ok (.goto 5, 3) := by decide +kernel
theorem dX8_lacksRow_24 : decode cX8_lacksRow 24 = .ok (.bipush (-12), 2) := by decide +kernel
theorem dX8_lacksRow_26 : decode cX8_lacksRow 26 = .ok (.ireturn, 1) := by decide +kernel
theorem dX8_lacksRow_27 : decode cX8_lacksRow 27 = .ok (.iload_n 3, 1) := by decide +kernel
theorem dX8_lacksRow_28 : decode cX8_lacksRow 28 = .ok (.i2l, 1) := by decide +kernel
theorem dX8_lacksRow_29 : decode cX8_lacksRow 29 = .ok (.lconst 0, 1) := by decide +kernel
theorem dX8_lacksRow_30 : decode cX8_lacksRow 30 = .ok (.aload_n 0, 1) := by decide +kernel
theorem dX8_lacksRow_31 : decode cX8_lacksRow 31 = .ok (.getfield 54, 3) := by decide +kernel
theorem dX8_lacksRow_34 : decode cX8_lacksRow 34 = .ok (.iload_n 1, 1) := by decide +kernel
theorem dX8_lacksRow_35 : decode cX8_lacksRow 35 = .ok (.iaload, 1) := by decide +kernel
theorem dX8_lacksRow_36 : decode cX8_lacksRow 36 = .ok (.iload 4, 2) := by decide +kernel
theorem dX8_lacksRow_38 : decode cX8_lacksRow 38 = .ok (.isub, 1) := by decide +kernel
theorem dX8_lacksRow_39 : decode cX8_lacksRow 39 = .ok (.i2l, 1) := by decide +kernel
theorem dX8_lacksRow_40 : decode cX8_lacksRow 40 = .ok (.invokestatic 85, 3) := by decide +kernel
theorem dX8_lacksRow_43 : decode cX8_lacksRow 43 = .ok (.ifCond .eq 7, 3) := by decide +kernel
theorem dX8_lacksRow_46 : decode cX8_lacksRow 46 = .ok (.iconst 0, 1) := by decide +kernel
theorem dX8_lacksRow_47 : decode cX8_lacksRow 47 = .ok (.goto 5, 3) := by decide +kernel
theorem dX8_lacksRow_50 : decode cX8_lacksRow 50 = .ok (.bipush (-13), 2) := by decide +kernel
theorem dX8_lacksRow_52 : decode cX8_lacksRow 52 = .ok (.ireturn, 1) := by decide +kernel
theorem dX8_item_0 : decode cX8_item 0 = .ok (.iload_n 1, 1) := by decide +kernel
theorem dX8_item_1 : decode cX8_item 1 = .ok (.iload_n 2, 1) := by decide +kernel
theorem dX8_item_2 : decode cX8_item 2 = .ok (.invokestatic 230, 3) := by decide +kernel
theorem dX8_item_5 : decode cX8_item 5 = .ok (.ifCond .ne 5, 3) := by decide +kernel
theorem dX8_item_8 : decode cX8_item 8 = .ok (.iconst (-1), 1) := by decide +kernel
theorem dX8_item_9 : decode cX8_item 9 = .ok (.ireturn, 1) := by decide +kernel
theorem dX8_item_10 : decode cX8_item 10 = .ok (.aload_n 0, 1) := by decide +kernel
theorem dX8_item_11 : decode cX8_item 11 = .ok (.iload_n 1, 1) := by decide +kernel
theorem dX8_item_12 : decode cX8_item 12 = .ok (.iload_n 2, 1) := by decide +kernel
theorem dX8_item_13 : decode cX8_item 13 = .ok (.iload_n 3, 1) := by decide +kernel
theorem dX8_item_14 : decode cX8_item 14 = .ok (.iconst 1, 1) := by decide +kernel
theorem dX8_item_15 : decode cX8_item 15 = .ok (.invokevirtual 233, 3) := by decide +kernel
theorem dX8_item_18 : decode cX8_item 18 = .ok (.istore 5, 2) := by decide +kernel
theorem dX8_item_20 : decode cX8_item 20 = .ok (.iload 5, 2) := by decide +kernel
theorem dX8_item_22 : decode cX8_item 22 = .ok (.ifCond .ge 6, 3) := by decide +kernel
theorem dX8_item_25 : decode cX8_item 25 = .ok (.iload 5, 2) := by decide +kernel
theorem dX8_item_27 : decode cX8_item 27 = .ok (.ireturn, 1) := by decide +kernel
theorem dX8_item_28 : decode cX8_item 28 = .ok (.aload_n 0, 1) := by decide +kernel
theorem dX8_item_29 : decode cX8_item 29 = .ok (.getfield 57, 3) := by decide +kernel
theorem dX8_item_32 : decode cX8_item 32 = .ok (.bipush 100, 2) := by decide +kernel
theorem dX8_item_34 : decode cX8_item 34 = .ok (.iload_n 1, 1) := by decide +kernel
theorem dX8_item_35 : decode cX8_item 35 = .ok (.imul, 1) := by decide +kernel
theorem dX8_item_36 : decode cX8_item 36 = .ok (.iload_n 3, 1) := by decide +kernel
theorem dX8_item_37 : decode cX8_item 37 = .ok (.iadd, 1) := by decide +kernel
theorem dX8_item_38 : decode cX8_item 38 = .ok (.iload_n 2, 1) := by decide +kernel
theorem dX8_item_39 : decode cX8_item 39 = .ok (.ifCond .ne 14, 3) := by decide +kernel
theorem dX8_item_42 : decode cX8_item 42 = .ok (.iload 4, 2) := by decide +kernel
theorem dX8_item_44 : decode cX8_item 44 = .ok (.bipush 24, 2) := by decide +kernel
theorem dX8_item_46 : decode cX8_item 46 = .ok (.ishl, 1) := by decide +kernel
theorem dX8_item_47 : decode cX8_item 47 = .ok (.bipush 24, 2) := by decide +kernel
theorem dX8_item_49 : decode cX8_item 49 = .ok (.ishr, 1) := by decide +kernel
theorem dX8_item_50 : decode cX8_item 50 = .ok (.goto 21, 3) := by decide +kernel
theorem dX8_item_53 : decode cX8_item 53 = .ok (.iload_n 2, 1) := by decide +kernel
theorem dX8_item_54 : decode cX8_item 54 = .ok (.iconst 1, 1) := by decide +kernel
theorem dX8_item_55 : decode cX8_item 55 = .ok (.if_icmp .ne 14, 3) := by decide +kernel
theorem dX8_item_58 : decode cX8_item 58 = .ok (.iload 4, 2) := by decide +kernel
theorem dX8_item_60 : decode cX8_item 60 = .ok (.bipush 16, 2) := by decide +kernel
theorem dX8_item_62 : decode cX8_item 62 = .ok (.ishl, 1) := by decide +kernel
theorem dX8_item_63 : decode cX8_item 63 = .ok (.bipush 16, 2) := by decide +kernel
theorem dX8_item_65 : decode cX8_item 65 = .ok (.ishr, 1) := by decide +kernel
theorem dX8_item_66 : decode cX8_item 66 = .ok (.goto 5, 3) := by decide +kernel
theorem dX8_item_69 : decode cX8_item 69 = .ok (.iload 4, 2) := by decide +kernel
theorem dX8_item_71 : decode cX8_item 71 = .ok (.iastore, 1) := by decide +kernel
theorem dX8_item_72 : decode cX8_item 72 = .ok (.iconst 1, 1) := by decide +kernel
theorem dX8_item_73 : decode cX8_item 73 = .ok (.ireturn, 1) := by decide +kernel
theorem dX8_copy_0 : decode cX8_copy 0 = .ok (.iload_n 1, 1) := by decide +kernel
theorem dX8_copy_1 : decode cX8_copy 1 = .ok (.i2l, 1) := by decide +kernel
theorem dX8_copy_2 : decode cX8_copy 2 = .ok (.lconst 0, 1) := by decide +kernel
theorem dX8_copy_3 : decode cX8_copy 3 = .ok (.ldc2_w 108, 3) := by decide +kernel
theorem dX8_copy_6 : decode cX8_copy 6 = .ok (.invokestatic 85, 3) := by decide +kernel
theorem dX8_copy_9 : decode cX8_copy 9 = .ok (.ifCond .eq 15, 3) := by decide +kernel
theorem dX8_copy_12 : decode cX8_copy 12 = .ok (.iload_n 3, 1) := by decide +kernel
theorem dX8_copy_13 : decode cX8_copy 13 = .ok (.i2l, 1) := by decide +kernel
theorem dX8_copy_14 : decode cX8_copy 14 = .ok (.lconst 0, 1) := by decide +kernel
theorem dX8_copy_15 : decode cX8_copy 15 = .ok (.ldc2_w 108, 3) := by decide +kernel
theorem dX8_copy_18 : decode cX8_copy 18 = .ok (.invokestatic 85, 3) := by decide +kernel
theorem dX8_copy_21 : decode cX8_copy 21 = .ok (.ifCond .ne 5, 3) := by decide +kernel
theorem dX8_copy_24 : decode cX8_copy 24 = .ok (.iconst (-1), 1) := by decide +kernel
theorem dX8_copy_25 : decode cX8_copy 25 = .ok (.ireturn, 1) := by decide +kernel
theorem dX8_copy_26 : decode cX8_copy 26 = .ok (.aload_n 0, 1) := by decide +kernel
theorem dX8_copy_27 : decode cX8_copy 27 = .ok (.getfield 51, 3) := by decide +kernel
theorem dX8_copy_30 : decode cX8_copy 30 = .ok (.iload_n 1, 1) := by decide +kernel
theorem dX8_copy_31 : decode cX8_copy 31 = .ok (.iaload, 1) := by decide +kernel
theorem dX8_copy_32 : decode cX8_copy 32 = .ok (.ifCond .lt 12, 3) := by decide +kernel
theorem dX8_copy_35 : decode cX8_copy 35 = .ok (.aload_n 0, 1) := by decide +kernel
theorem dX8_copy_36 : decode cX8_copy 36 = .ok (.getfield 51, 3) := by decide +kernel
theorem dX8_copy_39 : decode cX8_copy 39 = .ok (.iload_n 3, 1) := by decide +kernel
theorem dX8_copy_40 : decode cX8_copy 40 = .ok (.iaload, 1) := by decide +kernel
theorem dX8_copy_41 : decode cX8_copy 41 = .ok (.ifCond .ge 6, 3) := by decide +kernel
theorem dX8_copy_44 : decode cX8_copy 44 = .ok (.bipush (-11), 2) := by decide +kernel
theorem dX8_copy_46 : decode cX8_copy 46 = .ok (.ireturn, 1) := by decide +kernel
theorem dX8_copy_47 : decode cX8_copy 47 = .ok (.aload_n 0, 1) := by decide +kernel
theorem dX8_copy_48 : decode cX8_copy 48 = .ok (.getfield 51, 3) := by decide +kernel
theorem dX8_copy_51 : decode cX8_copy 51 = .ok (.iload_n 1, 1) := by decide +kernel
theorem dX8_copy_52 : decode cX8_copy 52 = .ok (.iaload, 1) := by decide +kernel
theorem dX8_copy_53 : decode cX8_copy 53 = .ok (.aload_n 0, 1) := by decide +kernel
theorem dX8_copy_54 : decode cX8_copy 54 = .ok (.getfield 51, 3) := by decide +kernel
theorem dX8_copy_57 : decode cX8_copy 57 = .ok (.iload_n 3, 1) := by decide +kernel
theorem dX8_copy_58 : decode cX8_copy 58 = .ok (.iaload, 1) := by decide +kernel
theorem dX8_copy_59 : decode cX8_copy 59 = .ok (.if_icmp .eq 6, 3) := by decide +kernel
theorem dX8_copy_62 : decode cX8_copy 62 = .ok (.bipush (-12), 2) := by decide +kernel
theorem dX8_copy_64 : decode cX8_copy 64 = .ok (.ireturn, 1) := by decide +kernel
theorem dX8_copy_65 : decode cX8_copy 65 = .ok (.iload 5, 2) := by decide +kernel
theorem dX8_copy_67 : decode cX8_copy 67 = .ok (.ifCond .lt 44, 3) := by decide +kernel
theorem dX8_copy_70 : decode cX8_copy 70 = .ok (.iload_n 2, 1) := by decide +kernel
theorem dX8_copy_71 : decode cX8_copy 71 = .ok (.i2l, 1) := by decide +kernel
theorem dX8_copy_72 : decode cX8_copy 72 = .ok (.lconst 0, 1) := by decide +kernel
theorem dX8_copy_73 : decode cX8_copy 73 = .ok (.aload_n 0, 1) := by decide +kernel
theorem dX8_copy_74 : decode cX8_copy 74 = .ok (.getfield 54, 3) := by decide +kernel
theorem dX8_copy_77 : decode cX8_copy 77 = .ok (.iload_n 1, 1) := by decide +kernel
theorem dX8_copy_78 : decode cX8_copy 78 = .ok (.iaload, 1) := by decide +kernel
theorem dX8_copy_79 : decode cX8_copy 79 = .ok (.i2l, 1) := by decide +kernel
theorem dX8_copy_80 : decode cX8_copy 80 = .ok (.iload 5, 2) := by decide +kernel
theorem dX8_copy_82 : decode cX8_copy 82 = .ok (.i2l, 1) := by decide +kernel
theorem dX8_copy_83 : decode cX8_copy 83 = .ok (.lsub, 1) := by decide +kernel
theorem dX8_copy_84 : decode cX8_copy 84 = .ok (.invokestatic 85, 3) := by decide +kernel
theorem dX8_copy_87 : decode cX8_copy 87 = .ok (.ifCond .eq 24, 3) := by decide +kernel
theorem dX8_copy_90 : decode cX8_copy 90 = .ok (.iload 4, 2) := by decide +kernel
theorem dX8_copy_92 : decode cX8_copy 92 = .ok (.i2l, 1) := by decide +kernel
theorem dX8_copy_93 : decode cX8_copy 93 = .ok (.lconst 0, 1) := by decide +kernel
theorem dX8_copy_94 : decode cX8_copy 94 = .ok (.aload_n 0, 1) := by decide +kernel
theorem dX8_copy_95 : decode cX8_copy 95 = .ok (.getfield 54, 3) := by decide +kernel
theorem dX8_copy_98 : decode cX8_copy 98 = .ok (.iload_n 3, 1) := by decide +kernel
theorem dX8_copy_99 : decode cX8_copy 99 = .ok (.iaload, 1) := by decide +kernel
theorem dX8_copy_100 : decode cX8_copy 100 = .ok (.i2l, 1) := by decide +kernel
theorem dX8_copy_101 : decode cX8_copy 101 = .ok (.iload 5, 2) := by decide +kernel
theorem dX8_copy_103 : decode cX8_copy 103 = .ok (.i2l, 1) := by decide +kernel
theorem dX8_copy_104 : decode cX8_copy 104 = .ok (.lsub, 1) := by decide +kernel
theorem dX8_copy_105 : decode cX8_copy 105 = .ok (.invokestatic 85, 3) := by decide +kernel
theorem dX8_copy_108 : decode cX8_copy 108 = .ok (.ifCond .ne 6, 3) := by decide +kernel
theorem dX8_copy_111 : decode cX8_copy 111 = .ok (.bipush (-13), 2) := by decide +kernel
theorem dX8_copy_113 : decode cX8_copy 113 = .ok (.ireturn, 1) := by decide +kernel
theorem dX8_copy_114 : decode cX8_copy 114 = .ok (.iconst 0, 1) := by decide +kernel
theorem dX8_copy_115 : decode cX8_copy 115 = .ok (.istore 6, 2) := by decide +kernel
theorem dX8_copy_117 : decode cX8_copy 117 = .ok (.iload 6, 2) := by decide +kernel
end
section
theorem dX8_copy_119 : decode cX8_copy 119 = .ok (.iload 5, 2) := by decide +kernel
theorem dX8_copy_121 : decode cX8_copy 121 = .ok (.if_icmp .ge 30, 3) := by decide +kernel
theorem dX8_copy_124 : decode cX8_copy 124 = .ok (.aload_n 0, 1) := by decide +kernel
theorem dX8_copy_125 : decode cX8_copy 125 = .ok (.getfield 60, 3) := by decide +kernel
theorem dX8_copy_128 : decode cX8_copy 128 = .ok (.iload 6, 2) := by decide +kernel
theorem dX8_copy_130 : decode cX8_copy 130 = .ok (.aload_n 0, 1) := by decide +kernel
theorem dX8_copy_131 : decode cX8_copy 131 = .ok (.getfield 57, 3) := by decide +kernel
theorem dX8_copy_134 : decode cX8_copy 134 = .ok (.bipush 100, 2) := by decide +kernel
theorem dX8_copy_136 : decode cX8_copy 136 = .ok (.iload_n 1, 1) := by decide +kernel
theorem dX8_copy_137 : decode cX8_copy 137 = .ok (.imul, 1) := by decide +kernel
theorem dX8_copy_138 : decode cX8_copy 138 = .ok (.iload_n 2, 1) := by decide +kernel
theorem dX8_copy_139 : decode cX8_copy 139 = .ok (.iadd, 1) := by decide +kernel
theorem dX8_copy_140 : decode cX8_copy 140 = .ok (.iload 6, 2) := by decide +kernel
theorem dX8_copy_142 : decode cX8_copy 142 = .ok (.iadd, 1) := by decide +kernel
theorem dX8_copy_143 : decode cX8_copy 143 = .ok (.iaload, 1) := by decide +kernel
theorem dX8_copy_144 : decode cX8_copy 144 = .ok (.iastore, 1) := by decide +kernel
theorem dX8_copy_145 : decode cX8_copy 145 = .ok (.iinc 6 1, 3) := by decide +kernel
theorem dX8_copy_148 : decode cX8_copy 148 = .ok (.goto (-31), 3) := by decide +kernel
theorem dX8_copy_151 : decode cX8_copy 151 = .ok (.iconst 0, 1) := by decide +kernel
theorem dX8_copy_152 : decode cX8_copy 152 = .ok (.istore 6, 2) := by decide +kernel
theorem dX8_copy_154 : decode cX8_copy 154 = .ok (.iload 6, 2) := by decide +kernel
theorem dX8_copy_156 : decode cX8_copy 156 = .ok (.iload 5, 2) := by decide +kernel
theorem dX8_copy_158 : decode cX8_copy 158 = .ok (.if_icmp .ge 31, 3) := by decide +kernel
theorem dX8_copy_161 : decode cX8_copy 161 = .ok (.aload_n 0, 1) := by decide +kernel
theorem dX8_copy_162 : decode cX8_copy 162 = .ok (.getfield 57, 3) := by decide +kernel
theorem dX8_copy_165 : decode cX8_copy 165 = .ok (.bipush 100, 2) := by decide +kernel
theorem dX8_copy_167 : decode cX8_copy 167 = .ok (.iload_n 3, 1) := by decide +kernel
theorem dX8_copy_168 : decode cX8_copy 168 = .ok (.imul, 1) := by decide +kernel
theorem dX8_copy_169 : decode cX8_copy 169 = .ok (.iload 4, 2) := by decide +kernel
theorem dX8_copy_171 : decode cX8_copy 171 = .ok (.iadd, 1) := by decide +kernel
theorem dX8_copy_172 : decode cX8_copy 172 = .ok (.iload 6, 2) := by decide +kernel
theorem dX8_copy_174 : decode cX8_copy 174 = .ok (.iadd, 1) := by decide +kernel
theorem dX8_copy_175 : decode cX8_copy 175 = .ok (.aload_n 0, 1) := by decide +kernel
theorem dX8_copy_176 : decode cX8_copy 176 = .ok (.getfield 60, 3) := by decide +kernel
theorem dX8_copy_179 : decode cX8_copy 179 = .ok (.iload 6, 2) := by decide +kernel
theorem dX8_copy_181 : decode cX8_copy 181 = .ok (.iaload, 1) := by decide +kernel
theorem dX8_copy_182 : decode cX8_copy 182 = .ok (.iastore, 1) := by decide +kernel
theorem dX8_copy_183 : decode cX8_copy 183 = .ok (.iinc 6 1, 3) := by decide +kernel
theorem dX8_copy_186 : decode cX8_copy 186 = .ok (.goto (-32), 3) := by decide +kernel
theorem dX8_copy_189 : decode cX8_copy 189 = .ok (.iload 5, 2) := by decide +kernel
theorem dX8_copy_191 : decode cX8_copy 191 = .ok (.ireturn, 1) := by decide +kernel
theorem dX8_nextRow_0 : decode cX8_nextRow 0 = .ok (.iload_n 1, 1) := by decide +kernel
theorem dX8_nextRow_1 : decode cX8_nextRow 1 = .ok (.iconst 2, 1) := by decide +kernel
theorem dX8_nextRow_2 : decode cX8_nextRow 2 = .ok (.isub, 1) := by decide +kernel
theorem dX8_nextRow_3 : decode cX8_nextRow 3 = .ok (.istore_n 2, 1) := by decide +kernel
theorem dX8_nextRow_4 : decode cX8_nextRow 4 = .ok (.iload_n 2, 1) := by decide +kernel
theorem dX8_nextRow_5 : decode cX8_nextRow 5 = .ok (.ifCond .lt 26, 3) := by decide +kernel
theorem dX8_nextRow_8 : decode cX8_nextRow 8 = .ok (.aload_n 0, 1) := by decide +kernel
theorem dX8_nextRow_9 : decode cX8_nextRow 9 = .ok (.getfield 63, 3) := by decide +kernel
theorem dX8_nextRow_12 : decode cX8_nextRow 12 = .ok (.iload_n 2, 1) := by decide +kernel
theorem dX8_nextRow_13 : decode cX8_nextRow 13 = .ok (.iaload, 1) := by decide +kernel
theorem dX8_nextRow_14 : decode cX8_nextRow 14 = .ok (.aload_n 0, 1) := by decide +kernel
theorem dX8_nextRow_15 : decode cX8_nextRow 15 = .ok (.getfield 63, 3) := by decide +kernel
theorem dX8_nextRow_18 : decode cX8_nextRow 18 = .ok (.iload_n 2, 1) := by decide +kernel
theorem dX8_nextRow_19 : decode cX8_nextRow 19 = .ok (.iconst 1, 1) := by decide +kernel
theorem dX8_nextRow_20 : decode cX8_nextRow 20 = .ok (.iadd, 1) := by decide +kernel
theorem dX8_nextRow_21 : decode cX8_nextRow 21 = .ok (.iaload, 1) := by decide +kernel
theorem dX8_nextRow_22 : decode cX8_nextRow 22 = .ok (.if_icmp .le 9, 3) := by decide +kernel
theorem dX8_nextRow_25 : decode cX8_nextRow 25 = .ok (.iinc 2 (-1), 3) := by decide +kernel
theorem dX8_nextRow_28 : decode cX8_nextRow 28 = .ok (.goto (-24), 3) := by decide +kernel
theorem dX8_nextRow_31 : decode cX8_nextRow 31 = .ok (.iload_n 2, 1) := by decide +kernel
theorem dX8_nextRow_32 : decode cX8_nextRow 32 = .ok (.ifCond .ge 5, 3) := by decide +kernel
theorem dX8_nextRow_35 : decode cX8_nextRow 35 = .ok (.iconst 0, 1) := by decide +kernel
theorem dX8_nextRow_36 : decode cX8_nextRow 36 = .ok (.ireturn, 1) := by decide +kernel
theorem dX8_nextRow_37 : decode cX8_nextRow 37 = .ok (.iload_n 1, 1) := by decide +kernel
theorem dX8_nextRow_38 : decode cX8_nextRow 38 = .ok (.iconst 1, 1) := by decide +kernel
theorem dX8_nextRow_39 : decode cX8_nextRow 39 = .ok (.isub, 1) := by decide +kernel
theorem dX8_nextRow_40 : decode cX8_nextRow 40 = .ok (.istore_n 3, 1) := by decide +kernel
theorem dX8_nextRow_41 : decode cX8_nextRow 41 = .ok (.aload_n 0, 1) := by decide +kernel
theorem dX8_nextRow_42 : decode cX8_nextRow 42 = .ok (.getfield 63, 3) := by decide +kernel
theorem dX8_nextRow_45 : decode cX8_nextRow 45 = .ok (.iload_n 3, 1) := by decide +kernel
theorem dX8_nextRow_46 : decode cX8_nextRow 46 = .ok (.iaload, 1) := by decide +kernel
theorem dX8_nextRow_47 : decode cX8_nextRow 47 = .ok (.aload_n 0, 1) := by decide +kernel
theorem dX8_nextRow_48 : decode cX8_nextRow 48 = .ok (.getfield 63, 3) := by decide +kernel
theorem dX8_nextRow_51 : decode cX8_nextRow 51 = .ok (.iload_n 2, 1) := by decide +kernel
theorem dX8_nextRow_52 : decode cX8_nextRow 52 = .ok (.iaload, 1) := by decide +kernel
theorem dX8_nextRow_53 : decode cX8_nextRow 53 = .ok (.if_icmp .ge 9, 3) := by decide +kernel
theorem dX8_nextRow_56 : decode cX8_nextRow 56 = .ok (.iinc 3 (-1), 3) := by decide +kernel
theorem dX8_nextRow_59 : decode cX8_nextRow 59 = .ok (.goto (-18), 3) := by decide +kernel
theorem dX8_nextRow_62 : decode cX8_nextRow 62 = .ok (.aload_n 0, 1) := by decide +kernel
theorem dX8_nextRow_63 : decode cX8_nextRow 63 = .ok (.getfield 63, 3) := by decide +kernel
theorem dX8_nextRow_66 : decode cX8_nextRow 66 = .ok (.iload_n 2, 1) := by decide +kernel
theorem dX8_nextRow_67 : decode cX8_nextRow 67 = .ok (.iaload, 1) := by decide +kernel
theorem dX8_nextRow_68 : decode cX8_nextRow 68 = .ok (.istore 4, 2) := by decide +kernel
theorem dX8_nextRow_70 : decode cX8_nextRow 70 = .ok (.aload_n 0, 1) := by decide +kernel
theorem dX8_nextRow_71 : decode cX8_nextRow 71 = .ok (.getfield 63, 3) := by decide +kernel
theorem dX8_nextRow_74 : decode cX8_nextRow 74 = .ok (.iload_n 2, 1) := by decide +kernel
theorem dX8_nextRow_75 : decode cX8_nextRow 75 = .ok (.aload_n 0, 1) := by decide +kernel
theorem dX8_nextRow_76 : decode cX8_nextRow 76 = .ok (.getfield 63, 3) := by decide +kernel
theorem dX8_nextRow_79 : decode cX8_nextRow 79 = .ok (.iload_n 3, 1) := by decide +kernel
theorem dX8_nextRow_80 : decode cX8_nextRow 80 = .ok (.iaload, 1) := by decide +kernel
theorem dX8_nextRow_81 : decode cX8_nextRow 81 = .ok (.iastore, 1) := by decide +kernel
theorem dX8_nextRow_82 : decode cX8_nextRow 82 = .ok (.aload_n 0, 1) := by decide +kernel
theorem dX8_nextRow_83 : decode cX8_nextRow 83 = .ok (.getfield 63, 3) := by decide +kernel
theorem dX8_nextRow_86 : decode cX8_nextRow 86 = .ok (.iload_n 3, 1) := by decide +kernel
theorem dX8_nextRow_87 : decode cX8_nextRow 87 = .ok (.iload 4, 2) := by decide +kernel
theorem dX8_nextRow_89 : decode cX8_nextRow 89 = .ok (.iastore, 1) := by decide +kernel
theorem dX8_nextRow_90 : decode cX8_nextRow 90 = .ok (.iload_n 1, 1) := by decide +kernel
theorem dX8_nextRow_91 : decode cX8_nextRow 91 = .ok (.iconst 1, 1) := by decide +kernel
theorem dX8_nextRow_92 : decode cX8_nextRow 92 = .ok (.isub, 1) := by decide +kernel
theorem dX8_nextRow_93 : decode cX8_nextRow 93 = .ok (.istore 5, 2) := by decide +kernel
theorem dX8_nextRow_95 : decode cX8_nextRow 95 = .ok (.iload_n 2, 1) := by decide +kernel
theorem dX8_nextRow_96 : decode cX8_nextRow 96 = .ok (.iconst 1, 1) := by decide +kernel
theorem dX8_nextRow_97 : decode cX8_nextRow 97 = .ok (.iadd, 1) := by decide +kernel
theorem dX8_nextRow_98 : decode cX8_nextRow 98 = .ok (.istore 6, 2) := by decide +kernel
theorem dX8_nextRow_100 : decode cX8_nextRow 100 = .ok (.iload 6, 2) := by decide +kernel
theorem dX8_nextRow_102 : decode cX8_nextRow 102 = .ok (.iload 5, 2) := by decide +kernel
theorem dX8_nextRow_104 : decode cX8_nextRow 104 = .ok (.if_icmp .ge 44, 3) := by decide +kernel
theorem dX8_nextRow_107 : decode cX8_nextRow 107 = .ok (.aload_n 0, 1) := by decide +kernel
theorem dX8_nextRow_108 : decode cX8_nextRow 108 = .ok (.getfield 63, 3) := by decide +kernel
theorem dX8_nextRow_111 : decode cX8_nextRow 111 = .ok (.iload 6, 2) := by decide +kernel
theorem dX8_nextRow_113 : decode cX8_nextRow 113 = .ok (.iaload, 1) := by decide +kernel
theorem dX8_nextRow_114 : decode cX8_nextRow 114 = .ok (.istore 4, 2) := by decide +kernel
theorem dX8_nextRow_116 : decode cX8_nextRow 116 = .ok (.aload_n 0, 1) := by decide +kernel
theorem dX8_nextRow_117 : decode cX8_nextRow 117 = .ok (.getfield 63, 3) := by decide +kernel
theorem dX8_nextRow_120 : decode cX8_nextRow 120 = .ok (.iload 6, 2) := by decide +kernel
theorem dX8_nextRow_122 : decode cX8_nextRow 122 = .ok (.aload_n 0, 1) := by decide +kernel
theorem dX8_nextRow_123 : decode cX8_nextRow 123 = .ok (.getfield 63, 3) := by decide +kernel
theorem dX8_nextRow_126 : decode cX8_nextRow 126 = .ok (.iload 5, 2) := by decide +kernel
theorem dX8_nextRow_128 : decode cX8_nextRow 128 = .ok (.iaload, 1) := by decide +kernel
theorem dX8_nextRow_129 : decode cX8_nextRow 129 = .ok (.iastore, 1) := by decide +kernel
theorem dX8_nextRow_130 : decode cX8_nextRow 130 = .ok (.aload_n 0, 1) := by decide +kernel
theorem dX8_nextRow_131 : decode cX8_nextRow 131 = .ok (.getfield 63, 3) := by decide +kernel
theorem dX8_nextRow_134 : decode cX8_nextRow 134 = .ok (.iload 5, 2) := by decide +kernel
theorem dX8_nextRow_136 : decode cX8_nextRow 136 = .ok (.iload 4, 2) := by decide +kernel
theorem dX8_nextRow_138 : decode cX8_nextRow 138 = .ok (.iastore, 1) := by decide +kernel
theorem dX8_nextRow_139 : decode cX8_nextRow 139 = .ok (.iinc 5 (-1), 3) := by decide +kernel
theorem dX8_nextRow_142 : decode cX8_nextRow 142 = .ok (.iinc 6 1, 3) := by decide +kernel
theorem dX8_nextRow_145 : decode cX8_nextRow 145 = .ok (.goto (-45), 3) := by decide +kernel
theorem dX8_nextRow_148 : decode cX8_nextRow 148 = .ok (.iconst 1, 1) := by decide +kernel
theorem dX8_nextRow_149 : decode cX8_nextRow 149 = .ok (.ireturn, 1) := by decide +kernel
theorem dX8_limpSo_0 : decode cX8_limpSo 0 = .ok (.iconst 1, 1) := by decide +kernel
theorem dX8_limpSo_1 : decode cX8_limpSo 1 = .ok (.istore_n 3, 1) := by decide +kernel
theorem dX8_limpSo_2 : decode cX8_limpSo 2 = .ok (.iconst 0, 1) := by decide +kernel
theorem dX8_limpSo_3 : decode cX8_limpSo 3 = .ok (.istore 4, 2) := by decide +kernel
theorem dX8_limpSo_5 : decode cX8_limpSo 5 = .ok (.iload 4, 2) := by decide +kernel
theorem dX8_limpSo_7 : decode cX8_limpSo 7 = .ok (.iload_n 2, 1) := by decide +kernel
theorem dX8_limpSo_8 : decode cX8_limpSo 8 = .ok (.if_icmp .ge 60, 3) := by decide +kernel
theorem dX8_limpSo_11 : decode cX8_limpSo 11 = .ok (.iload_n 3, 1) := by decide +kernel
theorem dX8_limpSo_12 : decode cX8_limpSo 12 = .ok (.ifCond .eq 56, 3) := by decide +kernel
theorem dX8_limpSo_15 : decode cX8_limpSo 15 = .ok (.aload_n 0, 1) := by decide +kernel
theorem dX8_limpSo_16 : decode cX8_limpSo 16 = .ok (.iload 4, 2) := by decide +kernel
theorem dX8_limpSo_18 : decode cX8_limpSo 18 = .ok (.aload_n 0, 1) := by decide +kernel
theorem dX8_limpSo_19 : decode cX8_limpSo 19 = .ok (.getfield 35, 3) := by decide +kernel
theorem dX8_limpSo_22 : decode cX8_limpSo 22 = .ok (.aload_n 0, 1) := by decide +kernel
theorem dX8_limpSo_23 : decode cX8_limpSo 23 = .ok (.getfield 63, 3) := by decide +kernel
theorem dX8_limpSo_26 : decode cX8_limpSo 26 = .ok (.iload 4, 2) := by decide +kernel
theorem dX8_limpSo_28 : decode cX8_limpSo 28 = .ok (.iaload, 1) := by decide +kernel
theorem dX8_limpSo_29 : decode cX8_limpSo 29 = .ok (.iaload, 1) := by decide +kernel
theorem dX8_limpSo_30 : decode cX8_limpSo 30 = .ok (.aload_n 0, 1) := by decide +kernel
theorem dX8_limpSo_31 : decode cX8_limpSo 31 = .ok (.getfield 7, 3) := by decide +kernel
theorem dX8_limpSo_34 : decode cX8_limpSo 34 = .ok (.iconst 4, 1) := by decide +kernel
theorem dX8_limpSo_35 : decode cX8_limpSo 35 = .ok (.iload 4, 2) := by decide +kernel
theorem dX8_limpSo_37 : decode cX8_limpSo 37 = .ok (.imul, 1) := by decide +kernel
theorem dX8_limpSo_38 : decode cX8_limpSo 38 = .ok (.iconst 3, 1) := by decide +kernel
theorem dX8_limpSo_39 : decode cX8_limpSo 39 = .ok (.iadd, 1) := by decide +kernel
theorem dX8_limpSo_40 : decode cX8_limpSo 40 = .ok (.iaload, 1) := by decide +kernel
theorem dX8_limpSo_41 : decode cX8_limpSo 41 = .ok (.invokevirtual 205, 3) := by decide +kernel
theorem dX8_limpSo_44 : decode cX8_limpSo 44 = .ok (.aload_n 0, 1) := by decide +kernel
theorem dX8_limpSo_45 : decode cX8_limpSo 45 = .ok (.getfield 57, 3) := by decide +kernel
theorem dX8_limpSo_48 : decode cX8_limpSo 48 = .ok (.iload_n 1, 1) := by decide +kernel
theorem dX8_limpSo_49 : decode cX8_limpSo 49 = .ok (.iload 4, 2) := by decide +kernel
theorem dX8_limpSo_51 : decode cX8_limpSo 51 = .ok (.iadd, 1) := by decide +kernel
theorem dX8_limpSo_52 : decode cX8_limpSo 52 = .ok (.iaload, 1) := by decide +kernel
theorem dX8_limpSo_53 : decode cX8_limpSo 53 = .ok (.if_icmp .ne 7, 3) := by decide +kernel
theorem dX8_limpSo_56 : decode cX8_limpSo 56 = .ok (.iconst 1, 1) := by decide +kernel
theorem dX8_limpSo_57 : decode cX8_limpSo 57 = .ok (.goto 4, 3) := by decide +kernel
theorem dX8_limpSo_60 : decode cX8_limpSo 60 = .ok (.iconst 0, 1) := by decide +kernel
theorem dX8_limpSo_61 : decode cX8_limpSo 61 = .ok (.istore_n 3, 1) := by decide +kernel
theorem dX8_limpSo_62 : decode cX8_limpSo 62 = .ok (.iinc 4 1, 3) := by decide +kernel
theorem dX8_limpSo_65 : decode cX8_limpSo 65 = .ok (.goto (-60), 3) := by decide +kernel
theorem dX8_limpSo_68 : decode cX8_limpSo 68 = .ok (.iload_n 3, 1) := by decide +kernel
theorem dX8_limpSo_69 : decode cX8_limpSo 69 = .ok (.ireturn, 1) := by decide +kernel
theorem dX8_changed_0 : decode cX8_changed 0 = .ok (.iload_n 1, 1) := by decide +kernel
theorem dX8_changed_1 : decode cX8_changed 1 = .ok (.i2l, 1) := by decide +kernel
theorem dX8_changed_2 : decode cX8_changed 2 = .ok (.lconst 0, 1) := by decide +kernel
theorem dX8_changed_3 : decode cX8_changed 3 = .ok (.lconst 1, 1) := by decide +kernel
theorem dX8_changed_4 : decode cX8_changed 4 = .ok (.invokestatic 85, 3) := by decide +kernel
theorem dX8_changed_7 : decode cX8_changed 7 = .ok (.ifCond .eq 50, 3) := by decide +kernel
theorem dX8_changed_10 : decode cX8_changed 10 = .ok (.iload_n 2, 1) := by decide +kernel
theorem dX8_changed_11 : decode cX8_changed 11 = .ok (.iload_n 3, 1) := by decide +kernel
theorem dX8_changed_12 : decode cX8_changed 12 = .ok (.invokestatic 230, 3) := by decide +kernel
theorem dX8_changed_15 : decode cX8_changed 15 = .ok (.ifCond .eq 42, 3) := by decide +kernel
theorem dX8_changed_18 : decode cX8_changed 18 = .ok (.iload 5, 2) := by decide +kernel
theorem dX8_changed_20 : decode cX8_changed 20 = .ok (.i2l, 1) := by decide +kernel
theorem dX8_changed_21 : decode cX8_changed 21 = .ok (.lconst 1, 1) := by decide +kernel
theorem dX8_changed_22 : decode cX8_changed 22 = .ok (.ldc2_w 119, 3) := by decide +kernel
theorem dX8_changed_25 : decode cX8_changed 25 = .ok (.invokestatic 85, 3) := by decide +kernel
theorem dX8_changed_28 : decode cX8_changed 28 = .ok (.ifCond .eq 29, 3) := by decide +kernel
theorem dX8_changed_31 : decode cX8_changed 31 = .ok (.iload 5, 2) := by decide +kernel
theorem dX8_changed_33 : decode cX8_changed 33 = .ok (.aload_n 0, 1) := by decide +kernel
theorem dX8_changed_34 : decode cX8_changed 34 = .ok (.getfield 81, 3) := by decide +kernel
theorem dX8_changed_37 : decode cX8_changed 37 = .ok (.if_icmp .gt 20, 3) := by decide +kernel
theorem dX8_changed_40 : decode cX8_changed 40 = .ok (.iload 6, 2) := by decide +kernel
theorem dX8_changed_42 : decode cX8_changed 42 = .ok (.i2l, 1) := by decide +kernel
theorem dX8_changed_43 : decode cX8_changed 43 = .ok (.ldc2_w 200, 3) := by decide +kernel
theorem dX8_changed_46 : decode cX8_changed 46 = .ok (.iload 5, 2) := by decide +kernel
theorem dX8_changed_48 : decode cX8_changed 48 = .ok (.iconst 1, 1) := by decide +kernel
theorem dX8_changed_49 : decode cX8_changed 49 = .ok (.isub, 1) := by decide +kernel
theorem dX8_changed_50 : decode cX8_changed 50 = .ok (.i2l, 1) := by decide +kernel
theorem dX8_changed_51 : decode cX8_changed 51 = .ok (.invokestatic 85, 3) := by decide +kernel
theorem dX8_changed_54 : decode cX8_changed 54 = .ok (.ifCond .ne 5, 3) := by decide +kernel
theorem dX8_changed_57 : decode cX8_changed 57 = .ok (.iconst (-1), 1) := by decide +kernel
theorem dX8_changed_58 : decode cX8_changed 58 = .ok (.ireturn, 1) := by decide +kernel
theorem dX8_changed_59 : decode cX8_changed 59 = .ok (.aload_n 0, 1) := by decide +kernel
theorem dX8_changed_60 : decode cX8_changed 60 = .ok (.iload_n 1, 1) := by decide +kernel
theorem dX8_changed_61 : decode cX8_changed 61 = .ok (.invokevirtual 202, 3) := by decide +kernel
theorem dX8_changed_64 : decode cX8_changed 64 = .ok (.ldc 192, 2) := by decide +kernel
theorem dX8_changed_66 : decode cX8_changed 66 = .ok (.if_icmp .lt 6, 3) := by decide +kernel
theorem dX8_changed_69 : decode cX8_changed 69 = .ok (.bipush (-2), 2) := by decide +kernel
theorem dX8_changed_71 : decode cX8_changed 71 = .ok (.ireturn, 1) := by decide +kernel
theorem dX8_changed_72 : decode cX8_changed 72 = .ok (.aload_n 0, 1) := by decide +kernel
theorem dX8_changed_73 : decode cX8_changed 73 = .ok (.iload_n 2, 1) := by decide +kernel
theorem dX8_changed_74 : decode cX8_changed 74 = .ok (.iload_n 3, 1) := by decide +kernel
theorem dX8_changed_75 : decode cX8_changed 75 = .ok (.iload 4, 2) := by decide +kernel
theorem dX8_changed_77 : decode cX8_changed 77 = .ok (.iload 5, 2) := by decide +kernel
theorem dX8_changed_79 : decode cX8_changed 79 = .ok (.invokevirtual 233, 3) := by decide +kernel
theorem dX8_changed_82 : decode cX8_changed 82 = .ok (.istore 7, 2) := by decide +kernel
theorem dX8_changed_84 : decode cX8_changed 84 = .ok (.iload 7, 2) := by decide +kernel
theorem dX8_changed_86 : decode cX8_changed 86 = .ok (.ifCond .ge 6, 3) := by decide +kernel
theorem dX8_changed_89 : decode cX8_changed 89 = .ok (.iload 7, 2) := by decide +kernel
theorem dX8_changed_91 : decode cX8_changed 91 = .ok (.ireturn, 1) := by decide +kernel
theorem dX8_changed_92 : decode cX8_changed 92 = .ok (.iconst 0, 1) := by decide +kernel
theorem dX8_changed_93 : decode cX8_changed 93 = .ok (.istore 8, 2) := by decide +kernel
theorem dX8_changed_95 : decode cX8_changed 95 = .ok (.iload 8, 2) := by decide +kernel
theorem dX8_changed_97 : decode cX8_changed 97 = .ok (.iload 5, 2) := by decide +kernel
theorem dX8_changed_99 : decode cX8_changed 99 = .ok (.if_icmp .ge 18, 3) := by decide +kernel
theorem dX8_changed_102 : decode cX8_changed 102 = .ok (.aload_n 0, 1) := by decide +kernel
theorem dX8_changed_103 : decode cX8_changed 103 = .ok (.getfield 63, 3) := by decide +kernel
theorem dX8_changed_106 : decode cX8_changed 106 = .ok (.iload 8, 2) := by decide +kernel
theorem dX8_changed_108 : decode cX8_changed 108 = .ok (.iload 8, 2) := by decide +kernel
theorem dX8_changed_110 : decode cX8_changed 110 = .ok (.iastore, 1) := by decide +kernel
theorem dX8_changed_111 : decode cX8_changed 111 = .ok (.iinc 8 1, 3) := by decide +kernel
theorem dX8_changed_114 : decode cX8_changed 114 = .ok (.goto (-19), 3) := by decide +kernel
theorem dX8_changed_117 : decode cX8_changed 117 = .ok (.iconst 0, 1) := by decide +kernel
theorem dX8_changed_118 : decode cX8_changed 118 = .ok (.istore 8, 2) := by decide +kernel
theorem dX8_changed_120 : decode cX8_changed 120 = .ok (.iconst 1, 1) := by decide +kernel
theorem dX8_changed_121 : decode cX8_changed 121 = .ok (.istore 9, 2) := by decide +kernel
theorem dX8_changed_123 : decode cX8_changed 123 = .ok (.iload 9, 2) := by decide +kernel
theorem dX8_changed_125 : decode cX8_changed 125 = .ok (.ifCond .eq 68, 3) := by decide +kernel
theorem dX8_changed_128 : decode cX8_changed 128 = .ok (.aload_n 0, 1) := by decide +kernel
theorem dX8_changed_129 : decode cX8_changed 129 = .ok (.bipush 100, 2) := by decide +kernel
theorem dX8_changed_131 : decode cX8_changed 131 = .ok (.iload_n 2, 1) := by decide +kernel
theorem dX8_changed_132 : decode cX8_changed 132 = .ok (.imul, 1) := by decide +kernel
theorem dX8_changed_133 : decode cX8_changed 133 = .ok (.iload 4, 2) := by decide +kernel
theorem dX8_changed_135 : decode cX8_changed 135 = .ok (.iadd, 1) := by decide +kernel
theorem dX8_changed_136 : decode cX8_changed 136 = .ok (.iload 5, 2) := by decide +kernel
theorem dX8_changed_138 : decode cX8_changed 138 = .ok (.invokevirtual 237, 3) := by decide +kernel
theorem dX8_changed_141 : decode cX8_changed 141 = .ok (.ifCond .eq 41, 3) := by decide +kernel
theorem dX8_changed_144 : decode cX8_changed 144 = .ok (.iconst 0, 1) := by decide +kernel
theorem dX8_changed_145 : decode cX8_changed 145 = .ok (.istore 10, 2) := by decide +kernel
theorem dX8_changed_147 : decode cX8_changed 147 = .ok (.iload 10, 2) := by decide +kernel
theorem dX8_changed_149 : decode cX8_changed 149 = .ok (.iload 5, 2) := by decide +kernel
theorem dX8_changed_151 : decode cX8_changed 151 = .ok (.if_icmp .ge 28, 3) := by decide +kernel
theorem dX8_changed_154 : decode cX8_changed 154 = .ok (.iload 8, 2) := by decide +kernel
theorem dX8_changed_156 : decode cX8_changed 156 = .ok (.ifCond .ne 23, 3) := by decide +kernel
theorem dX8_changed_159 : decode cX8_changed 159 = .ok (.aload_n 0, 1) := by decide +kernel
theorem dX8_changed_160 : decode cX8_changed 160 = .ok (.getfield 66, 3) := by decide +kernel
theorem dX8_changed_163 : decode cX8_changed 163 = .ok (.iload 10, 2) := by decide +kernel
theorem dX8_changed_165 : decode cX8_changed 165 = .ok (.aload_n 0, 1) := by decide +kernel
theorem dX8_changed_166 : decode cX8_changed 166 = .ok (.getfield 63, 3) := by decide +kernel
theorem dX8_changed_169 : decode cX8_changed 169 = .ok (.iload 10, 2) := by decide +kernel
theorem dX8_changed_171 : decode cX8_changed 171 = .ok (.iaload, 1) := by decide +kernel
theorem dX8_changed_172 : decode cX8_changed 172 = .ok (.iastore, 1) := by decide +kernel
theorem dX8_changed_173 : decode cX8_changed 173 = .ok (.iinc 10 1, 3) := by decide +kernel
theorem dX8_changed_176 : decode cX8_changed 176 = .ok (.goto (-29), 3) := by decide +kernel
theorem dX8_changed_179 : decode cX8_changed 179 = .ok (.iinc 8 1, 3) := by decide +kernel
theorem dX8_changed_182 : decode cX8_changed 182 = .ok (.aload_n 0, 1) := by decide +kernel
theorem dX8_changed_183 : decode cX8_changed 183 = .ok (.iload 5, 2) := by decide +kernel
theorem dX8_changed_185 : decode cX8_changed 185 = .ok (.invokevirtual 240, 3) := by decide +kernel
theorem dX8_changed_188 : decode cX8_changed 188 = .ok (.istore 9, 2) := by decide +kernel
theorem dX8_changed_190 : decode cX8_changed 190 = .ok (.goto (-67), 3) := by decide +kernel
theorem dX8_changed_193 : decode cX8_changed 193 = .ok (.iload 8, 2) := by decide +kernel
theorem dX8_changed_195 : decode cX8_changed 195 = .ok (.ifCond .ne 8, 3) := by decide +kernel
theorem dX8_changed_198 : decode cX8_changed 198 = .ok (.bipush (-4), 2) := by decide +kernel
theorem dX8_changed_200 : decode cX8_changed 200 = .ok (.goto 20, 3) := by decide +kernel
theorem dX8_changed_203 : decode cX8_changed 203 = .ok (.iload 6, 2) := by decide +kernel
theorem dX8_changed_205 : decode cX8_changed 205 = .ok (.ifCond .ge 8, 3) := by decide +kernel
theorem dX8_changed_208 : decode cX8_changed 208 = .ok (.iload 8, 2) := by decide +kernel
theorem dX8_changed_210 : decode cX8_changed 210 = .ok (.goto 10, 3) := by decide +kernel
theorem dX8_changed_213 : decode cX8_changed 213 = .ok (.aload_n 0, 1) := by decide +kernel
theorem dX8_changed_214 : decode cX8_changed 214 = .ok (.getfield 66, 3) := by decide +kernel
theorem dX8_changed_217 : decode cX8_changed 217 = .ok (.iload 6, 2) := by decide +kernel
theorem dX8_changed_219 : decode cX8_changed 219 = .ok (.iaload, 1) := by decide +kernel
theorem dX8_changed_220 : decode cX8_changed 220 = .ok (.ireturn, 1) := by decide +kernel
theorem dX8_isRow_0 : decode cX8_isRow 0 = .ok (.iconst 0, 1) := by decide +kernel
theorem dX8_isRow_1 : decode cX8_isRow 1 = .ok (.istore_n 3, 1) := by decide +kernel
theorem dX8_isRow_2 : decode cX8_isRow 2 = .ok (.iconst 0, 1) := by decide +kernel
theorem dX8_isRow_3 : decode cX8_isRow 3 = .ok (.istore 4, 2) := by decide +kernel
theorem dX8_isRow_5 : decode cX8_isRow 5 = .ok (.iload 4, 2) := by decide +kernel
theorem dX8_isRow_7 : decode cX8_isRow 7 = .ok (.iload_n 2, 1) := by decide +kernel
theorem dX8_isRow_8 : decode cX8_isRow 8 = .ok (.if_icmp .ge 48, 3) := by decide +kernel
theorem dX8_isRow_11 : decode cX8_isRow 11 = .ok (.iload_n 3, 1) := by decide +kernel
theorem dX8_isRow_12 : decode cX8_isRow 12 = .ok (.aload_n 0, 1) := by decide +kernel
theorem dX8_isRow_13 : decode cX8_isRow 13 = .ok (.getfield 57, 3) := by decide +kernel
theorem dX8_isRow_16 : decode cX8_isRow 16 = .ok (.iload_n 1, 1) := by decide +kernel
theorem dX8_isRow_17 : decode cX8_isRow 17 = .ok (.iload 4, 2) := by decide +kernel
theorem dX8_isRow_19 : decode cX8_isRow 19 = .ok (.iadd, 1) := by decide +kernel
theorem dX8_isRow_20 : decode cX8_isRow 20 = .ok (.iaload, 1) := by decide +kernel
theorem dX8_isRow_21 : decode cX8_isRow 21 = .ok (.i2l, 1) := by decide +kernel
theorem dX8_isRow_22 : decode cX8_isRow 22 = .ok (.lconst 0, 1) := by decide +kernel
theorem dX8_isRow_23 : decode cX8_isRow 23 = .ok (.iload_n 2, 1) := by decide +kernel
theorem dX8_isRow_24 : decode cX8_isRow 24 = .ok (.iconst 1, 1) := by decide +kernel
theorem dX8_isRow_25 : decode cX8_isRow 25 = .ok (.isub, 1) := by decide +kernel
theorem dX8_isRow_26 : decode cX8_isRow 26 = .ok (.i2l, 1) := by decide +kernel
theorem dX8_isRow_27 : decode cX8_isRow 27 = .ok (.invokestatic 85, 3) := by decide +kernel
theorem dX8_isRow_30 : decode cX8_isRow 30 = .ok (.ifCond .eq 17, 3) := by decide +kernel
theorem dX8_isRow_33 : decode cX8_isRow 33 = .ok (.iconst 1, 1) := by decide +kernel
theorem dX8_isRow_34 : decode cX8_isRow 34 = .ok (.aload_n 0, 1) := by decide +kernel
theorem dX8_isRow_35 : decode cX8_isRow 35 = .ok (.getfield 57, 3) := by decide +kernel
theorem dX8_isRow_38 : decode cX8_isRow 38 = .ok (.iload_n 1, 1) := by decide +kernel
theorem dX8_isRow_39 : decode cX8_isRow 39 = .ok (.iload 4, 2) := by decide +kernel
theorem dX8_isRow_41 : decode cX8_isRow 41 = .ok (.iadd, 1) := by decide +kernel
theorem dX8_isRow_42 : decode cX8_isRow 42 = .ok (.iaload, 1) := by decide +kernel
theorem dX8_isRow_43 : decode cX8_isRow 43 = .ok (.ishl, 1) := by decide +kernel
theorem dX8_isRow_44 : decode cX8_isRow 44 = .ok (.goto 4, 3) := by decide +kernel
theorem dX8_isRow_47 : decode cX8_isRow 47 = .ok (.iconst 0, 1) := by decide +kernel
theorem dX8_isRow_48 : decode cX8_isRow 48 = .ok (.ior, 1) := by decide +kernel
theorem dX8_isRow_49 : decode cX8_isRow 49 = .ok (.istore_n 3, 1) := by decide +kernel
theorem dX8_isRow_50 : decode cX8_isRow 50 = .ok (.iinc 4 1, 3) := by decide +kernel
theorem dX8_isRow_53 : decode cX8_isRow 53 = .ok (.goto (-48), 3) := by decide +kernel
theorem dX8_isRow_56 : decode cX8_isRow 56 = .ok (.iload_n 3, 1) := by decide +kernel
theorem dX8_isRow_57 : decode cX8_isRow 57 = .ok (.iconst 1, 1) := by decide +kernel
theorem dX8_isRow_58 : decode cX8_isRow 58 = .ok (.iload_n 2, 1) := by decide +kernel
theorem dX8_isRow_59 : decode cX8_isRow 59 = .ok (.ishl, 1) := by decide +kernel
theorem dX8_isRow_60 : decode cX8_isRow 60 = .ok (.iconst 1, 1) := by decide +kernel
theorem dX8_isRow_61 : decode cX8_isRow 61 = .ok (.isub, 1) := by decide +kernel
theorem dX8_isRow_62 : decode cX8_isRow 62 = .ok (.if_icmp .ne 7, 3) := by decide +kernel
theorem dX8_isRow_65 : decode cX8_isRow 65 = .ok (.iconst 1, 1) := by decide +kernel
theorem dX8_isRow_66 : decode cX8_isRow 66 = .ok (.goto 4, 3) := by decide +kernel
theorem dX8_isRow_69 : decode cX8_isRow 69 = .ok (.iconst 0, 1) := by decide +kernel
theorem dX8_isRow_70 : decode cX8_isRow 70 = .ok (.ireturn, 1) := by decide +kernel
theorem dX8_findRanks_0 : decode cX8_findRanks 0 = .ok (.iconst 1, 1) := by decide +kernel
theorem dX8_findRanks_1 : decode cX8_findRanks 1 = .ok (.istore_n 3, 1) := by decide +kernel
theorem dX8_findRanks_2 : decode cX8_findRanks 2 = .ok (.iconst 0, 1) := by decide +kernel
theorem dX8_findRanks_3 : decode cX8_findRanks 3 = .ok (.istore 4, 2) := by decide +kernel
theorem dX8_findRanks_5 : decode cX8_findRanks 5 = .ok (.iload 4, 2) := by decide +kernel
theorem dX8_findRanks_7 : decode cX8_findRanks 7 = .ok (.iconst 2, 1) := by decide +kernel
theorem dX8_findRanks_8 : decode cX8_findRanks 8 = .ok (.iload_n 2, 1) := by decide +kernel
theorem dX8_findRanks_9 : decode cX8_findRanks 9 = .ok (.imul, 1) := by decide +kernel
theorem dX8_findRanks_10 : decode cX8_findRanks 10 = .ok (.if_icmp .ge 70, 3) := by decide +kernel
theorem dX8_findRanks_13 : decode cX8_findRanks 13 = .ok (.iload_n 3, 1) := by decide +kernel
theorem dX8_findRanks_14 : decode cX8_findRanks 14 = .ok (.ifCond .eq 66, 3) := by decide +kernel
theorem dX8_findRanks_17 : decode cX8_findRanks 17 = .ok (.aload_n 0, 1) := by decide +kernel
theorem dX8_findRanks_18 : decode cX8_findRanks 18 = .ok (.iload_n 1, 1) := by decide +kernel
theorem dX8_findRanks_19 : decode cX8_findRanks 19 = .ok (.iload_n 2, 1) := by decide +kernel
theorem dX8_findRanks_20 : decode cX8_findRanks 20 = .ok (.iload 4, 2) := by decide +kernel
theorem dX8_findRanks_22 : decode cX8_findRanks 22 = .ok (.imul, 1) := by decide +kernel
theorem dX8_findRanks_23 : decode cX8_findRanks 23 = .ok (.iadd, 1) := by decide +kernel
theorem dX8_findRanks_24 : decode cX8_findRanks 24 = .ok (.iload_n 2, 1) := by decide +kernel
theorem dX8_findRanks_25 : decode cX8_findRanks 25 = .ok (.invokevirtual 243, 3) := by decide +kernel
theorem dX8_findRanks_28 : decode cX8_findRanks 28 = .ok (.istore_n 3, 1) := by decide +kernel
theorem dX8_findRanks_29 : decode cX8_findRanks 29 = .ok (.iconst 0, 1) := by decide +kernel
theorem dX8_findRanks_30 : decode cX8_findRanks 30 = .ok (.istore 5, 2) := by decide +kernel
theorem dX8_findRanks_32 : decode cX8_findRanks 32 = .ok (.iload 5, 2) := by decide +kernel
theorem dX8_findRanks_34 : decode cX8_findRanks 34 = .ok (.iload_n 2, 1) := by decide +kernel
theorem dX8_findRanks_35 : decode cX8_findRanks 35 = .ok (.if_icmp .ge 39, 3) := by decide +kernel
theorem dX8_findRanks_38 : decode cX8_findRanks 38 = .ok (.iload_n 3, 1) := by decide +kernel
theorem dX8_findRanks_39 : decode cX8_findRanks 39 = .ok (.ifCond .eq 35, 3) := by decide +kernel
theorem dX8_findRanks_42 : decode cX8_findRanks 42 = .ok (.aload_n 0, 1) := by decide +kernel
theorem dX8_findRanks_43 : decode cX8_findRanks 43 = .ok (.getfield 69, 3) := by decide +kernel
theorem dX8_findRanks_46 : decode cX8_findRanks 46 = .ok (.iload_n 2, 1) := by decide +kernel
theorem dX8_findRanks_47 : decode cX8_findRanks 47 = .ok (.iload 4, 2) := by decide +kernel
theorem dX8_findRanks_49 : decode cX8_findRanks 49 = .ok (.imul, 1) := by decide +kernel
theorem dX8_findRanks_50 : decode cX8_findRanks 50 = .ok (.aload_n 0, 1) := by decide +kernel
theorem dX8_findRanks_51 : decode cX8_findRanks 51 = .ok (.getfield 57, 3) := by decide +kernel
theorem dX8_findRanks_54 : decode cX8_findRanks 54 = .ok (.iload_n 1, 1) := by decide +kernel
theorem dX8_findRanks_55 : decode cX8_findRanks 55 = .ok (.iload_n 2, 1) := by decide +kernel
theorem dX8_findRanks_56 : decode cX8_findRanks 56 = .ok (.iload 4, 2) := by decide +kernel
theorem dX8_findRanks_58 : decode cX8_findRanks 58 = .ok (.imul, 1) := by decide +kernel
theorem dX8_findRanks_59 : decode cX8_findRanks 59 = .ok (.iadd, 1) := by decide +kernel
theorem dX8_findRanks_60 : decode cX8_findRanks 60 = .ok (.iload 5, 2) := by decide +kernel
theorem dX8_findRanks_62 : decode cX8_findRanks 62 = .ok (.iadd, 1) := by decide +kernel
theorem dX8_findRanks_63 : decode cX8_findRanks 63 = .ok (.iaload, 1) := by decide +kernel
theorem dX8_findRanks_64 : decode cX8_findRanks 64 = .ok (.iadd, 1) := by decide +kernel
theorem dX8_findRanks_65 : decode cX8_findRanks 65 = .ok (.iload 5, 2) := by decide +kernel
theorem dX8_findRanks_67 : decode cX8_findRanks 67 = .ok (.iastore, 1) := by decide +kernel
theorem dX8_findRanks_68 : decode cX8_findRanks 68 = .ok (.iinc 5 1, 3) := by decide +kernel
theorem dX8_findRanks_71 : decode cX8_findRanks 71 = .ok (.goto (-39), 3) := by decide +kernel
theorem dX8_findRanks_74 : decode cX8_findRanks 74 = .ok (.iinc 4 1, 3) := by decide +kernel
theorem dX8_findRanks_77 : decode cX8_findRanks 77 = .ok (.goto (-72), 3) := by decide +kernel
theorem dX8_findRanks_80 : decode cX8_findRanks 80 = .ok (.iload_n 3, 1) := by decide +kernel
theorem dX8_findRanks_81 : decode cX8_findRanks 81 = .ok (.ireturn, 1) := by decide +kernel
theorem dX8_firm_0 : decode cX8_firm 0 = .ok (.iload_n 1, 1) := by decide +kernel
theorem dX8_firm_1 : decode cX8_firm 1 = .ok (.iload_n 2, 1) := by decide +kernel
theorem dX8_firm_2 : decode cX8_firm 2 = .ok (.invokestatic 230, 3) := by decide +kernel
theorem dX8_firm_5 : decode cX8_firm 5 = .ok (.ifCond .eq 33, 3) := by decide +kernel
theorem dX8_firm_8 : decode cX8_firm 8 = .ok (.iload 4, 2) := by decide +kernel
theorem dX8_firm_10 : decode cX8_firm 10 = .ok (.i2l, 1) := by decide +kernel
theorem dX8_firm_11 : decode cX8_firm 11 = .ok (.ldc2_w 228, 3) := by decide +kernel
theorem dX8_firm_14 : decode cX8_firm 14 = .ok (.ldc2_w 246, 3) := by decide +kernel
theorem dX8_firm_17 : decode cX8_firm 17 = .ok (.invokestatic 85, 3) := by decide +kernel
theorem dX8_firm_20 : decode cX8_firm 20 = .ok (.ifCond .eq 18, 3) := by decide +kernel
theorem dX8_firm_23 : decode cX8_firm 23 = .ok (.iload 5, 2) := by decide +kernel
theorem dX8_firm_25 : decode cX8_firm 25 = .ok (.i2l, 1) := by decide +kernel
theorem dX8_firm_26 : decode cX8_firm 26 = .ok (.lconst 0, 1) := by decide +kernel
theorem dX8_firm_27 : decode cX8_firm 27 = .ok (.iload 4, 2) := by decide +kernel
theorem dX8_firm_29 : decode cX8_firm 29 = .ok (.iconst 1, 1) := by decide +kernel
theorem dX8_firm_30 : decode cX8_firm 30 = .ok (.isub, 1) := by decide +kernel
theorem dX8_firm_31 : decode cX8_firm 31 = .ok (.i2l, 1) := by decide +kernel
theorem dX8_firm_32 : decode cX8_firm 32 = .ok (.invokestatic 85, 3) := by decide +kernel
theorem dX8_firm_35 : decode cX8_firm 35 = .ok (.ifCond .ne 5, 3) := by decide +kernel
theorem dX8_firm_38 : decode cX8_firm 38 = .ok (.iconst (-1), 1) := by decide +kernel
theorem dX8_firm_39 : decode cX8_firm 39 = .ok (.ireturn, 1) := by decide +kernel
theorem dX8_firm_40 : decode cX8_firm 40 = .ok (.aload_n 0, 1) := by decide +kernel
theorem dX8_firm_41 : decode cX8_firm 41 = .ok (.iload_n 1, 1) := by decide +kernel
theorem dX8_firm_42 : decode cX8_firm 42 = .ok (.iload_n 2, 1) := by decide +kernel
theorem dX8_firm_43 : decode cX8_firm 43 = .ok (.iload_n 3, 1) := by decide +kernel
theorem dX8_firm_44 : decode cX8_firm 44 = .ok (.iconst 2, 1) := by decide +kernel
theorem dX8_firm_45 : decode cX8_firm 45 = .ok (.iload 4, 2) := by decide +kernel
theorem dX8_firm_47 : decode cX8_firm 47 = .ok (.imul, 1) := by decide +kernel
theorem dX8_firm_48 : decode cX8_firm 48 = .ok (.iload 4, 2) := by decide +kernel
theorem dX8_firm_50 : decode cX8_firm 50 = .ok (.imul, 1) := by decide +kernel
theorem dX8_firm_51 : decode cX8_firm 51 = .ok (.invokevirtual 233, 3) := by decide +kernel
theorem dX8_firm_54 : decode cX8_firm 54 = .ok (.istore 6, 2) := by decide +kernel
theorem dX8_firm_56 : decode cX8_firm 56 = .ok (.iload 6, 2) := by decide +kernel
theorem dX8_firm_58 : decode cX8_firm 58 = .ok (.ifCond .ge 6, 3) := by decide +kernel
theorem dX8_firm_61 : decode cX8_firm 61 = .ok (.iload 6, 2) := by decide +kernel
theorem dX8_firm_63 : decode cX8_firm 63 = .ok (.ireturn, 1) := by decide +kernel
theorem dX8_firm_64 : decode cX8_firm 64 = .ok (.bipush 100, 2) := by decide +kernel
theorem dX8_firm_66 : decode cX8_firm 66 = .ok (.iload_n 1, 1) := by decide +kernel
theorem dX8_firm_67 : decode cX8_firm 67 = .ok (.imul, 1) := by decide +kernel
theorem dX8_firm_68 : decode cX8_firm 68 = .ok (.iload_n 3, 1) := by decide +kernel
theorem dX8_firm_69 : decode cX8_firm 69 = .ok (.iadd, 1) := by decide +kernel
theorem dX8_firm_70 : decode cX8_firm 70 = .ok (.istore 7, 2) := by decide +kernel
theorem dX8_firm_72 : decode cX8_firm 72 = .ok (.aload_n 0, 1) := by decide +kernel
theorem dX8_firm_73 : decode cX8_firm 73 = .ok (.iload 7, 2) := by decide +kernel
theorem dX8_firm_75 : decode cX8_firm 75 = .ok (.iload 4, 2) := by decide +kernel
theorem dX8_firm_77 : decode cX8_firm 77 = .ok (.invokevirtual 248, 3) := by decide +kernel
theorem dX8_firm_80 : decode cX8_firm 80 = .ok (.ifCond .ne 6, 3) := by decide +kernel
theorem dX8_firm_83 : decode cX8_firm 83 = .ok (.bipush (-2), 2) := by decide +kernel
theorem dX8_firm_85 : decode cX8_firm 85 = .ok (.ireturn, 1) := by decide +kernel
theorem dX8_firm_86 : decode cX8_firm 86 = .ok (.iconst 0, 1) := by decide +kernel
theorem dX8_firm_87 : decode cX8_firm 87 = .ok (.istore 8, 2) := by decide +kernel
theorem dX8_firm_89 : decode cX8_firm 89 = .ok (.iload 8, 2) := by decide +kernel
theorem dX8_firm_91 : decode cX8_firm 91 = .ok (.iload 4, 2) := by decide +kernel
theorem dX8_firm_93 : decode cX8_firm 93 = .ok (.if_icmp .ge 35, 3) := by decide +kernel
theorem dX8_firm_96 : decode cX8_firm 96 = .ok (.aload_n 0, 1) := by decide +kernel
theorem dX8_firm_97 : decode cX8_firm 97 = .ok (.getfield 72, 3) := by decide +kernel
theorem dX8_firm_100 : decode cX8_firm 100 = .ok (.iload 8, 2) := by decide +kernel
theorem dX8_firm_102 : decode cX8_firm 102 = .ok (.bipush (-4), 2) := by decide +kernel
theorem dX8_firm_104 : decode cX8_firm 104 = .ok (.iastore, 1) := by decide +kernel
theorem dX8_firm_105 : decode cX8_firm 105 = .ok (.aload_n 0, 1) := by decide +kernel
theorem dX8_firm_106 : decode cX8_firm 106 = .ok (.getfield 75, 3) := by decide +kernel
theorem dX8_firm_109 : decode cX8_firm 109 = .ok (.iload 8, 2) := by decide +kernel
theorem dX8_firm_111 : decode cX8_firm 111 = .ok (.bipush (-4), 2) := by decide +kernel
theorem dX8_firm_113 : decode cX8_firm 113 = .ok (.iastore, 1) := by decide +kernel
theorem dX8_firm_114 : decode cX8_firm 114 = .ok (.aload_n 0, 1) := by decide +kernel
theorem dX8_firm_115 : decode cX8_firm 115 = .ok (.getfield 78, 3) := by decide +kernel
theorem dX8_firm_118 : decode cX8_firm 118 = .ok (.iload 8, 2) := by decide +kernel
theorem dX8_firm_120 : decode cX8_firm 120 = .ok (.iconst 0, 1) := by decide +kernel
theorem dX8_firm_121 : decode cX8_firm 121 = .ok (.iastore, 1) := by decide +kernel
theorem dX8_firm_122 : decode cX8_firm 122 = .ok (.iinc 8 1, 3) := by decide +kernel
theorem dX8_firm_125 : decode cX8_firm 125 = .ok (.goto (-36), 3) := by decide +kernel
theorem dX8_firm_128 : decode cX8_firm 128 = .ok (.iconst 0, 1) := by decide +kernel
theorem dX8_firm_129 : decode cX8_firm 129 = .ok (.istore 8, 2) := by decide +kernel
theorem dX8_firm_131 : decode cX8_firm 131 = .ok (.iload 8, 2) := by decide +kernel
theorem dX8_firm_133 : decode cX8_firm 133 = .ok (.ifCond .lt 160, 3) := by decide +kernel
theorem dX8_firm_136 : decode cX8_firm 136 = .ok (.aload_n 0, 1) := by decide +kernel
theorem dX8_firm_137 : decode cX8_firm 137 = .ok (.getfield 57, 3) := by decide +kernel
theorem dX8_firm_140 : decode cX8_firm 140 = .ok (.iload 7, 2) := by decide +kernel
theorem dX8_firm_142 : decode cX8_firm 142 = .ok (.iload 4, 2) := by decide +kernel
theorem dX8_firm_144 : decode cX8_firm 144 = .ok (.iload 8, 2) := by decide +kernel
theorem dX8_firm_146 : decode cX8_firm 146 = .ok (.imul, 1) := by decide +kernel
theorem dX8_firm_147 : decode cX8_firm 147 = .ok (.iadd, 1) := by decide +kernel
theorem dX8_firm_148 : decode cX8_firm 148 = .ok (.aload_n 0, 1) := by decide +kernel
theorem dX8_firm_149 : decode cX8_firm 149 = .ok (.getfield 78, 3) := by decide +kernel
theorem dX8_firm_152 : decode cX8_firm 152 = .ok (.iload 8, 2) := by decide +kernel
theorem dX8_firm_154 : decode cX8_firm 154 = .ok (.iaload, 1) := by decide +kernel
theorem dX8_firm_155 : decode cX8_firm 155 = .ok (.iadd, 1) := by decide +kernel
theorem dX8_firm_156 : decode cX8_firm 156 = .ok (.iaload, 1) := by decide +kernel
theorem dX8_firm_157 : decode cX8_firm 157 = .ok (.istore 9, 2) := by decide +kernel
theorem dX8_firm_159 : decode cX8_firm 159 = .ok (.aload_n 0, 1) := by decide +kernel
theorem dX8_firm_160 : decode cX8_firm 160 = .ok (.getfield 78, 3) := by decide +kernel
theorem dX8_firm_163 : decode cX8_firm 163 = .ok (.iload 8, 2) := by decide +kernel
theorem dX8_firm_165 : decode cX8_firm 165 = .ok (.dup2, 1) := by decide +kernel
theorem dX8_firm_166 : decode cX8_firm 166 = .ok (.iaload, 1) := by decide +kernel
theorem dX8_firm_167 : decode cX8_firm 167 = .ok (.iconst 1, 1) := by decide +kernel
theorem dX8_firm_168 : decode cX8_firm 168 = .ok (.iadd, 1) := by decide +kernel
theorem dX8_firm_169 : decode cX8_firm 169 = .ok (.iastore, 1) := by decide +kernel
theorem dX8_firm_170 : decode cX8_firm 170 = .ok (.aload_n 0, 1) := by decide +kernel
theorem dX8_firm_171 : decode cX8_firm 171 = .ok (.getfield 75, 3) := by decide +kernel
theorem dX8_firm_174 : decode cX8_firm 174 = .ok (.iload 9, 2) := by decide +kernel
theorem dX8_firm_176 : decode cX8_firm 176 = .ok (.iaload, 1) := by decide +kernel
theorem dX8_firm_177 : decode cX8_firm 177 = .ok (.istore 10, 2) := by decide +kernel
theorem dX8_firm_179 : decode cX8_firm 179 = .ok (.iload 10, 2) := by decide +kernel
theorem dX8_firm_181 : decode cX8_firm 181 = .ok (.ifCond .lt 38, 3) := by decide +kernel
theorem dX8_firm_184 : decode cX8_firm 184 = .ok (.aload_n 0, 1) := by decide +kernel
theorem dX8_firm_185 : decode cX8_firm 185 = .ok (.getfield 69, 3) := by decide +kernel
theorem dX8_firm_188 : decode cX8_firm 188 = .ok (.iload 4, 2) := by decide +kernel
theorem dX8_firm_190 : decode cX8_firm 190 = .ok (.iload 4, 2) := by decide +kernel
theorem dX8_firm_192 : decode cX8_firm 192 = .ok (.iload 9, 2) := by decide +kernel
theorem dX8_firm_194 : decode cX8_firm 194 = .ok (.iadd, 1) := by decide +kernel
theorem dX8_firm_195 : decode cX8_firm 195 = .ok (.imul, 1) := by decide +kernel
theorem dX8_firm_196 : decode cX8_firm 196 = .ok (.iload 8, 2) := by decide +kernel
theorem dX8_firm_198 : decode cX8_firm 198 = .ok (.iadd, 1) := by decide +kernel
theorem dX8_firm_199 : decode cX8_firm 199 = .ok (.iaload, 1) := by decide +kernel
theorem dX8_firm_200 : decode cX8_firm 200 = .ok (.aload_n 0, 1) := by decide +kernel
theorem dX8_firm_201 : decode cX8_firm 201 = .ok (.getfield 69, 3) := by decide +kernel
theorem dX8_firm_204 : decode cX8_firm 204 = .ok (.iload 4, 2) := by decide +kernel
theorem dX8_firm_206 : decode cX8_firm 206 = .ok (.iload 4, 2) := by decide +kernel
theorem dX8_firm_208 : decode cX8_firm 208 = .ok (.iload 9, 2) := by decide +kernel
theorem dX8_firm_210 : decode cX8_firm 210 = .ok (.iadd, 1) := by decide +kernel
theorem dX8_firm_211 : decode cX8_firm 211 = .ok (.imul, 1) := by decide +kernel
theorem dX8_firm_212 : decode cX8_firm 212 = .ok (.iload 10, 2) := by decide +kernel
theorem dX8_firm_214 : decode cX8_firm 214 = .ok (.iadd, 1) := by decide +kernel
theorem dX8_firm_215 : decode cX8_firm 215 = .ok (.iaload, 1) := by decide +kernel
theorem dX8_firm_216 : decode cX8_firm 216 = .ok (.if_icmp .ge 35, 3) := by decide +kernel
theorem dX8_firm_219 : decode cX8_firm 219 = .ok (.aload_n 0, 1) := by decide +kernel
theorem dX8_firm_220 : decode cX8_firm 220 = .ok (.getfield 75, 3) := by decide +kernel
theorem dX8_firm_223 : decode cX8_firm 223 = .ok (.iload 9, 2) := by decide +kernel
theorem dX8_firm_225 : decode cX8_firm 225 = .ok (.iload 8, 2) := by decide +kernel
theorem dX8_firm_227 : decode cX8_firm 227 = .ok (.iastore, 1) := by decide +kernel
theorem dX8_firm_228 : decode cX8_firm 228 = .ok (.aload_n 0, 1) := by decide +kernel
theorem dX8_firm_229 : decode cX8_firm 229 = .ok (.getfield 72, 3) := by decide +kernel
theorem dX8_firm_232 : decode cX8_firm 232 = .ok (.iload 8, 2) := by decide +kernel
theorem dX8_firm_234 : decode cX8_firm 234 = .ok (.iload 9, 2) := by decide +kernel
theorem dX8_firm_236 : decode cX8_firm 236 = .ok (.iastore, 1) := by decide +kernel
theorem dX8_firm_237 : decode cX8_firm 237 = .ok (.iload 10, 2) := by decide +kernel
theorem dX8_firm_239 : decode cX8_firm 239 = .ok (.ifCond .lt 12, 3) := by decide +kernel
theorem dX8_firm_242 : decode cX8_firm 242 = .ok (.aload_n 0, 1) := by decide +kernel
theorem dX8_firm_243 : decode cX8_firm 243 = .ok (.getfield 72, 3) := by decide +kernel
theorem dX8_firm_246 : decode cX8_firm 246 = .ok (.iload 10, 2) := by decide +kernel
theorem dX8_firm_248 : decode cX8_firm 248 = .ok (.bipush (-4), 2) := by decide +kernel
theorem dX8_firm_250 : decode cX8_firm 250 = .ok (.iastore, 1) := by decide +kernel
theorem dX8_firm_251 : decode cX8_firm 251 = .ok (.bipush (-4), 2) := by decide +kernel
theorem dX8_firm_253 : decode cX8_firm 253 = .ok (.istore 8, 2) := by decide +kernel
theorem dX8_firm_255 : decode cX8_firm 255 = .ok (.iconst 0, 1) := by decide +kernel
theorem dX8_firm_256 : decode cX8_firm 256 = .ok (.istore 11, 2) := by decide +kernel
theorem dX8_firm_258 : decode cX8_firm 258 = .ok (.iload 11, 2) := by decide +kernel
theorem dX8_firm_260 : decode cX8_firm 260 = .ok (.iload 4, 2) := by decide +kernel
theorem dX8_firm_262 : decode cX8_firm 262 = .ok (.if_icmp .ge 28, 3) := by decide +kernel
theorem dX8_firm_265 : decode cX8_firm 265 = .ok (.aload_n 0, 1) := by decide +kernel
theorem dX8_firm_266 : decode cX8_firm 266 = .ok (.getfield 72, 3) := by decide +kernel
theorem dX8_firm_269 : decode cX8_firm 269 = .ok (.iload 11, 2) := by decide +kernel
theorem dX8_firm_271 : decode cX8_firm 271 = .ok (.iaload, 1) := by decide +kernel
theorem dX8_firm_272 : decode cX8_firm 272 = .ok (.ifCond .ge 8, 3) := by decide +kernel
theorem dX8_firm_275 : decode cX8_firm 275 = .ok (.iload 11, 2) := by decide +kernel
theorem dX8_firm_277 : decode cX8_firm 277 = .ok (.goto 5, 3) := by decide +kernel
theorem dX8_firm_280 : decode cX8_firm 280 = .ok (.iload 8, 2) := by decide +kernel
theorem dX8_firm_282 : decode cX8_firm 282 = .ok (.istore 8, 2) := by decide +kernel
theorem dX8_firm_284 : decode cX8_firm 284 = .ok (.iinc 11 1, 3) := by decide +kernel
theorem dX8_firm_287 : decode cX8_firm 287 = .ok (.goto (-29), 3) := by decide +kernel
theorem dX8_firm_290 : decode cX8_firm 290 = .ok (.goto (-159), 3) := by decide +kernel
theorem dX8_firm_293 : decode cX8_firm 293 = .ok (.aload_n 0, 1) := by decide +kernel
theorem dX8_firm_294 : decode cX8_firm 294 = .ok (.getfield 72, 3) := by decide +kernel
theorem dX8_firm_297 : decode cX8_firm 297 = .ok (.iload 5, 2) := by decide +kernel
theorem dX8_firm_299 : decode cX8_firm 299 = .ok (.iaload, 1) := by decide +kernel
theorem dX8_firm_300 : decode cX8_firm 300 = .ok (.ireturn, 1) := by decide +kernel
theorem dX8_judged_0 : decode cX8_judged 0 = .ok (.iload_n 1, 1) := by decide +kernel
theorem dX8_judged_1 : decode cX8_judged 1 = .ok (.iload_n 2, 1) := by decide +kernel
theorem dX8_judged_2 : decode cX8_judged 2 = .ok (.invokestatic 230, 3) := by decide +kernel
theorem dX8_judged_5 : decode cX8_judged 5 = .ok (.ifCond .eq 31, 3) := by decide +kernel
theorem dX8_judged_8 : decode cX8_judged 8 = .ok (.iload 4, 2) := by decide +kernel
theorem dX8_judged_10 : decode cX8_judged 10 = .ok (.i2l, 1) := by decide +kernel
theorem dX8_judged_11 : decode cX8_judged 11 = .ok (.ldc2_w 228, 3) := by decide +kernel
theorem dX8_judged_14 : decode cX8_judged 14 = .ok (.ldc2_w 246, 3) := by decide +kernel
theorem dX8_judged_17 : decode cX8_judged 17 = .ok (.invokestatic 85, 3) := by decide +kernel
theorem dX8_judged_20 : decode cX8_judged 20 = .ok (.ifCond .eq 16, 3) := by decide +kernel
theorem dX8_judged_23 : decode cX8_judged 23 = .ok (.iload 5, 2) := by decide +kernel
theorem dX8_judged_25 : decode cX8_judged 25 = .ok (.i2l, 1) := by decide +kernel
theorem dX8_judged_26 : decode cX8_judged 26 = .ok (.lconst 0, 1) := by decide +kernel
theorem dX8_judged_27 : decode cX8_judged 27 = .ok (.ldc2_w 108, 3) := by decide +kernel
theorem dX8_judged_30 : decode cX8_judged 30 = .ok (.invokestatic 85, 3) := by decide +kernel
theorem dX8_judged_33 : decode cX8_judged 33 = .ok (.ifCond .ne 5, 3) := by decide +kernel
theorem dX8_judged_36 : decode cX8_judged 36 = .ok (.iconst (-1), 1) := by decide +kernel
theorem dX8_judged_37 : decode cX8_judged 37 = .ok (.ireturn, 1) := by decide +kernel
theorem dX8_judged_38 : decode cX8_judged 38 = .ok (.aload_n 0, 1) := by decide +kernel
theorem dX8_judged_39 : decode cX8_judged 39 = .ok (.iload_n 1, 1) := by decide +kernel
theorem dX8_judged_40 : decode cX8_judged 40 = .ok (.iload_n 2, 1) := by decide +kernel
theorem dX8_judged_41 : decode cX8_judged 41 = .ok (.iload_n 3, 1) := by decide +kernel
theorem dX8_judged_42 : decode cX8_judged 42 = .ok (.iconst 2, 1) := by decide +kernel
theorem dX8_judged_43 : decode cX8_judged 43 = .ok (.iload 4, 2) := by decide +kernel
theorem dX8_judged_45 : decode cX8_judged 45 = .ok (.imul, 1) := by decide +kernel
theorem dX8_judged_46 : decode cX8_judged 46 = .ok (.iload 4, 2) := by decide +kernel
theorem dX8_judged_48 : decode cX8_judged 48 = .ok (.imul, 1) := by decide +kernel
theorem dX8_judged_49 : decode cX8_judged 49 = .ok (.invokevirtual 233, 3) := by decide +kernel
theorem dX8_judged_52 : decode cX8_judged 52 = .ok (.istore 6, 2) := by decide +kernel
theorem dX8_judged_54 : decode cX8_judged 54 = .ok (.iload 6, 2) := by decide +kernel
theorem dX8_judged_56 : decode cX8_judged 56 = .ok (.ifCond .ge 8, 3) := by decide +kernel
theorem dX8_judged_59 : decode cX8_judged 59 = .ok (.iload 6, 2) := by decide +kernel
theorem dX8_judged_61 : decode cX8_judged 61 = .ok (.goto 13, 3) := by decide +kernel
theorem dX8_judged_64 : decode cX8_judged 64 = .ok (.aload_n 0, 1) := by decide +kernel
theorem dX8_judged_65 : decode cX8_judged 65 = .ok (.iload 5, 2) := by decide +kernel
theorem dX8_judged_67 : decode cX8_judged 67 = .ok (.iload_n 2, 1) := by decide +kernel
theorem dX8_judged_68 : decode cX8_judged 68 = .ok (.iconst 0, 1) := by decide +kernel
theorem dX8_judged_69 : decode cX8_judged 69 = .ok (.iload 4, 2) := by decide +kernel
theorem dX8_judged_71 : decode cX8_judged 71 = .ok (.invokevirtual 233, 3) := by decide +kernel
theorem dX8_judged_74 : decode cX8_judged 74 = .ok (.istore 6, 2) := by decide +kernel
theorem dX8_judged_76 : decode cX8_judged 76 = .ok (.iload 6, 2) := by decide +kernel
theorem dX8_judged_78 : decode cX8_judged 78 = .ok (.ifCond .ge 6, 3) := by decide +kernel
theorem dX8_judged_81 : decode cX8_judged 81 = .ok (.iload 6, 2) := by decide +kernel
theorem dX8_judged_83 : decode cX8_judged 83 = .ok (.ireturn, 1) := by decide +kernel
theorem dX8_judged_84 : decode cX8_judged 84 = .ok (.aload_n 0, 1) := by decide +kernel
theorem dX8_judged_85 : decode cX8_judged 85 = .ok (.bipush 100, 2) := by decide +kernel
theorem dX8_judged_87 : decode cX8_judged 87 = .ok (.iload_n 1, 1) := by decide +kernel
theorem dX8_judged_88 : decode cX8_judged 88 = .ok (.imul, 1) := by decide +kernel
theorem dX8_judged_89 : decode cX8_judged 89 = .ok (.iload_n 3, 1) := by decide +kernel
theorem dX8_judged_90 : decode cX8_judged 90 = .ok (.iadd, 1) := by decide +kernel
theorem dX8_judged_91 : decode cX8_judged 91 = .ok (.iload 4, 2) := by decide +kernel
theorem dX8_judged_93 : decode cX8_judged 93 = .ok (.invokevirtual 248, 3) := by decide +kernel
theorem dX8_judged_96 : decode cX8_judged 96 = .ok (.ifCond .eq 17, 3) := by decide +kernel
theorem dX8_judged_99 : decode cX8_judged 99 = .ok (.aload_n 0, 1) := by decide +kernel
theorem dX8_judged_100 : decode cX8_judged 100 = .ok (.bipush 100, 2) := by decide +kernel
theorem dX8_judged_102 : decode cX8_judged 102 = .ok (.iload 5, 2) := by decide +kernel
theorem dX8_judged_104 : decode cX8_judged 104 = .ok (.imul, 1) := by decide +kernel
theorem dX8_judged_105 : decode cX8_judged 105 = .ok (.iload 4, 2) := by decide +kernel
theorem dX8_judged_107 : decode cX8_judged 107 = .ok (.invokevirtual 243, 3) := by decide +kernel
theorem dX8_judged_110 : decode cX8_judged 110 = .ok (.ifCond .ne 6, 3) := by decide +kernel
theorem dX8_judged_113 : decode cX8_judged 113 = .ok (.bipush (-2), 2) := by decide +kernel
theorem dX8_judged_115 : decode cX8_judged 115 = .ok (.ireturn, 1) := by decide +kernel
theorem dX8_judged_116 : decode cX8_judged 116 = .ok (.iconst 0, 1) := by decide +kernel
theorem dX8_judged_117 : decode cX8_judged 117 = .ok (.istore 7, 2) := by decide +kernel
theorem dX8_judged_119 : decode cX8_judged 119 = .ok (.iload 7, 2) := by decide +kernel
theorem dX8_judged_121 : decode cX8_judged 121 = .ok (.iload 4, 2) := by decide +kernel
theorem dX8_judged_123 : decode cX8_judged 123 = .ok (.if_icmp .ge 43, 3) := by decide +kernel
theorem dX8_judged_126 : decode cX8_judged 126 = .ok (.aload_n 0, 1) := by decide +kernel
theorem dX8_judged_127 : decode cX8_judged 127 = .ok (.getfield 72, 3) := by decide +kernel
theorem dX8_judged_130 : decode cX8_judged 130 = .ok (.iload 7, 2) := by decide +kernel
theorem dX8_judged_132 : decode cX8_judged 132 = .ok (.aload_n 0, 1) := by decide +kernel
theorem dX8_judged_133 : decode cX8_judged 133 = .ok (.getfield 57, 3) := by decide +kernel
theorem dX8_judged_136 : decode cX8_judged 136 = .ok (.bipush 100, 2) := by decide +kernel
theorem dX8_judged_138 : decode cX8_judged 138 = .ok (.iload 5, 2) := by decide +kernel
theorem dX8_judged_140 : decode cX8_judged 140 = .ok (.imul, 1) := by decide +kernel
theorem dX8_judged_141 : decode cX8_judged 141 = .ok (.iload 7, 2) := by decide +kernel
theorem dX8_judged_143 : decode cX8_judged 143 = .ok (.iadd, 1) := by decide +kernel
theorem dX8_judged_144 : decode cX8_judged 144 = .ok (.iaload, 1) := by decide +kernel
theorem dX8_judged_145 : decode cX8_judged 145 = .ok (.iastore, 1) := by decide +kernel
theorem dX8_judged_146 : decode cX8_judged 146 = .ok (.aload_n 0, 1) := by decide +kernel
theorem dX8_judged_147 : decode cX8_judged 147 = .ok (.getfield 75, 3) := by decide +kernel
theorem dX8_judged_150 : decode cX8_judged 150 = .ok (.aload_n 0, 1) := by decide +kernel
theorem dX8_judged_151 : decode cX8_judged 151 = .ok (.getfield 72, 3) := by decide +kernel
theorem dX8_judged_154 : decode cX8_judged 154 = .ok (.iload 7, 2) := by decide +kernel
theorem dX8_judged_156 : decode cX8_judged 156 = .ok (.iaload, 1) := by decide +kernel
theorem dX8_judged_157 : decode cX8_judged 157 = .ok (.iload 7, 2) := by decide +kernel
theorem dX8_judged_159 : decode cX8_judged 159 = .ok (.iastore, 1) := by decide +kernel
theorem dX8_judged_160 : decode cX8_judged 160 = .ok (.iinc 7 1, 3) := by decide +kernel
theorem dX8_judged_163 : decode cX8_judged 163 = .ok (.goto (-44), 3) := by decide +kernel
theorem dX8_judged_166 : decode cX8_judged 166 = .ok (.iconst 0, 1) := by decide +kernel
theorem dX8_judged_167 : decode cX8_judged 167 = .ok (.istore 7, 2) := by decide +kernel
theorem dX8_judged_169 : decode cX8_judged 169 = .ok (.iload 7, 2) := by decide +kernel
theorem dX8_judged_171 : decode cX8_judged 171 = .ok (.iload 4, 2) := by decide +kernel
theorem dX8_judged_173 : decode cX8_judged 173 = .ok (.if_icmp .ge 108, 3) := by decide +kernel
theorem dX8_judged_176 : decode cX8_judged 176 = .ok (.iconst 0, 1) := by decide +kernel
theorem dX8_judged_177 : decode cX8_judged 177 = .ok (.istore 8, 2) := by decide +kernel
theorem dX8_judged_179 : decode cX8_judged 179 = .ok (.iload 8, 2) := by decide +kernel
theorem dX8_judged_181 : decode cX8_judged 181 = .ok (.iload 4, 2) := by decide +kernel
theorem dX8_judged_183 : decode cX8_judged 183 = .ok (.if_icmp .ge 92, 3) := by decide +kernel
theorem dX8_judged_186 : decode cX8_judged 186 = .ok (.aload_n 0, 1) := by decide +kernel
theorem dX8_judged_187 : decode cX8_judged 187 = .ok (.getfield 69, 3) := by decide +kernel
theorem dX8_judged_190 : decode cX8_judged 190 = .ok (.iload 4, 2) := by decide +kernel
theorem dX8_judged_192 : decode cX8_judged 192 = .ok (.iload 7, 2) := by decide +kernel
theorem dX8_judged_194 : decode cX8_judged 194 = .ok (.imul, 1) := by decide +kernel
theorem dX8_judged_195 : decode cX8_judged 195 = .ok (.iload 8, 2) := by decide +kernel
theorem dX8_judged_197 : decode cX8_judged 197 = .ok (.iadd, 1) := by decide +kernel
theorem dX8_judged_198 : decode cX8_judged 198 = .ok (.iaload, 1) := by decide +kernel
theorem dX8_judged_199 : decode cX8_judged 199 = .ok (.aload_n 0, 1) := by decide +kernel
theorem dX8_judged_200 : decode cX8_judged 200 = .ok (.getfield 69, 3) := by decide +kernel
theorem dX8_judged_203 : decode cX8_judged 203 = .ok (.iload 4, 2) := by decide +kernel
theorem dX8_judged_205 : decode cX8_judged 205 = .ok (.iload 7, 2) := by decide +kernel
theorem dX8_judged_207 : decode cX8_judged 207 = .ok (.imul, 1) := by decide +kernel
theorem dX8_judged_208 : decode cX8_judged 208 = .ok (.aload_n 0, 1) := by decide +kernel
theorem dX8_judged_209 : decode cX8_judged 209 = .ok (.getfield 72, 3) := by decide +kernel
theorem dX8_judged_212 : decode cX8_judged 212 = .ok (.iload 7, 2) := by decide +kernel
theorem dX8_judged_214 : decode cX8_judged 214 = .ok (.iaload, 1) := by decide +kernel
theorem dX8_judged_215 : decode cX8_judged 215 = .ok (.iadd, 1) := by decide +kernel
theorem dX8_judged_216 : decode cX8_judged 216 = .ok (.iaload, 1) := by decide +kernel
theorem dX8_judged_217 : decode cX8_judged 217 = .ok (.if_icmp .ge 52, 3) := by decide +kernel
theorem dX8_judged_220 : decode cX8_judged 220 = .ok (.aload_n 0, 1) := by decide +kernel
theorem dX8_judged_221 : decode cX8_judged 221 = .ok (.getfield 69, 3) := by decide +kernel
theorem dX8_judged_224 : decode cX8_judged 224 = .ok (.iload 4, 2) := by decide +kernel
theorem dX8_judged_226 : decode cX8_judged 226 = .ok (.iload 4, 2) := by decide +kernel
theorem dX8_judged_228 : decode cX8_judged 228 = .ok (.iload 8, 2) := by decide +kernel
theorem dX8_judged_230 : decode cX8_judged 230 = .ok (.iadd, 1) := by decide +kernel
theorem dX8_judged_231 : decode cX8_judged 231 = .ok (.imul, 1) := by decide +kernel
theorem dX8_judged_232 : decode cX8_judged 232 = .ok (.iload 7, 2) := by decide +kernel
theorem dX8_judged_234 : decode cX8_judged 234 = .ok (.iadd, 1) := by decide +kernel
theorem dX8_judged_235 : decode cX8_judged 235 = .ok (.iaload, 1) := by decide +kernel
theorem dX8_judged_236 : decode cX8_judged 236 = .ok (.aload_n 0, 1) := by decide +kernel
theorem dX8_judged_237 : decode cX8_judged 237 = .ok (.getfield 69, 3) := by decide +kernel
theorem dX8_judged_240 : decode cX8_judged 240 = .ok (.iload 4, 2) := by decide +kernel
theorem dX8_judged_242 : decode cX8_judged 242 = .ok (.iload 4, 2) := by decide +kernel
theorem dX8_judged_244 : decode cX8_judged 244 = .ok (.iload 8, 2) := by decide +kernel
theorem dX8_judged_246 : decode cX8_judged 246 = .ok (.iadd, 1) := by decide +kernel
theorem dX8_judged_247 : decode cX8_judged 247 = .ok (.imul, 1) := by decide +kernel
theorem dX8_judged_248 : decode cX8_judged 248 = .ok (.aload_n 0, 1) := by decide +kernel
theorem dX8_judged_249 : decode cX8_judged 249 = .ok (.getfield 75, 3) := by decide +kernel
theorem dX8_judged_252 : decode cX8_judged 252 = .ok (.iload 8, 2) := by decide +kernel
theorem dX8_judged_254 : decode cX8_judged 254 = .ok (.iaload, 1) := by decide +kernel
theorem dX8_judged_255 : decode cX8_judged 255 = .ok (.iadd, 1) := by decide +kernel
theorem dX8_judged_256 : decode cX8_judged 256 = .ok (.iaload, 1) := by decide +kernel
theorem dX8_judged_257 : decode cX8_judged 257 = .ok (.if_icmp .ge 12, 3) := by decide +kernel
theorem dX8_judged_260 : decode cX8_judged 260 = .ok (.bipush 10, 2) := by decide +kernel
theorem dX8_judged_262 : decode cX8_judged 262 = .ok (.iload 7, 2) := by decide +kernel
theorem dX8_judged_264 : decode cX8_judged 264 = .ok (.imul, 1) := by decide +kernel
theorem dX8_judged_265 : decode cX8_judged 265 = .ok (.iload 8, 2) := by decide +kernel
theorem dX8_judged_267 : decode cX8_judged 267 = .ok (.iadd, 1) := by decide +kernel
theorem dX8_judged_268 : decode cX8_judged 268 = .ok (.ireturn, 1) := by decide +kernel
theorem dX8_judged_269 : decode cX8_judged 269 = .ok (.iinc 8 1, 3) := by decide +kernel
theorem dX8_judged_272 : decode cX8_judged 272 = .ok (.goto (-93), 3) := by decide +kernel
theorem dX8_judged_275 : decode cX8_judged 275 = .ok (.iinc 7 1, 3) := by decide +kernel
theorem dX8_judged_278 : decode cX8_judged 278 = .ok (.goto (-109), 3) := by decide +kernel
theorem dX8_judged_281 : decode cX8_judged 281 = .ok (.bipush (-4), 2) := by decide +kernel
theorem dX8_judged_283 : decode cX8_judged 283 = .ok (.ireturn, 1) := by decide +kernel
theorem dJ6_bitCount_0f7a4_0 : decode cJ6_bitCount_0f7a4 0 = .ok (.iload_n 0, 1) := by decide +kernel
theorem dJ6_bitCount_0f7a4_1 : decode cJ6_bitCount_0f7a4 1 = .ok (.iload_n 0, 1) := by decide +kernel
theorem dJ6_bitCount_0f7a4_2 : decode cJ6_bitCount_0f7a4 2 = .ok (.iconst 1, 1) := by decide +kernel
theorem dJ6_bitCount_0f7a4_3 : decode cJ6_bitCount_0f7a4 3 = .ok (.iushr, 1) := by decide +kernel
theorem dJ6_bitCount_0f7a4_4 : decode cJ6_bitCount_0f7a4 4 = .ok (.ldc_w 265, 3) := by decide +kernel
theorem dJ6_bitCount_0f7a4_7 : decode cJ6_bitCount_0f7a4 7 = .ok (.iand, 1) := by decide +kernel
theorem dJ6_bitCount_0f7a4_8 : decode cJ6_bitCount_0f7a4 8 = .ok (.isub, 1) := by decide +kernel
theorem dJ6_bitCount_0f7a4_9 : decode cJ6_bitCount_0f7a4 9 = .ok (.istore_n 0, 1) := by decide +kernel
theorem dJ6_bitCount_0f7a4_10 : decode cJ6_bitCount_0f7a4 10 = .ok (.iload_n 0, 1) := by decide +kernel
theorem dJ6_bitCount_0f7a4_11 : decode cJ6_bitCount_0f7a4 11 = .ok (.ldc_w 266, 3) := by decide +kernel
theorem dJ6_bitCount_0f7a4_14 : decode cJ6_bitCount_0f7a4 14 = .ok (.iand, 1) := by decide +kernel
theorem dJ6_bitCount_0f7a4_15 : decode cJ6_bitCount_0f7a4 15 = .ok (.iload_n 0, 1) := by decide +kernel
theorem dJ6_bitCount_0f7a4_16 : decode cJ6_bitCount_0f7a4 16 = .ok (.iconst 2, 1) := by decide +kernel
theorem dJ6_bitCount_0f7a4_17 : decode cJ6_bitCount_0f7a4 17 = .ok (.iushr, 1) := by decide +kernel
theorem dJ6_bitCount_0f7a4_18 : decode cJ6_bitCount_0f7a4 18 = .ok (.ldc_w 266, 3) := by decide +kernel
theorem dJ6_bitCount_0f7a4_21 : decode cJ6_bitCount_0f7a4 21 = .ok (.iand, 1) := by decide +kernel
theorem dJ6_bitCount_0f7a4_22 : decode cJ6_bitCount_0f7a4 22 = .ok (.iadd, 1) := by decide +kernel
theorem dJ6_bitCount_0f7a4_23 : decode cJ6_bitCount_0f7a4 23 = .ok (.istore_n 0, 1) := by decide +kernel
theorem dJ6_bitCount_0f7a4_24 : decode cJ6_bitCount_0f7a4 24 = .ok (.iload_n 0, 1) := by decide +kernel
theorem dJ6_bitCount_0f7a4_25 : decode cJ6_bitCount_0f7a4 25 = .ok (.iload_n 0, 1) := by decide +kernel
theorem dJ6_bitCount_0f7a4_26 : decode cJ6_bitCount_0f7a4 26 = .ok (.iconst 4, 1) := by decide +kernel
theorem dJ6_bitCount_0f7a4_27 : decode cJ6_bitCount_0f7a4 27 = .ok (.iushr, 1) := by decide +kernel
theorem dJ6_bitCount_0f7a4_28 : decode cJ6_bitCount_0f7a4 28 = .ok (.iadd, 1) := by decide +kernel
theorem dJ6_bitCount_0f7a4_29 : decode cJ6_bitCount_0f7a4 29 = .ok (.ldc_w 267, 3) := by decide +kernel
theorem dJ6_bitCount_0f7a4_32 : decode cJ6_bitCount_0f7a4 32 = .ok (.iand, 1) := by decide +kernel
theorem dJ6_bitCount_0f7a4_33 : decode cJ6_bitCount_0f7a4 33 = .ok (.istore_n 0, 1) := by decide +kernel
theorem dJ6_bitCount_0f7a4_34 : decode cJ6_bitCount_0f7a4 34 = .ok (.iload_n 0, 1) := by decide +kernel
theorem dJ6_bitCount_0f7a4_35 : decode cJ6_bitCount_0f7a4 35 = .ok (.iload_n 0, 1) := by decide +kernel
theorem dJ6_bitCount_0f7a4_36 : decode cJ6_bitCount_0f7a4 36 = .ok (.bipush 8, 2) := by decide +kernel
theorem dJ6_bitCount_0f7a4_38 : decode cJ6_bitCount_0f7a4 38 = .ok (.iushr, 1) := by decide +kernel
theorem dJ6_bitCount_0f7a4_39 : decode cJ6_bitCount_0f7a4 39 = .ok (.iadd, 1) := by decide +kernel
theorem dJ6_bitCount_0f7a4_40 : decode cJ6_bitCount_0f7a4 40 = .ok (.istore_n 0, 1) := by decide +kernel
theorem dJ6_bitCount_0f7a4_41 : decode cJ6_bitCount_0f7a4 41 = .ok (.iload_n 0, 1) := by decide +kernel
theorem dJ6_bitCount_0f7a4_42 : decode cJ6_bitCount_0f7a4 42 = .ok (.iload_n 0, 1) := by decide +kernel
theorem dJ6_bitCount_0f7a4_43 : decode cJ6_bitCount_0f7a4 43 = .ok (.bipush 16, 2) := by decide +kernel
theorem dJ6_bitCount_0f7a4_45 : decode cJ6_bitCount_0f7a4 45 = .ok (.iushr, 1) := by decide +kernel
theorem dJ6_bitCount_0f7a4_46 : decode cJ6_bitCount_0f7a4 46 = .ok (.iadd, 1) := by decide +kernel
theorem dJ6_bitCount_0f7a4_47 : decode cJ6_bitCount_0f7a4 47 = .ok (.istore_n 0, 1) := by decide +kernel
theorem dJ6_bitCount_0f7a4_48 : decode cJ6_bitCount_0f7a4 48 = .ok (.iload_n 0, 1) := by decide +kernel
theorem dJ6_bitCount_0f7a4_49 : decode cJ6_bitCount_0f7a4 49 = .ok (.bipush 63, 2) := by decide +kernel
theorem dJ6_bitCount_0f7a4_51 : decode cJ6_bitCount_0f7a4 51 = .ok (.iand, 1) := by decide +kernel
theorem dJ6_bitCount_0f7a4_52 : decode cJ6_bitCount_0f7a4 52 = .ok (.ireturn, 1) := by decide +kernel
theorem dJ9_max_7cf53_0 : decode cJ9_max_7cf53 0 = .ok (.iload_n 0, 1) := by decide +kernel
theorem dJ9_max_7cf53_1 : decode cJ9_max_7cf53 1 = .ok (.iload_n 1, 1) := by decide +kernel
theorem dJ9_max_7cf53_2 : decode cJ9_max_7cf53 2 = .ok (.if_icmp .lt 7, 3) := by decide +kernel
theorem dJ9_max_7cf53_5 : decode cJ9_max_7cf53 5 = .ok (.iload_n 0, 1) := by decide +kernel
theorem dJ9_max_7cf53_6 : decode cJ9_max_7cf53 6 = .ok (.goto 4, 3) := by decide +kernel
theorem dJ9_max_7cf53_9 : decode cJ9_max_7cf53 9 = .ok (.iload_n 1, 1) := by decide +kernel
theorem dJ9_max_7cf53_10 : decode cJ9_max_7cf53 10 = .ok (.ireturn, 1) := by decide +kernel
theorem dJ9_min_7cf53_0 : decode cJ9_min_7cf53 0 = .ok (.iload_n 0, 1) := by decide +kernel
theorem dJ9_min_7cf53_1 : decode cJ9_min_7cf53 1 = .ok (.iload_n 1, 1) := by decide +kernel
theorem dJ9_min_7cf53_2 : decode cJ9_min_7cf53 2 = .ok (.if_icmp .gt 7, 3) := by decide +kernel
theorem dJ9_min_7cf53_5 : decode cJ9_min_7cf53 5 = .ok (.iload_n 0, 1) := by decide +kernel
theorem dJ9_min_7cf53_6 : decode cJ9_min_7cf53 6 = .ok (.goto 4, 3) := by decide +kernel
theorem dJ9_min_7cf53_9 : decode cJ9_min_7cf53 9 = .ok (.iload_n 1, 1) := by decide +kernel
theorem dJ9_min_7cf53_10 : decode cJ9_min_7cf53 10 = .ok (.ireturn, 1) := by decide +kernel
theorem dJ7_fill_d0a16_0 : decode cJ7_fill_d0a16 0 = .ok (.iconst 0, 1) := by decide +kernel
theorem dJ7_fill_d0a16_1 : decode cJ7_fill_d0a16 1 = .ok (.istore_n 3, 1) := by decide +kernel
theorem dJ7_fill_d0a16_2 : decode cJ7_fill_d0a16 2 = .ok (.aload_n 0, 1) := by decide +kernel
theorem dJ7_fill_d0a16_3 : decode cJ7_fill_d0a16 3 = .ok (.arraylength, 1) := by decide +kernel
theorem dJ7_fill_d0a16_4 : decode cJ7_fill_d0a16 4 = .ok (.istore 4, 2) := by decide +kernel
theorem dJ7_fill_d0a16_6 : decode cJ7_fill_d0a16 6 = .ok (.iload_n 3, 1) := by decide +kernel
theorem dJ7_fill_d0a16_7 : decode cJ7_fill_d0a16 7 = .ok (.iload 4, 2) := by decide +kernel
theorem dJ7_fill_d0a16_9 : decode cJ7_fill_d0a16 9 = .ok (.if_icmp .ge 13, 3) := by decide +kernel
theorem dJ7_fill_d0a16_12 : decode cJ7_fill_d0a16 12 = .ok (.aload_n 0, 1) := by decide +kernel
theorem dJ7_fill_d0a16_13 : decode cJ7_fill_d0a16 13 = .ok (.iload_n 3, 1) := by decide +kernel
theorem dJ7_fill_d0a16_14 : decode cJ7_fill_d0a16 14 = .ok (.lload_n 1, 1) := by decide +kernel
theorem dJ7_fill_d0a16_15 : decode cJ7_fill_d0a16 15 = .ok (.lastore, 1) := by decide +kernel
theorem dJ7_fill_d0a16_16 : decode cJ7_fill_d0a16 16 = .ok (.iinc 3 1, 3) := by decide +kernel
theorem dJ7_fill_d0a16_19 : decode cJ7_fill_d0a16 19 = .ok (.goto (-13), 3) := by decide +kernel
theorem dJ7_fill_d0a16_22 : decode cJ7_fill_d0a16 22 = .ok (.return_, 1) := by decide +kernel
theorem dJ7_fill_53178_0 : decode cJ7_fill_53178 0 = .ok (.iconst 0, 1) := by decide +kernel
theorem dJ7_fill_53178_1 : decode cJ7_fill_53178 1 = .ok (.istore_n 2, 1) := by decide +kernel
theorem dJ7_fill_53178_2 : decode cJ7_fill_53178 2 = .ok (.aload_n 0, 1) := by decide +kernel
theorem dJ7_fill_53178_3 : decode cJ7_fill_53178 3 = .ok (.arraylength, 1) := by decide +kernel
theorem dJ7_fill_53178_4 : decode cJ7_fill_53178 4 = .ok (.istore_n 3, 1) := by decide +kernel
theorem dJ7_fill_53178_5 : decode cJ7_fill_53178 5 = .ok (.iload_n 2, 1) := by decide +kernel
theorem dJ7_fill_53178_6 : decode cJ7_fill_53178 6 = .ok (.iload_n 3, 1) := by decide +kernel
theorem dJ7_fill_53178_7 : decode cJ7_fill_53178 7 = .ok (.if_icmp .ge 13, 3) := by decide +kernel
theorem dJ7_fill_53178_10 : decode cJ7_fill_53178 10 = .ok (.aload_n 0, 1) := by decide +kernel
theorem dJ7_fill_53178_11 : decode cJ7_fill_53178 11 = .ok (.iload_n 2, 1) := by decide +kernel
theorem dJ7_fill_53178_12 : decode cJ7_fill_53178 12 = .ok (.iload_n 1, 1) := by decide +kernel
theorem dJ7_fill_53178_13 : decode cJ7_fill_53178 13 = .ok (.iastore, 1) := by decide +kernel
theorem dJ7_fill_53178_14 : decode cJ7_fill_53178 14 = .ok (.iinc 2 1, 3) := by decide +kernel
theorem dJ7_fill_53178_17 : decode cJ7_fill_53178 17 = .ok (.goto (-12), 3) := by decide +kernel
theorem dJ7_fill_53178_20 : decode cJ7_fill_53178 20 = .ok (.return_, 1) := by decide +kernel
theorem dL_law_0 : decode cL_law 0 = .ok (.new 7, 3) := by decide +kernel
theorem dL_law_3 : decode cL_law 3 = .ok (.dup, 1) := by decide +kernel
theorem dL_law_4 : decode cL_law 4 = .ok (.invokespecial 9, 3) := by decide +kernel
theorem dL_law_7 : decode cL_law 7 = .ok (.astore_n 1, 1) := by decide +kernel
theorem dL_law_8 : decode cL_law 8 = .ok (.new 10, 3) := by decide +kernel
theorem dL_law_11 : decode cL_law 11 = .ok (.dup, 1) := by decide +kernel
theorem dL_law_12 : decode cL_law 12 = .ok (.invokespecial 12, 3) := by decide +kernel
theorem dL_law_15 : decode cL_law 15 = .ok (.astore_n 2, 1) := by decide +kernel
theorem dL_law_16 : decode cL_law 16 = .ok (.iconst 0, 1) := by decide +kernel
theorem dL_law_17 : decode cL_law 17 = .ok (.istore_n 3, 1) := by decide +kernel
theorem dL_law_18 : decode cL_law 18 = .ok (.iload_n 3, 1) := by decide +kernel
theorem dL_law_19 : decode cL_law 19 = .ok (.aload_n 0, 1) := by decide +kernel
theorem dL_law_20 : decode cL_law 20 = .ok (.arraylength, 1) := by decide +kernel
theorem dL_law_21 : decode cL_law 21 = .ok (.bipush 7, 2) := by decide +kernel
theorem dL_law_23 : decode cL_law 23 = .ok (.isub, 1) := by decide +kernel
theorem dL_law_24 : decode cL_law 24 = .ok (.if_icmp .gt 1207, 3) := by decide +kernel
theorem dL_law_27 : decode cL_law 27 = .ok (.aload_n 0, 1) := by decide +kernel
theorem dL_law_28 : decode cL_law 28 = .ok (.iload_n 3, 1) := by decide +kernel
theorem dL_law_29 : decode cL_law 29 = .ok (.iaload, 1) := by decide +kernel
theorem dL_law_30 : decode cL_law 30 = .ok (.bipush 31, 2) := by decide +kernel
theorem dL_law_32 : decode cL_law 32 = .ok (.iand, 1) := by decide +kernel
theorem dL_law_33 : decode cL_law 33 = .ok (.tableswitch 1192 0 26 #[123, 176, 219, 262, 295, 344, 377, 420, 463, 496, 559, 572, 585, 608, 641, 664, 687, 730, 783, 796, 809, 884, 947, 1010, 1053, 1076, 1129], 123) := by decide +kernel
theorem dL_law_156 : decode cL_law 156 = .ok (.aload_n 1, 1) := by decide +kernel
theorem dL_law_157 : decode cL_law 157 = .ok (.aload_n 0, 1) := by decide +kernel
theorem dL_law_158 : decode cL_law 158 = .ok (.iload_n 3, 1) := by decide +kernel
theorem dL_law_159 : decode cL_law 159 = .ok (.iconst 1, 1) := by decide +kernel
theorem dL_law_160 : decode cL_law 160 = .ok (.iadd, 1) := by decide +kernel
theorem dL_law_161 : decode cL_law 161 = .ok (.iaload, 1) := by decide +kernel
theorem dL_law_162 : decode cL_law 162 = .ok (.aload_n 0, 1) := by decide +kernel
theorem dL_law_163 : decode cL_law 163 = .ok (.iload_n 3, 1) := by decide +kernel
theorem dL_law_164 : decode cL_law 164 = .ok (.iconst 2, 1) := by decide +kernel
theorem dL_law_165 : decode cL_law 165 = .ok (.iadd, 1) := by decide +kernel
theorem dL_law_166 : decode cL_law 166 = .ok (.iaload, 1) := by decide +kernel
theorem dL_law_167 : decode cL_law 167 = .ok (.aload_n 0, 1) := by decide +kernel
theorem dL_law_168 : decode cL_law 168 = .ok (.iload_n 3, 1) := by decide +kernel
theorem dL_law_169 : decode cL_law 169 = .ok (.iconst 3, 1) := by decide +kernel
theorem dL_law_170 : decode cL_law 170 = .ok (.iadd, 1) := by decide +kernel
theorem dL_law_171 : decode cL_law 171 = .ok (.iaload, 1) := by decide +kernel
theorem dL_law_172 : decode cL_law 172 = .ok (.aload_n 0, 1) := by decide +kernel
theorem dL_law_173 : decode cL_law 173 = .ok (.iload_n 3, 1) := by decide +kernel
theorem dL_law_174 : decode cL_law 174 = .ok (.iconst 4, 1) := by decide +kernel
theorem dL_law_175 : decode cL_law 175 = .ok (.iadd, 1) := by decide +kernel
theorem dL_law_176 : decode cL_law 176 = .ok (.iaload, 1) := by decide +kernel
theorem dL_law_177 : decode cL_law 177 = .ok (.invokevirtual 13, 3) := by decide +kernel
theorem dL_law_180 : decode cL_law 180 = .ok (.aload_n 2, 1) := by decide +kernel
theorem dL_law_181 : decode cL_law 181 = .ok (.aload_n 0, 1) := by decide +kernel
theorem dL_law_182 : decode cL_law 182 = .ok (.iload_n 3, 1) := by decide +kernel
theorem dL_law_183 : decode cL_law 183 = .ok (.iconst 1, 1) := by decide +kernel
theorem dL_law_184 : decode cL_law 184 = .ok (.iadd, 1) := by decide +kernel
theorem dL_law_185 : decode cL_law 185 = .ok (.iaload, 1) := by decide +kernel
theorem dL_law_186 : decode cL_law 186 = .ok (.aload_n 0, 1) := by decide +kernel
theorem dL_law_187 : decode cL_law 187 = .ok (.iload_n 3, 1) := by decide +kernel
theorem dL_law_188 : decode cL_law 188 = .ok (.iconst 2, 1) := by decide +kernel
theorem dL_law_189 : decode cL_law 189 = .ok (.iadd, 1) := by decide +kernel
theorem dL_law_190 : decode cL_law 190 = .ok (.iaload, 1) := by decide +kernel
theorem dL_law_191 : decode cL_law 191 = .ok (.aload_n 0, 1) := by decide +kernel
theorem dL_law_192 : decode cL_law 192 = .ok (.iload_n 3, 1) := by decide +kernel
theorem dL_law_193 : decode cL_law 193 = .ok (.iconst 3, 1) := by decide +kernel
theorem dL_law_194 : decode cL_law 194 = .ok (.iadd, 1) := by decide +kernel
theorem dL_law_195 : decode cL_law 195 = .ok (.iaload, 1) := by decide +kernel
theorem dL_law_196 : decode cL_law 196 = .ok (.aload_n 0, 1) := by decide +kernel
theorem dL_law_197 : decode cL_law 197 = .ok (.iload_n 3, 1) := by decide +kernel
theorem dL_law_198 : decode cL_law 198 = .ok (.iconst 4, 1) := by decide +kernel
theorem dL_law_199 : decode cL_law 199 = .ok (.iadd, 1) := by decide +kernel
theorem dL_law_200 : decode cL_law 200 = .ok (.iaload, 1) := by decide +kernel
theorem dL_law_201 : decode cL_law 201 = .ok (.invokevirtual 17, 3) := by decide +kernel
theorem dL_law_204 : decode cL_law 204 = .ok (.if_icmp .eq 1021, 3) := by decide +kernel
theorem dL_law_207 : decode cL_law 207 = .ok (.iconst 0, 1) := by decide +kernel
theorem dL_law_208 : decode cL_law 208 = .ok (.ireturn, 1) := by decide +kernel
theorem dL_law_209 : decode cL_law 209 = .ok (.aload_n 1, 1) := by decide +kernel
theorem dL_law_210 : decode cL_law 210 = .ok (.aload_n 0, 1) := by decide +kernel
theorem dL_law_211 : decode cL_law 211 = .ok (.iload_n 3, 1) := by decide +kernel
theorem dL_law_212 : decode cL_law 212 = .ok (.iconst 1, 1) := by decide +kernel
theorem dL_law_213 : decode cL_law 213 = .ok (.iadd, 1) := by decide +kernel
theorem dL_law_214 : decode cL_law 214 = .ok (.iaload, 1) := by decide +kernel
theorem dL_law_215 : decode cL_law 215 = .ok (.aload_n 0, 1) := by decide +kernel
theorem dL_law_216 : decode cL_law 216 = .ok (.iload_n 3, 1) := by decide +kernel
theorem dL_law_217 : decode cL_law 217 = .ok (.iconst 2, 1) := by decide +kernel
theorem dL_law_218 : decode cL_law 218 = .ok (.iadd, 1) := by decide +kernel
theorem dL_law_219 : decode cL_law 219 = .ok (.iaload, 1) := by decide +kernel
theorem dL_law_220 : decode cL_law 220 = .ok (.aload_n 0, 1) := by decide +kernel
theorem dL_law_221 : decode cL_law 221 = .ok (.iload_n 3, 1) := by decide +kernel
theorem dL_law_222 : decode cL_law 222 = .ok (.iconst 3, 1) := by decide +kernel
theorem dL_law_223 : decode cL_law 223 = .ok (.iadd, 1) := by decide +kernel
theorem dL_law_224 : decode cL_law 224 = .ok (.iaload, 1) := by decide +kernel
theorem dL_law_225 : decode cL_law 225 = .ok (.invokevirtual 18, 3) := by decide +kernel
theorem dL_law_228 : decode cL_law 228 = .ok (.aload_n 2, 1) := by decide +kernel
theorem dL_law_229 : decode cL_law 229 = .ok (.aload_n 0, 1) := by decide +kernel
theorem dL_law_230 : decode cL_law 230 = .ok (.iload_n 3, 1) := by decide +kernel
theorem dL_law_231 : decode cL_law 231 = .ok (.iconst 1, 1) := by decide +kernel
theorem dL_law_232 : decode cL_law 232 = .ok (.iadd, 1) := by decide +kernel
theorem dL_law_233 : decode cL_law 233 = .ok (.iaload, 1) := by decide +kernel
theorem dL_law_234 : decode cL_law 234 = .ok (.aload_n 0, 1) := by decide +kernel
theorem dL_law_235 : decode cL_law 235 = .ok (.iload_n 3, 1) := by decide +kernel
theorem dL_law_236 : decode cL_law 236 = .ok (.iconst 2, 1) := by decide +kernel
theorem dL_law_237 : decode cL_law 237 = .ok (.iadd, 1) := by decide +kernel
theorem dL_law_238 : decode cL_law 238 = .ok (.iaload, 1) := by decide +kernel
theorem dL_law_239 : decode cL_law 239 = .ok (.aload_n 0, 1) := by decide +kernel
theorem dL_law_240 : decode cL_law 240 = .ok (.iload_n 3, 1) := by decide +kernel
theorem dL_law_241 : decode cL_law 241 = .ok (.iconst 3, 1) := by decide +kernel
theorem dL_law_242 : decode cL_law 242 = .ok (.iadd, 1) := by decide +kernel
theorem dL_law_243 : decode cL_law 243 = .ok (.iaload, 1) := by decide +kernel
theorem dL_law_244 : decode cL_law 244 = .ok (.invokevirtual 22, 3) := by decide +kernel
theorem dL_law_247 : decode cL_law 247 = .ok (.if_icmp .eq 978, 3) := by decide +kernel
theorem dL_law_250 : decode cL_law 250 = .ok (.iconst 0, 1) := by decide +kernel
theorem dL_law_251 : decode cL_law 251 = .ok (.ireturn, 1) := by decide +kernel
theorem dL_law_252 : decode cL_law 252 = .ok (.aload_n 1, 1) := by decide +kernel
theorem dL_law_253 : decode cL_law 253 = .ok (.aload_n 0, 1) := by decide +kernel
theorem dL_law_254 : decode cL_law 254 = .ok (.iload_n 3, 1) := by decide +kernel
theorem dL_law_255 : decode cL_law 255 = .ok (.iconst 1, 1) := by decide +kernel
theorem dL_law_256 : decode cL_law 256 = .ok (.iadd, 1) := by decide +kernel
theorem dL_law_257 : decode cL_law 257 = .ok (.iaload, 1) := by decide +kernel
theorem dL_law_258 : decode cL_law 258 = .ok (.aload_n 0, 1) := by decide +kernel
theorem dL_law_259 : decode cL_law 259 = .ok (.iload_n 3, 1) := by decide +kernel
theorem dL_law_260 : decode cL_law 260 = .ok (.iconst 2, 1) := by decide +kernel
theorem dL_law_261 : decode cL_law 261 = .ok (.iadd, 1) := by decide +kernel
theorem dL_law_262 : decode cL_law 262 = .ok (.iaload, 1) := by decide +kernel
theorem dL_law_263 : decode cL_law 263 = .ok (.aload_n 0, 1) := by decide +kernel
theorem dL_law_264 : decode cL_law 264 = .ok (.iload_n 3, 1) := by decide +kernel
theorem dL_law_265 : decode cL_law 265 = .ok (.iconst 3, 1) := by decide +kernel
theorem dL_law_266 : decode cL_law 266 = .ok (.iadd, 1) := by decide +kernel
theorem dL_law_267 : decode cL_law 267 = .ok (.iaload, 1) := by decide +kernel
theorem dL_law_268 : decode cL_law 268 = .ok (.invokevirtual 23, 3) := by decide +kernel
theorem dL_law_271 : decode cL_law 271 = .ok (.aload_n 2, 1) := by decide +kernel
theorem dL_law_272 : decode cL_law 272 = .ok (.aload_n 0, 1) := by decide +kernel
theorem dL_law_273 : decode cL_law 273 = .ok (.iload_n 3, 1) := by decide +kernel
theorem dL_law_274 : decode cL_law 274 = .ok (.iconst 1, 1) := by decide +kernel
theorem dL_law_275 : decode cL_law 275 = .ok (.iadd, 1) := by decide +kernel
theorem dL_law_276 : decode cL_law 276 = .ok (.iaload, 1) := by decide +kernel
theorem dL_law_277 : decode cL_law 277 = .ok (.aload_n 0, 1) := by decide +kernel
theorem dL_law_278 : decode cL_law 278 = .ok (.iload_n 3, 1) := by decide +kernel
theorem dL_law_279 : decode cL_law 279 = .ok (.iconst 2, 1) := by decide +kernel
theorem dL_law_280 : decode cL_law 280 = .ok (.iadd, 1) := by decide +kernel
theorem dL_law_281 : decode cL_law 281 = .ok (.iaload, 1) := by decide +kernel
theorem dL_law_282 : decode cL_law 282 = .ok (.aload_n 0, 1) := by decide +kernel
theorem dL_law_283 : decode cL_law 283 = .ok (.iload_n 3, 1) := by decide +kernel
theorem dL_law_284 : decode cL_law 284 = .ok (.iconst 3, 1) := by decide +kernel
theorem dL_law_285 : decode cL_law 285 = .ok (.iadd, 1) := by decide +kernel
theorem dL_law_286 : decode cL_law 286 = .ok (.iaload, 1) := by decide +kernel
theorem dL_law_287 : decode cL_law 287 = .ok (.invokevirtual 26, 3) := by decide +kernel
theorem dL_law_290 : decode cL_law 290 = .ok (.if_icmp .eq 935, 3) := by decide +kernel
theorem dL_law_293 : decode cL_law 293 = .ok (.iconst 0, 1) := by decide +kernel
theorem dL_law_294 : decode cL_law 294 = .ok (.ireturn, 1) := by decide +kernel
theorem dL_law_295 : decode cL_law 295 = .ok (.aload_n 1, 1) := by decide +kernel
theorem dL_law_296 : decode cL_law 296 = .ok (.aload_n 0, 1) := by decide +kernel
theorem dL_law_297 : decode cL_law 297 = .ok (.iload_n 3, 1) := by decide +kernel
theorem dL_law_298 : decode cL_law 298 = .ok (.iconst 1, 1) := by decide +kernel
theorem dL_law_299 : decode cL_law 299 = .ok (.iadd, 1) := by decide +kernel
theorem dL_law_300 : decode cL_law 300 = .ok (.iaload, 1) := by decide +kernel
theorem dL_law_301 : decode cL_law 301 = .ok (.aload_n 0, 1) := by decide +kernel
theorem dL_law_302 : decode cL_law 302 = .ok (.iload_n 3, 1) := by decide +kernel
theorem dL_law_303 : decode cL_law 303 = .ok (.iconst 2, 1) := by decide +kernel
theorem dL_law_304 : decode cL_law 304 = .ok (.iadd, 1) := by decide +kernel
theorem dL_law_305 : decode cL_law 305 = .ok (.iaload, 1) := by decide +kernel
theorem dL_law_306 : decode cL_law 306 = .ok (.invokevirtual 27, 3) := by decide +kernel
theorem dL_law_309 : decode cL_law 309 = .ok (.aload_n 2, 1) := by decide +kernel
theorem dL_law_310 : decode cL_law 310 = .ok (.aload_n 0, 1) := by decide +kernel
theorem dL_law_311 : decode cL_law 311 = .ok (.iload_n 3, 1) := by decide +kernel
theorem dL_law_312 : decode cL_law 312 = .ok (.iconst 1, 1) := by decide +kernel
theorem dL_law_313 : decode cL_law 313 = .ok (.iadd, 1) := by decide +kernel
theorem dL_law_314 : decode cL_law 314 = .ok (.iaload, 1) := by decide +kernel
theorem dL_law_315 : decode cL_law 315 = .ok (.aload_n 0, 1) := by decide +kernel
theorem dL_law_316 : decode cL_law 316 = .ok (.iload_n 3, 1) := by decide +kernel
theorem dL_law_317 : decode cL_law 317 = .ok (.iconst 2, 1) := by decide +kernel
theorem dL_law_318 : decode cL_law 318 = .ok (.iadd, 1) := by decide +kernel
theorem dL_law_319 : decode cL_law 319 = .ok (.iaload, 1) := by decide +kernel
theorem dL_law_320 : decode cL_law 320 = .ok (.invokevirtual 31, 3) := by decide +kernel
theorem dL_law_323 : decode cL_law 323 = .ok (.if_icmp .eq 902, 3) := by decide +kernel
theorem dL_law_326 : decode cL_law 326 = .ok (.iconst 0, 1) := by decide +kernel
theorem dL_law_327 : decode cL_law 327 = .ok (.ireturn, 1) := by decide +kernel
theorem dL_law_328 : decode cL_law 328 = .ok (.aload_n 1, 1) := by decide +kernel
theorem dL_law_329 : decode cL_law 329 = .ok (.aload_n 0, 1) := by decide +kernel
theorem dL_law_330 : decode cL_law 330 = .ok (.iload_n 3, 1) := by decide +kernel
theorem dL_law_331 : decode cL_law 331 = .ok (.iconst 1, 1) := by decide +kernel
theorem dL_law_332 : decode cL_law 332 = .ok (.iadd, 1) := by decide +kernel
theorem dL_law_333 : decode cL_law 333 = .ok (.iaload, 1) := by decide +kernel
theorem dL_law_334 : decode cL_law 334 = .ok (.aload_n 0, 1) := by decide +kernel
theorem dL_law_335 : decode cL_law 335 = .ok (.iload_n 3, 1) := by decide +kernel
theorem dL_law_336 : decode cL_law 336 = .ok (.iconst 2, 1) := by decide +kernel
theorem dL_law_337 : decode cL_law 337 = .ok (.iadd, 1) := by decide +kernel
theorem dL_law_338 : decode cL_law 338 = .ok (.iaload, 1) := by decide +kernel
theorem dL_law_339 : decode cL_law 339 = .ok (.ifCond .eq 7, 3) := by decide +kernel
theorem dL_law_342 : decode cL_law 342 = .ok (.iconst 1, 1) := by decide +kernel
theorem dL_law_343 : decode cL_law 343 = .ok (.goto 4, 3) := by decide +kernel
theorem dL_law_346 : decode cL_law 346 = .ok (.iconst 0, 1) := by decide +kernel
theorem dL_law_347 : decode cL_law 347 = .ok (.invokevirtual 32, 3) := by decide +kernel
theorem dL_law_350 : decode cL_law 350 = .ok (.aload_n 2, 1) := by decide +kernel
theorem dL_law_351 : decode cL_law 351 = .ok (.aload_n 0, 1) := by decide +kernel
theorem dL_law_352 : decode cL_law 352 = .ok (.iload_n 3, 1) := by decide +kernel
theorem dL_law_353 : decode cL_law 353 = .ok (.iconst 1, 1) := by decide +kernel
theorem dL_law_354 : decode cL_law 354 = .ok (.iadd, 1) := by decide +kernel
theorem dL_law_355 : decode cL_law 355 = .ok (.iaload, 1) := by decide +kernel
theorem dL_law_356 : decode cL_law 356 = .ok (.aload_n 0, 1) := by decide +kernel
theorem dL_law_357 : decode cL_law 357 = .ok (.iload_n 3, 1) := by decide +kernel
theorem dL_law_358 : decode cL_law 358 = .ok (.iconst 2, 1) := by decide +kernel
theorem dL_law_359 : decode cL_law 359 = .ok (.iadd, 1) := by decide +kernel
theorem dL_law_360 : decode cL_law 360 = .ok (.iaload, 1) := by decide +kernel
theorem dL_law_361 : decode cL_law 361 = .ok (.ifCond .eq 7, 3) := by decide +kernel
theorem dL_law_364 : decode cL_law 364 = .ok (.iconst 1, 1) := by decide +kernel
theorem dL_law_365 : decode cL_law 365 = .ok (.goto 4, 3) := by decide +kernel
theorem dL_law_368 : decode cL_law 368 = .ok (.iconst 0, 1) := by decide +kernel
theorem dL_law_369 : decode cL_law 369 = .ok (.invokevirtual 36, 3) := by decide +kernel
theorem dL_law_372 : decode cL_law 372 = .ok (.if_icmp .eq 853, 3) := by decide +kernel
theorem dL_law_375 : decode cL_law 375 = .ok (.iconst 0, 1) := by decide +kernel
theorem dL_law_376 : decode cL_law 376 = .ok (.ireturn, 1) := by decide +kernel
theorem dL_law_377 : decode cL_law 377 = .ok (.aload_n 1, 1) := by decide +kernel
theorem dL_law_378 : decode cL_law 378 = .ok (.aload_n 0, 1) := by decide +kernel
theorem dL_law_379 : decode cL_law 379 = .ok (.iload_n 3, 1) := by decide +kernel
theorem dL_law_380 : decode cL_law 380 = .ok (.iconst 1, 1) := by decide +kernel
theorem dL_law_381 : decode cL_law 381 = .ok (.iadd, 1) := by decide +kernel
theorem dL_law_382 : decode cL_law 382 = .ok (.iaload, 1) := by decide +kernel
theorem dL_law_383 : decode cL_law 383 = .ok (.aload_n 0, 1) := by decide +kernel
theorem dL_law_384 : decode cL_law 384 = .ok (.iload_n 3, 1) := by decide +kernel
theorem dL_law_385 : decode cL_law 385 = .ok (.iconst 2, 1) := by decide +kernel
theorem dL_law_386 : decode cL_law 386 = .ok (.iadd, 1) := by decide +kernel
theorem dL_law_387 : decode cL_law 387 = .ok (.iaload, 1) := by decide +kernel
theorem dL_law_388 : decode cL_law 388 = .ok (.invokevirtual 37, 3) := by decide +kernel
theorem dL_law_391 : decode cL_law 391 = .ok (.aload_n 2, 1) := by decide +kernel
theorem dL_law_392 : decode cL_law 392 = .ok (.aload_n 0, 1) := by decide +kernel
theorem dL_law_393 : decode cL_law 393 = .ok (.iload_n 3, 1) := by decide +kernel
theorem dL_law_394 : decode cL_law 394 = .ok (.iconst 1, 1) := by decide +kernel
theorem dL_law_395 : decode cL_law 395 = .ok (.iadd, 1) := by decide +kernel
theorem dL_law_396 : decode cL_law 396 = .ok (.iaload, 1) := by decide +kernel
theorem dL_law_397 : decode cL_law 397 = .ok (.aload_n 0, 1) := by decide +kernel
theorem dL_law_398 : decode cL_law 398 = .ok (.iload_n 3, 1) := by decide +kernel
theorem dL_law_399 : decode cL_law 399 = .ok (.iconst 2, 1) := by decide +kernel
theorem dL_law_400 : decode cL_law 400 = .ok (.iadd, 1) := by decide +kernel
theorem dL_law_401 : decode cL_law 401 = .ok (.iaload, 1) := by decide +kernel
theorem dL_law_402 : decode cL_law 402 = .ok (.invokevirtual 40, 3) := by decide +kernel
theorem dL_law_405 : decode cL_law 405 = .ok (.if_icmp .eq 820, 3) := by decide +kernel
theorem dL_law_408 : decode cL_law 408 = .ok (.iconst 0, 1) := by decide +kernel
theorem dL_law_409 : decode cL_law 409 = .ok (.ireturn, 1) := by decide +kernel
theorem dL_law_410 : decode cL_law 410 = .ok (.aload_n 1, 1) := by decide +kernel
theorem dL_law_411 : decode cL_law 411 = .ok (.aload_n 0, 1) := by decide +kernel
theorem dL_law_412 : decode cL_law 412 = .ok (.iload_n 3, 1) := by decide +kernel
theorem dL_law_413 : decode cL_law 413 = .ok (.iconst 1, 1) := by decide +kernel
theorem dL_law_414 : decode cL_law 414 = .ok (.iadd, 1) := by decide +kernel
theorem dL_law_415 : decode cL_law 415 = .ok (.iaload, 1) := by decide +kernel
theorem dL_law_416 : decode cL_law 416 = .ok (.aload_n 0, 1) := by decide +kernel
theorem dL_law_417 : decode cL_law 417 = .ok (.iload_n 3, 1) := by decide +kernel
theorem dL_law_418 : decode cL_law 418 = .ok (.iconst 2, 1) := by decide +kernel
theorem dL_law_419 : decode cL_law 419 = .ok (.iadd, 1) := by decide +kernel
theorem dL_law_420 : decode cL_law 420 = .ok (.iaload, 1) := by decide +kernel
theorem dL_law_421 : decode cL_law 421 = .ok (.aload_n 0, 1) := by decide +kernel
theorem dL_law_422 : decode cL_law 422 = .ok (.iload_n 3, 1) := by decide +kernel
theorem dL_law_423 : decode cL_law 423 = .ok (.iconst 3, 1) := by decide +kernel
theorem dL_law_424 : decode cL_law 424 = .ok (.iadd, 1) := by decide +kernel
theorem dL_law_425 : decode cL_law 425 = .ok (.iaload, 1) := by decide +kernel
theorem dL_law_426 : decode cL_law 426 = .ok (.invokevirtual 41, 3) := by decide +kernel
theorem dL_law_429 : decode cL_law 429 = .ok (.aload_n 2, 1) := by decide +kernel
theorem dL_law_430 : decode cL_law 430 = .ok (.aload_n 0, 1) := by decide +kernel
theorem dL_law_431 : decode cL_law 431 = .ok (.iload_n 3, 1) := by decide +kernel
theorem dL_law_432 : decode cL_law 432 = .ok (.iconst 1, 1) := by decide +kernel
theorem dL_law_433 : decode cL_law 433 = .ok (.iadd, 1) := by decide +kernel
theorem dL_law_434 : decode cL_law 434 = .ok (.iaload, 1) := by decide +kernel
theorem dL_law_435 : decode cL_law 435 = .ok (.aload_n 0, 1) := by decide +kernel
theorem dL_law_436 : decode cL_law 436 = .ok (.iload_n 3, 1) := by decide +kernel
theorem dL_law_437 : decode cL_law 437 = .ok (.iconst 2, 1) := by decide +kernel
theorem dL_law_438 : decode cL_law 438 = .ok (.iadd, 1) := by decide +kernel
theorem dL_law_439 : decode cL_law 439 = .ok (.iaload, 1) := by decide +kernel
theorem dL_law_440 : decode cL_law 440 = .ok (.aload_n 0, 1) := by decide +kernel
theorem dL_law_441 : decode cL_law 441 = .ok (.iload_n 3, 1) := by decide +kernel
theorem dL_law_442 : decode cL_law 442 = .ok (.iconst 3, 1) := by decide +kernel
theorem dL_law_443 : decode cL_law 443 = .ok (.iadd, 1) := by decide +kernel
theorem dL_law_444 : decode cL_law 444 = .ok (.iaload, 1) := by decide +kernel
theorem dL_law_445 : decode cL_law 445 = .ok (.invokevirtual 44, 3) := by decide +kernel
theorem dL_law_448 : decode cL_law 448 = .ok (.if_icmp .eq 777, 3) := by decide +kernel
theorem dL_law_451 : decode cL_law 451 = .ok (.iconst 0, 1) := by decide +kernel
theorem dL_law_452 : decode cL_law 452 = .ok (.ireturn, 1) := by decide +kernel
theorem dL_law_453 : decode cL_law 453 = .ok (.aload_n 1, 1) := by decide +kernel
theorem dL_law_454 : decode cL_law 454 = .ok (.aload_n 0, 1) := by decide +kernel
theorem dL_law_455 : decode cL_law 455 = .ok (.iload_n 3, 1) := by decide +kernel
theorem dL_law_456 : decode cL_law 456 = .ok (.iconst 1, 1) := by decide +kernel
theorem dL_law_457 : decode cL_law 457 = .ok (.iadd, 1) := by decide +kernel
theorem dL_law_458 : decode cL_law 458 = .ok (.iaload, 1) := by decide +kernel
theorem dL_law_459 : decode cL_law 459 = .ok (.aload_n 0, 1) := by decide +kernel
theorem dL_law_460 : decode cL_law 460 = .ok (.iload_n 3, 1) := by decide +kernel
theorem dL_law_461 : decode cL_law 461 = .ok (.iconst 2, 1) := by decide +kernel
theorem dL_law_462 : decode cL_law 462 = .ok (.iadd, 1) := by decide +kernel
theorem dL_law_463 : decode cL_law 463 = .ok (.iaload, 1) := by decide +kernel
theorem dL_law_464 : decode cL_law 464 = .ok (.aload_n 0, 1) := by decide +kernel
theorem dL_law_465 : decode cL_law 465 = .ok (.iload_n 3, 1) := by decide +kernel
theorem dL_law_466 : decode cL_law 466 = .ok (.iconst 3, 1) := by decide +kernel
theorem dL_law_467 : decode cL_law 467 = .ok (.iadd, 1) := by decide +kernel
theorem dL_law_468 : decode cL_law 468 = .ok (.iaload, 1) := by decide +kernel
theorem dL_law_469 : decode cL_law 469 = .ok (.invokevirtual 45, 3) := by decide +kernel
theorem dL_law_472 : decode cL_law 472 = .ok (.aload_n 2, 1) := by decide +kernel
theorem dL_law_473 : decode cL_law 473 = .ok (.aload_n 0, 1) := by decide +kernel
theorem dL_law_474 : decode cL_law 474 = .ok (.iload_n 3, 1) := by decide +kernel
theorem dL_law_475 : decode cL_law 475 = .ok (.iconst 1, 1) := by decide +kernel
theorem dL_law_476 : decode cL_law 476 = .ok (.iadd, 1) := by decide +kernel
theorem dL_law_477 : decode cL_law 477 = .ok (.iaload, 1) := by decide +kernel
theorem dL_law_478 : decode cL_law 478 = .ok (.aload_n 0, 1) := by decide +kernel
theorem dL_law_479 : decode cL_law 479 = .ok (.iload_n 3, 1) := by decide +kernel
theorem dL_law_480 : decode cL_law 480 = .ok (.iconst 2, 1) := by decide +kernel
theorem dL_law_481 : decode cL_law 481 = .ok (.iadd, 1) := by decide +kernel
theorem dL_law_482 : decode cL_law 482 = .ok (.iaload, 1) := by decide +kernel
theorem dL_law_483 : decode cL_law 483 = .ok (.aload_n 0, 1) := by decide +kernel
theorem dL_law_484 : decode cL_law 484 = .ok (.iload_n 3, 1) := by decide +kernel
theorem dL_law_485 : decode cL_law 485 = .ok (.iconst 3, 1) := by decide +kernel
theorem dL_law_486 : decode cL_law 486 = .ok (.iadd, 1) := by decide +kernel
theorem dL_law_487 : decode cL_law 487 = .ok (.iaload, 1) := by decide +kernel
theorem dL_law_488 : decode cL_law 488 = .ok (.invokevirtual 48, 3) := by decide +kernel
theorem dL_law_491 : decode cL_law 491 = .ok (.if_icmp .eq 734, 3) := by decide +kernel
theorem dL_law_494 : decode cL_law 494 = .ok (.iconst 0, 1) := by decide +kernel
theorem dL_law_495 : decode cL_law 495 = .ok (.ireturn, 1) := by decide +kernel
theorem dL_law_496 : decode cL_law 496 = .ok (.aload_n 1, 1) := by decide +kernel
theorem dL_law_497 : decode cL_law 497 = .ok (.aload_n 0, 1) := by decide +kernel
theorem dL_law_498 : decode cL_law 498 = .ok (.iload_n 3, 1) := by decide +kernel
theorem dL_law_499 : decode cL_law 499 = .ok (.iconst 1, 1) := by decide +kernel
theorem dL_law_500 : decode cL_law 500 = .ok (.iadd, 1) := by decide +kernel
theorem dL_law_501 : decode cL_law 501 = .ok (.iaload, 1) := by decide +kernel
theorem dL_law_502 : decode cL_law 502 = .ok (.aload_n 0, 1) := by decide +kernel
theorem dL_law_503 : decode cL_law 503 = .ok (.iload_n 3, 1) := by decide +kernel
theorem dL_law_504 : decode cL_law 504 = .ok (.iconst 2, 1) := by decide +kernel
theorem dL_law_505 : decode cL_law 505 = .ok (.iadd, 1) := by decide +kernel
theorem dL_law_506 : decode cL_law 506 = .ok (.iaload, 1) := by decide +kernel
theorem dL_law_507 : decode cL_law 507 = .ok (.invokevirtual 49, 3) := by decide +kernel
theorem dL_law_510 : decode cL_law 510 = .ok (.aload_n 2, 1) := by decide +kernel
theorem dL_law_511 : decode cL_law 511 = .ok (.aload_n 0, 1) := by decide +kernel
theorem dL_law_512 : decode cL_law 512 = .ok (.iload_n 3, 1) := by decide +kernel
theorem dL_law_513 : decode cL_law 513 = .ok (.iconst 1, 1) := by decide +kernel
theorem dL_law_514 : decode cL_law 514 = .ok (.iadd, 1) := by decide +kernel
theorem dL_law_515 : decode cL_law 515 = .ok (.iaload, 1) := by decide +kernel
theorem dL_law_516 : decode cL_law 516 = .ok (.aload_n 0, 1) := by decide +kernel
theorem dL_law_517 : decode cL_law 517 = .ok (.iload_n 3, 1) := by decide +kernel
theorem dL_law_518 : decode cL_law 518 = .ok (.iconst 2, 1) := by decide +kernel
theorem dL_law_519 : decode cL_law 519 = .ok (.iadd, 1) := by decide +kernel
theorem dL_law_520 : decode cL_law 520 = .ok (.iaload, 1) := by decide +kernel
theorem dL_law_521 : decode cL_law 521 = .ok (.invokevirtual 52, 3) := by decide +kernel
theorem dL_law_524 : decode cL_law 524 = .ok (.if_icmp .eq 701, 3) := by decide +kernel
theorem dL_law_527 : decode cL_law 527 = .ok (.iconst 0, 1) := by decide +kernel
theorem dL_law_528 : decode cL_law 528 = .ok (.ireturn, 1) := by decide +kernel
theorem dL_law_529 : decode cL_law 529 = .ok (.aload_n 1, 1) := by decide +kernel
theorem dL_law_530 : decode cL_law 530 = .ok (.aload_n 0, 1) := by decide +kernel
theorem dL_law_531 : decode cL_law 531 = .ok (.iload_n 3, 1) := by decide +kernel
theorem dL_law_532 : decode cL_law 532 = .ok (.iconst 1, 1) := by decide +kernel
theorem dL_law_533 : decode cL_law 533 = .ok (.iadd, 1) := by decide +kernel
theorem dL_law_534 : decode cL_law 534 = .ok (.iaload, 1) := by decide +kernel
theorem dL_law_535 : decode cL_law 535 = .ok (.i2l, 1) := by decide +kernel
theorem dL_law_536 : decode cL_law 536 = .ok (.bipush 32, 2) := by decide +kernel
theorem dL_law_538 : decode cL_law 538 = .ok (.lshl, 1) := by decide +kernel
theorem dL_law_539 : decode cL_law 539 = .ok (.aload_n 0, 1) := by decide +kernel
theorem dL_law_540 : decode cL_law 540 = .ok (.iload_n 3, 1) := by decide +kernel
theorem dL_law_541 : decode cL_law 541 = .ok (.iconst 2, 1) := by decide +kernel
theorem dL_law_542 : decode cL_law 542 = .ok (.iadd, 1) := by decide +kernel
theorem dL_law_543 : decode cL_law 543 = .ok (.iaload, 1) := by decide +kernel
theorem dL_law_544 : decode cL_law 544 = .ok (.i2l, 1) := by decide +kernel
theorem dL_law_545 : decode cL_law 545 = .ok (.ldc2_w 53, 3) := by decide +kernel
theorem dL_law_548 : decode cL_law 548 = .ok (.land, 1) := by decide +kernel
theorem dL_law_549 : decode cL_law 549 = .ok (.lor, 1) := by decide +kernel
theorem dL_law_550 : decode cL_law 550 = .ok (.aload_n 0, 1) := by decide +kernel
theorem dL_law_551 : decode cL_law 551 = .ok (.iload_n 3, 1) := by decide +kernel
theorem dL_law_552 : decode cL_law 552 = .ok (.iconst 3, 1) := by decide +kernel
theorem dL_law_553 : decode cL_law 553 = .ok (.iadd, 1) := by decide +kernel
theorem dL_law_554 : decode cL_law 554 = .ok (.iaload, 1) := by decide +kernel
theorem dL_law_555 : decode cL_law 555 = .ok (.invokevirtual 55, 3) := by decide +kernel
theorem dL_law_558 : decode cL_law 558 = .ok (.aload_n 2, 1) := by decide +kernel
theorem dL_law_559 : decode cL_law 559 = .ok (.aload_n 0, 1) := by decide +kernel
theorem dL_law_560 : decode cL_law 560 = .ok (.iload_n 3, 1) := by decide +kernel
theorem dL_law_561 : decode cL_law 561 = .ok (.iconst 1, 1) := by decide +kernel
theorem dL_law_562 : decode cL_law 562 = .ok (.iadd, 1) := by decide +kernel
theorem dL_law_563 : decode cL_law 563 = .ok (.iaload, 1) := by decide +kernel
theorem dL_law_564 : decode cL_law 564 = .ok (.i2l, 1) := by decide +kernel
theorem dL_law_565 : decode cL_law 565 = .ok (.bipush 32, 2) := by decide +kernel
theorem dL_law_567 : decode cL_law 567 = .ok (.lshl, 1) := by decide +kernel
theorem dL_law_568 : decode cL_law 568 = .ok (.aload_n 0, 1) := by decide +kernel
theorem dL_law_569 : decode cL_law 569 = .ok (.iload_n 3, 1) := by decide +kernel
theorem dL_law_570 : decode cL_law 570 = .ok (.iconst 2, 1) := by decide +kernel
theorem dL_law_571 : decode cL_law 571 = .ok (.iadd, 1) := by decide +kernel
theorem dL_law_572 : decode cL_law 572 = .ok (.iaload, 1) := by decide +kernel
theorem dL_law_573 : decode cL_law 573 = .ok (.i2l, 1) := by decide +kernel
theorem dL_law_574 : decode cL_law 574 = .ok (.ldc2_w 53, 3) := by decide +kernel
theorem dL_law_577 : decode cL_law 577 = .ok (.land, 1) := by decide +kernel
theorem dL_law_578 : decode cL_law 578 = .ok (.lor, 1) := by decide +kernel
theorem dL_law_579 : decode cL_law 579 = .ok (.aload_n 0, 1) := by decide +kernel
theorem dL_law_580 : decode cL_law 580 = .ok (.iload_n 3, 1) := by decide +kernel
theorem dL_law_581 : decode cL_law 581 = .ok (.iconst 3, 1) := by decide +kernel
theorem dL_law_582 : decode cL_law 582 = .ok (.iadd, 1) := by decide +kernel
theorem dL_law_583 : decode cL_law 583 = .ok (.iaload, 1) := by decide +kernel
theorem dL_law_584 : decode cL_law 584 = .ok (.invokevirtual 59, 3) := by decide +kernel
theorem dL_law_587 : decode cL_law 587 = .ok (.if_icmp .eq 638, 3) := by decide +kernel
theorem dL_law_590 : decode cL_law 590 = .ok (.iconst 0, 1) := by decide +kernel
theorem dL_law_591 : decode cL_law 591 = .ok (.ireturn, 1) := by decide +kernel
theorem dL_law_592 : decode cL_law 592 = .ok (.aload_n 1, 1) := by decide +kernel
theorem dL_law_593 : decode cL_law 593 = .ok (.invokevirtual 60, 3) := by decide +kernel
theorem dL_law_596 : decode cL_law 596 = .ok (.aload_n 2, 1) := by decide +kernel
theorem dL_law_597 : decode cL_law 597 = .ok (.invokevirtual 64, 3) := by decide +kernel
theorem dL_law_600 : decode cL_law 600 = .ok (.if_icmp .eq 625, 3) := by decide +kernel
theorem dL_law_603 : decode cL_law 603 = .ok (.iconst 0, 1) := by decide +kernel
theorem dL_law_604 : decode cL_law 604 = .ok (.ireturn, 1) := by decide +kernel
theorem dL_law_605 : decode cL_law 605 = .ok (.aload_n 1, 1) := by decide +kernel
theorem dL_law_606 : decode cL_law 606 = .ok (.invokevirtual 65, 3) := by decide +kernel
theorem dL_law_609 : decode cL_law 609 = .ok (.aload_n 2, 1) := by decide +kernel
theorem dL_law_610 : decode cL_law 610 = .ok (.invokevirtual 68, 3) := by decide +kernel
theorem dL_law_613 : decode cL_law 613 = .ok (.if_icmp .eq 612, 3) := by decide +kernel
theorem dL_law_616 : decode cL_law 616 = .ok (.iconst 0, 1) := by decide +kernel
theorem dL_law_617 : decode cL_law 617 = .ok (.ireturn, 1) := by decide +kernel
theorem dL_law_618 : decode cL_law 618 = .ok (.aload_n 1, 1) := by decide +kernel
theorem dL_law_619 : decode cL_law 619 = .ok (.aload_n 0, 1) := by decide +kernel
theorem dL_law_620 : decode cL_law 620 = .ok (.iload_n 3, 1) := by decide +kernel
theorem dL_law_621 : decode cL_law 621 = .ok (.iconst 1, 1) := by decide +kernel
theorem dL_law_622 : decode cL_law 622 = .ok (.iadd, 1) := by decide +kernel
theorem dL_law_623 : decode cL_law 623 = .ok (.iaload, 1) := by decide +kernel
theorem dL_law_624 : decode cL_law 624 = .ok (.invokevirtual 69, 3) := by decide +kernel
theorem dL_law_627 : decode cL_law 627 = .ok (.aload_n 2, 1) := by decide +kernel
theorem dL_law_628 : decode cL_law 628 = .ok (.aload_n 0, 1) := by decide +kernel
theorem dL_law_629 : decode cL_law 629 = .ok (.iload_n 3, 1) := by decide +kernel
theorem dL_law_630 : decode cL_law 630 = .ok (.iconst 1, 1) := by decide +kernel
theorem dL_law_631 : decode cL_law 631 = .ok (.iadd, 1) := by decide +kernel
theorem dL_law_632 : decode cL_law 632 = .ok (.iaload, 1) := by decide +kernel
theorem dL_law_633 : decode cL_law 633 = .ok (.invokevirtual 73, 3) := by decide +kernel
theorem dL_law_636 : decode cL_law 636 = .ok (.if_icmp .eq 589, 3) := by decide +kernel
theorem dL_law_639 : decode cL_law 639 = .ok (.iconst 0, 1) := by decide +kernel
theorem dL_law_640 : decode cL_law 640 = .ok (.ireturn, 1) := by decide +kernel
theorem dL_law_641 : decode cL_law 641 = .ok (.aload_n 1, 1) := by decide +kernel
theorem dL_law_642 : decode cL_law 642 = .ok (.aload_n 0, 1) := by decide +kernel
theorem dL_law_643 : decode cL_law 643 = .ok (.iload_n 3, 1) := by decide +kernel
theorem dL_law_644 : decode cL_law 644 = .ok (.iconst 1, 1) := by decide +kernel
theorem dL_law_645 : decode cL_law 645 = .ok (.iadd, 1) := by decide +kernel
theorem dL_law_646 : decode cL_law 646 = .ok (.iaload, 1) := by decide +kernel
theorem dL_law_647 : decode cL_law 647 = .ok (.aload_n 0, 1) := by decide +kernel
theorem dL_law_648 : decode cL_law 648 = .ok (.iload_n 3, 1) := by decide +kernel
theorem dL_law_649 : decode cL_law 649 = .ok (.iconst 2, 1) := by decide +kernel
theorem dL_law_650 : decode cL_law 650 = .ok (.iadd, 1) := by decide +kernel
theorem dL_law_651 : decode cL_law 651 = .ok (.iaload, 1) := by decide +kernel
theorem dL_law_652 : decode cL_law 652 = .ok (.invokevirtual 74, 3) := by decide +kernel
theorem dL_law_655 : decode cL_law 655 = .ok (.aload_n 2, 1) := by decide +kernel
theorem dL_law_656 : decode cL_law 656 = .ok (.aload_n 0, 1) := by decide +kernel
theorem dL_law_657 : decode cL_law 657 = .ok (.iload_n 3, 1) := by decide +kernel
theorem dL_law_658 : decode cL_law 658 = .ok (.iconst 1, 1) := by decide +kernel
theorem dL_law_659 : decode cL_law 659 = .ok (.iadd, 1) := by decide +kernel
theorem dL_law_660 : decode cL_law 660 = .ok (.iaload, 1) := by decide +kernel
theorem dL_law_661 : decode cL_law 661 = .ok (.aload_n 0, 1) := by decide +kernel
theorem dL_law_662 : decode cL_law 662 = .ok (.iload_n 3, 1) := by decide +kernel
theorem dL_law_663 : decode cL_law 663 = .ok (.iconst 2, 1) := by decide +kernel
theorem dL_law_664 : decode cL_law 664 = .ok (.iadd, 1) := by decide +kernel
theorem dL_law_665 : decode cL_law 665 = .ok (.iaload, 1) := by decide +kernel
theorem dL_law_666 : decode cL_law 666 = .ok (.invokevirtual 77, 3) := by decide +kernel
theorem dL_law_669 : decode cL_law 669 = .ok (.if_icmp .eq 556, 3) := by decide +kernel
theorem dL_law_672 : decode cL_law 672 = .ok (.iconst 0, 1) := by decide +kernel
theorem dL_law_673 : decode cL_law 673 = .ok (.ireturn, 1) := by decide +kernel
theorem dL_law_674 : decode cL_law 674 = .ok (.aload_n 1, 1) := by decide +kernel
theorem dL_law_675 : decode cL_law 675 = .ok (.aload_n 0, 1) := by decide +kernel
theorem dL_law_676 : decode cL_law 676 = .ok (.iload_n 3, 1) := by decide +kernel
theorem dL_law_677 : decode cL_law 677 = .ok (.iconst 1, 1) := by decide +kernel
theorem dL_law_678 : decode cL_law 678 = .ok (.iadd, 1) := by decide +kernel
theorem dL_law_679 : decode cL_law 679 = .ok (.iaload, 1) := by decide +kernel
theorem dL_law_680 : decode cL_law 680 = .ok (.invokevirtual 78, 3) := by decide +kernel
theorem dL_law_683 : decode cL_law 683 = .ok (.aload_n 2, 1) := by decide +kernel
theorem dL_law_684 : decode cL_law 684 = .ok (.aload_n 0, 1) := by decide +kernel
theorem dL_law_685 : decode cL_law 685 = .ok (.iload_n 3, 1) := by decide +kernel
theorem dL_law_686 : decode cL_law 686 = .ok (.iconst 1, 1) := by decide +kernel
theorem dL_law_687 : decode cL_law 687 = .ok (.iadd, 1) := by decide +kernel
theorem dL_law_688 : decode cL_law 688 = .ok (.iaload, 1) := by decide +kernel
theorem dL_law_689 : decode cL_law 689 = .ok (.invokevirtual 81, 3) := by decide +kernel
theorem dL_law_692 : decode cL_law 692 = .ok (.if_icmp .eq 533, 3) := by decide +kernel
theorem dL_law_695 : decode cL_law 695 = .ok (.iconst 0, 1) := by decide +kernel
theorem dL_law_696 : decode cL_law 696 = .ok (.ireturn, 1) := by decide +kernel
theorem dL_law_697 : decode cL_law 697 = .ok (.aload_n 1, 1) := by decide +kernel
theorem dL_law_698 : decode cL_law 698 = .ok (.aload_n 0, 1) := by decide +kernel
theorem dL_law_699 : decode cL_law 699 = .ok (.iload_n 3, 1) := by decide +kernel
theorem dL_law_700 : decode cL_law 700 = .ok (.iconst 1, 1) := by decide +kernel
theorem dL_law_701 : decode cL_law 701 = .ok (.iadd, 1) := by decide +kernel
theorem dL_law_702 : decode cL_law 702 = .ok (.iaload, 1) := by decide +kernel
theorem dL_law_703 : decode cL_law 703 = .ok (.invokevirtual 82, 3) := by decide +kernel
theorem dL_law_706 : decode cL_law 706 = .ok (.aload_n 2, 1) := by decide +kernel
theorem dL_law_707 : decode cL_law 707 = .ok (.aload_n 0, 1) := by decide +kernel
theorem dL_law_708 : decode cL_law 708 = .ok (.iload_n 3, 1) := by decide +kernel
theorem dL_law_709 : decode cL_law 709 = .ok (.iconst 1, 1) := by decide +kernel
theorem dL_law_710 : decode cL_law 710 = .ok (.iadd, 1) := by decide +kernel
theorem dL_law_711 : decode cL_law 711 = .ok (.iaload, 1) := by decide +kernel
theorem dL_law_712 : decode cL_law 712 = .ok (.invokevirtual 85, 3) := by decide +kernel
theorem dL_law_715 : decode cL_law 715 = .ok (.if_icmp .eq 510, 3) := by decide +kernel
theorem dL_law_718 : decode cL_law 718 = .ok (.iconst 0, 1) := by decide +kernel
theorem dL_law_719 : decode cL_law 719 = .ok (.ireturn, 1) := by decide +kernel
theorem dL_law_720 : decode cL_law 720 = .ok (.aload_n 1, 1) := by decide +kernel
theorem dL_law_721 : decode cL_law 721 = .ok (.aload_n 0, 1) := by decide +kernel
theorem dL_law_722 : decode cL_law 722 = .ok (.iload_n 3, 1) := by decide +kernel
theorem dL_law_723 : decode cL_law 723 = .ok (.iconst 1, 1) := by decide +kernel
theorem dL_law_724 : decode cL_law 724 = .ok (.iadd, 1) := by decide +kernel
theorem dL_law_725 : decode cL_law 725 = .ok (.iaload, 1) := by decide +kernel
theorem dL_law_726 : decode cL_law 726 = .ok (.aload_n 0, 1) := by decide +kernel
theorem dL_law_727 : decode cL_law 727 = .ok (.iload_n 3, 1) := by decide +kernel
theorem dL_law_728 : decode cL_law 728 = .ok (.iconst 2, 1) := by decide +kernel
theorem dL_law_729 : decode cL_law 729 = .ok (.iadd, 1) := by decide +kernel
theorem dL_law_730 : decode cL_law 730 = .ok (.iaload, 1) := by decide +kernel
theorem dL_law_731 : decode cL_law 731 = .ok (.aload_n 0, 1) := by decide +kernel
theorem dL_law_732 : decode cL_law 732 = .ok (.iload_n 3, 1) := by decide +kernel
theorem dL_law_733 : decode cL_law 733 = .ok (.iconst 3, 1) := by decide +kernel
theorem dL_law_734 : decode cL_law 734 = .ok (.iadd, 1) := by decide +kernel
theorem dL_law_735 : decode cL_law 735 = .ok (.iaload, 1) := by decide +kernel
theorem dL_law_736 : decode cL_law 736 = .ok (.invokevirtual 86, 3) := by decide +kernel
theorem dL_law_739 : decode cL_law 739 = .ok (.aload_n 2, 1) := by decide +kernel
theorem dL_law_740 : decode cL_law 740 = .ok (.aload_n 0, 1) := by decide +kernel
theorem dL_law_741 : decode cL_law 741 = .ok (.iload_n 3, 1) := by decide +kernel
theorem dL_law_742 : decode cL_law 742 = .ok (.iconst 1, 1) := by decide +kernel
theorem dL_law_743 : decode cL_law 743 = .ok (.iadd, 1) := by decide +kernel
theorem dL_law_744 : decode cL_law 744 = .ok (.iaload, 1) := by decide +kernel
theorem dL_law_745 : decode cL_law 745 = .ok (.aload_n 0, 1) := by decide +kernel
theorem dL_law_746 : decode cL_law 746 = .ok (.iload_n 3, 1) := by decide +kernel
theorem dL_law_747 : decode cL_law 747 = .ok (.iconst 2, 1) := by decide +kernel
theorem dL_law_748 : decode cL_law 748 = .ok (.iadd, 1) := by decide +kernel
theorem dL_law_749 : decode cL_law 749 = .ok (.iaload, 1) := by decide +kernel
theorem dL_law_750 : decode cL_law 750 = .ok (.aload_n 0, 1) := by decide +kernel
theorem dL_law_751 : decode cL_law 751 = .ok (.iload_n 3, 1) := by decide +kernel
theorem dL_law_752 : decode cL_law 752 = .ok (.iconst 3, 1) := by decide +kernel
theorem dL_law_753 : decode cL_law 753 = .ok (.iadd, 1) := by decide +kernel
theorem dL_law_754 : decode cL_law 754 = .ok (.iaload, 1) := by decide +kernel
theorem dL_law_755 : decode cL_law 755 = .ok (.invokevirtual 89, 3) := by decide +kernel
theorem dL_law_758 : decode cL_law 758 = .ok (.if_icmp .eq 467, 3) := by decide +kernel
theorem dL_law_761 : decode cL_law 761 = .ok (.iconst 0, 1) := by decide +kernel
theorem dL_law_762 : decode cL_law 762 = .ok (.ireturn, 1) := by decide +kernel
theorem dL_law_763 : decode cL_law 763 = .ok (.aload_n 1, 1) := by decide +kernel
theorem dL_law_764 : decode cL_law 764 = .ok (.aload_n 0, 1) := by decide +kernel
theorem dL_law_765 : decode cL_law 765 = .ok (.iload_n 3, 1) := by decide +kernel
theorem dL_law_766 : decode cL_law 766 = .ok (.iconst 1, 1) := by decide +kernel
theorem dL_law_767 : decode cL_law 767 = .ok (.iadd, 1) := by decide +kernel
theorem dL_law_768 : decode cL_law 768 = .ok (.iaload, 1) := by decide +kernel
theorem dL_law_769 : decode cL_law 769 = .ok (.aload_n 0, 1) := by decide +kernel
theorem dL_law_770 : decode cL_law 770 = .ok (.iload_n 3, 1) := by decide +kernel
theorem dL_law_771 : decode cL_law 771 = .ok (.iconst 2, 1) := by decide +kernel
theorem dL_law_772 : decode cL_law 772 = .ok (.iadd, 1) := by decide +kernel
theorem dL_law_773 : decode cL_law 773 = .ok (.iaload, 1) := by decide +kernel
theorem dL_law_774 : decode cL_law 774 = .ok (.aload_n 0, 1) := by decide +kernel
theorem dL_law_775 : decode cL_law 775 = .ok (.iload_n 3, 1) := by decide +kernel
theorem dL_law_776 : decode cL_law 776 = .ok (.iconst 3, 1) := by decide +kernel
theorem dL_law_777 : decode cL_law 777 = .ok (.iadd, 1) := by decide +kernel
theorem dL_law_778 : decode cL_law 778 = .ok (.iaload, 1) := by decide +kernel
theorem dL_law_779 : decode cL_law 779 = .ok (.aload_n 0, 1) := by decide +kernel
theorem dL_law_780 : decode cL_law 780 = .ok (.iload_n 3, 1) := by decide +kernel
theorem dL_law_781 : decode cL_law 781 = .ok (.iconst 4, 1) := by decide +kernel
theorem dL_law_782 : decode cL_law 782 = .ok (.iadd, 1) := by decide +kernel
theorem dL_law_783 : decode cL_law 783 = .ok (.iaload, 1) := by decide +kernel
theorem dL_law_784 : decode cL_law 784 = .ok (.invokevirtual 90, 3) := by decide +kernel
theorem dL_law_787 : decode cL_law 787 = .ok (.aload_n 2, 1) := by decide +kernel
theorem dL_law_788 : decode cL_law 788 = .ok (.aload_n 0, 1) := by decide +kernel
theorem dL_law_789 : decode cL_law 789 = .ok (.iload_n 3, 1) := by decide +kernel
theorem dL_law_790 : decode cL_law 790 = .ok (.iconst 1, 1) := by decide +kernel
theorem dL_law_791 : decode cL_law 791 = .ok (.iadd, 1) := by decide +kernel
theorem dL_law_792 : decode cL_law 792 = .ok (.iaload, 1) := by decide +kernel
theorem dL_law_793 : decode cL_law 793 = .ok (.aload_n 0, 1) := by decide +kernel
theorem dL_law_794 : decode cL_law 794 = .ok (.iload_n 3, 1) := by decide +kernel
theorem dL_law_795 : decode cL_law 795 = .ok (.iconst 2, 1) := by decide +kernel
theorem dL_law_796 : decode cL_law 796 = .ok (.iadd, 1) := by decide +kernel
theorem dL_law_797 : decode cL_law 797 = .ok (.iaload, 1) := by decide +kernel
theorem dL_law_798 : decode cL_law 798 = .ok (.aload_n 0, 1) := by decide +kernel
theorem dL_law_799 : decode cL_law 799 = .ok (.iload_n 3, 1) := by decide +kernel
theorem dL_law_800 : decode cL_law 800 = .ok (.iconst 3, 1) := by decide +kernel
theorem dL_law_801 : decode cL_law 801 = .ok (.iadd, 1) := by decide +kernel
theorem dL_law_802 : decode cL_law 802 = .ok (.iaload, 1) := by decide +kernel
theorem dL_law_803 : decode cL_law 803 = .ok (.aload_n 0, 1) := by decide +kernel
theorem dL_law_804 : decode cL_law 804 = .ok (.iload_n 3, 1) := by decide +kernel
theorem dL_law_805 : decode cL_law 805 = .ok (.iconst 4, 1) := by decide +kernel
theorem dL_law_806 : decode cL_law 806 = .ok (.iadd, 1) := by decide +kernel
theorem dL_law_807 : decode cL_law 807 = .ok (.iaload, 1) := by decide +kernel
theorem dL_law_808 : decode cL_law 808 = .ok (.invokevirtual 93, 3) := by decide +kernel
theorem dL_law_811 : decode cL_law 811 = .ok (.if_icmp .eq 414, 3) := by decide +kernel
theorem dL_law_814 : decode cL_law 814 = .ok (.iconst 0, 1) := by decide +kernel
theorem dL_law_815 : decode cL_law 815 = .ok (.ireturn, 1) := by decide +kernel
theorem dL_law_816 : decode cL_law 816 = .ok (.aload_n 1, 1) := by decide +kernel
theorem dL_law_817 : decode cL_law 817 = .ok (.invokevirtual 94, 3) := by decide +kernel
theorem dL_law_820 : decode cL_law 820 = .ok (.aload_n 2, 1) := by decide +kernel
theorem dL_law_821 : decode cL_law 821 = .ok (.invokevirtual 97, 3) := by decide +kernel
theorem dL_law_824 : decode cL_law 824 = .ok (.if_icmp .eq 401, 3) := by decide +kernel
theorem dL_law_827 : decode cL_law 827 = .ok (.iconst 0, 1) := by decide +kernel
theorem dL_law_828 : decode cL_law 828 = .ok (.ireturn, 1) := by decide +kernel
theorem dL_law_829 : decode cL_law 829 = .ok (.aload_n 1, 1) := by decide +kernel
theorem dL_law_830 : decode cL_law 830 = .ok (.invokevirtual 98, 3) := by decide +kernel
theorem dL_law_833 : decode cL_law 833 = .ok (.aload_n 2, 1) := by decide +kernel
theorem dL_law_834 : decode cL_law 834 = .ok (.invokevirtual 101, 3) := by decide +kernel
theorem dL_law_837 : decode cL_law 837 = .ok (.if_icmp .eq 388, 3) := by decide +kernel
theorem dL_law_840 : decode cL_law 840 = .ok (.iconst 0, 1) := by decide +kernel
theorem dL_law_841 : decode cL_law 841 = .ok (.ireturn, 1) := by decide +kernel
theorem dL_law_842 : decode cL_law 842 = .ok (.aload_n 1, 1) := by decide +kernel
theorem dL_law_843 : decode cL_law 843 = .ok (.aload_n 0, 1) := by decide +kernel
theorem dL_law_844 : decode cL_law 844 = .ok (.iload_n 3, 1) := by decide +kernel
theorem dL_law_845 : decode cL_law 845 = .ok (.iconst 1, 1) := by decide +kernel
theorem dL_law_846 : decode cL_law 846 = .ok (.iadd, 1) := by decide +kernel
theorem dL_law_847 : decode cL_law 847 = .ok (.iaload, 1) := by decide +kernel
theorem dL_law_848 : decode cL_law 848 = .ok (.aload_n 0, 1) := by decide +kernel
theorem dL_law_849 : decode cL_law 849 = .ok (.iload_n 3, 1) := by decide +kernel
theorem dL_law_850 : decode cL_law 850 = .ok (.iconst 2, 1) := by decide +kernel
theorem dL_law_851 : decode cL_law 851 = .ok (.iadd, 1) := by decide +kernel
theorem dL_law_852 : decode cL_law 852 = .ok (.iaload, 1) := by decide +kernel
theorem dL_law_853 : decode cL_law 853 = .ok (.aload_n 0, 1) := by decide +kernel
theorem dL_law_854 : decode cL_law 854 = .ok (.iload_n 3, 1) := by decide +kernel
theorem dL_law_855 : decode cL_law 855 = .ok (.iconst 3, 1) := by decide +kernel
theorem dL_law_856 : decode cL_law 856 = .ok (.iadd, 1) := by decide +kernel
theorem dL_law_857 : decode cL_law 857 = .ok (.iaload, 1) := by decide +kernel
theorem dL_law_858 : decode cL_law 858 = .ok (.aload_n 0, 1) := by decide +kernel
theorem dL_law_859 : decode cL_law 859 = .ok (.iload_n 3, 1) := by decide +kernel
theorem dL_law_860 : decode cL_law 860 = .ok (.iconst 4, 1) := by decide +kernel
theorem dL_law_861 : decode cL_law 861 = .ok (.iadd, 1) := by decide +kernel
theorem dL_law_862 : decode cL_law 862 = .ok (.iaload, 1) := by decide +kernel
theorem dL_law_863 : decode cL_law 863 = .ok (.aload_n 0, 1) := by decide +kernel
theorem dL_law_864 : decode cL_law 864 = .ok (.iload_n 3, 1) := by decide +kernel
theorem dL_law_865 : decode cL_law 865 = .ok (.iconst 5, 1) := by decide +kernel
theorem dL_law_866 : decode cL_law 866 = .ok (.iadd, 1) := by decide +kernel
theorem dL_law_867 : decode cL_law 867 = .ok (.iaload, 1) := by decide +kernel
theorem dL_law_868 : decode cL_law 868 = .ok (.aload_n 0, 1) := by decide +kernel
theorem dL_law_869 : decode cL_law 869 = .ok (.iload_n 3, 1) := by decide +kernel
theorem dL_law_870 : decode cL_law 870 = .ok (.bipush 6, 2) := by decide +kernel
theorem dL_law_872 : decode cL_law 872 = .ok (.iadd, 1) := by decide +kernel
theorem dL_law_873 : decode cL_law 873 = .ok (.iaload, 1) := by decide +kernel
theorem dL_law_874 : decode cL_law 874 = .ok (.invokevirtual 102, 3) := by decide +kernel
theorem dL_law_877 : decode cL_law 877 = .ok (.aload_n 2, 1) := by decide +kernel
theorem dL_law_878 : decode cL_law 878 = .ok (.aload_n 0, 1) := by decide +kernel
theorem dL_law_879 : decode cL_law 879 = .ok (.iload_n 3, 1) := by decide +kernel
theorem dL_law_880 : decode cL_law 880 = .ok (.iconst 1, 1) := by decide +kernel
theorem dL_law_881 : decode cL_law 881 = .ok (.iadd, 1) := by decide +kernel
theorem dL_law_882 : decode cL_law 882 = .ok (.iaload, 1) := by decide +kernel
theorem dL_law_883 : decode cL_law 883 = .ok (.aload_n 0, 1) := by decide +kernel
theorem dL_law_884 : decode cL_law 884 = .ok (.iload_n 3, 1) := by decide +kernel
theorem dL_law_885 : decode cL_law 885 = .ok (.iconst 2, 1) := by decide +kernel
theorem dL_law_886 : decode cL_law 886 = .ok (.iadd, 1) := by decide +kernel
theorem dL_law_887 : decode cL_law 887 = .ok (.iaload, 1) := by decide +kernel
theorem dL_law_888 : decode cL_law 888 = .ok (.aload_n 0, 1) := by decide +kernel
theorem dL_law_889 : decode cL_law 889 = .ok (.iload_n 3, 1) := by decide +kernel
theorem dL_law_890 : decode cL_law 890 = .ok (.iconst 3, 1) := by decide +kernel
theorem dL_law_891 : decode cL_law 891 = .ok (.iadd, 1) := by decide +kernel
theorem dL_law_892 : decode cL_law 892 = .ok (.iaload, 1) := by decide +kernel
theorem dL_law_893 : decode cL_law 893 = .ok (.aload_n 0, 1) := by decide +kernel
theorem dL_law_894 : decode cL_law 894 = .ok (.iload_n 3, 1) := by decide +kernel
theorem dL_law_895 : decode cL_law 895 = .ok (.iconst 4, 1) := by decide +kernel
theorem dL_law_896 : decode cL_law 896 = .ok (.iadd, 1) := by decide +kernel
theorem dL_law_897 : decode cL_law 897 = .ok (.iaload, 1) := by decide +kernel
theorem dL_law_898 : decode cL_law 898 = .ok (.aload_n 0, 1) := by decide +kernel
theorem dL_law_899 : decode cL_law 899 = .ok (.iload_n 3, 1) := by decide +kernel
theorem dL_law_900 : decode cL_law 900 = .ok (.iconst 5, 1) := by decide +kernel
theorem dL_law_901 : decode cL_law 901 = .ok (.iadd, 1) := by decide +kernel
theorem dL_law_902 : decode cL_law 902 = .ok (.iaload, 1) := by decide +kernel
theorem dL_law_903 : decode cL_law 903 = .ok (.aload_n 0, 1) := by decide +kernel
theorem dL_law_904 : decode cL_law 904 = .ok (.iload_n 3, 1) := by decide +kernel
theorem dL_law_905 : decode cL_law 905 = .ok (.bipush 6, 2) := by decide +kernel
theorem dL_law_907 : decode cL_law 907 = .ok (.iadd, 1) := by decide +kernel
theorem dL_law_908 : decode cL_law 908 = .ok (.iaload, 1) := by decide +kernel
theorem dL_law_909 : decode cL_law 909 = .ok (.invokevirtual 106, 3) := by decide +kernel
theorem dL_law_912 : decode cL_law 912 = .ok (.if_icmp .eq 313, 3) := by decide +kernel
theorem dL_law_915 : decode cL_law 915 = .ok (.iconst 0, 1) := by decide +kernel
theorem dL_law_916 : decode cL_law 916 = .ok (.ireturn, 1) := by decide +kernel
theorem dL_law_917 : decode cL_law 917 = .ok (.aload_n 1, 1) := by decide +kernel
theorem dL_law_918 : decode cL_law 918 = .ok (.aload_n 0, 1) := by decide +kernel
theorem dL_law_919 : decode cL_law 919 = .ok (.iload_n 3, 1) := by decide +kernel
theorem dL_law_920 : decode cL_law 920 = .ok (.iconst 1, 1) := by decide +kernel
theorem dL_law_921 : decode cL_law 921 = .ok (.iadd, 1) := by decide +kernel
theorem dL_law_922 : decode cL_law 922 = .ok (.iaload, 1) := by decide +kernel
theorem dL_law_923 : decode cL_law 923 = .ok (.aload_n 0, 1) := by decide +kernel
theorem dL_law_924 : decode cL_law 924 = .ok (.iload_n 3, 1) := by decide +kernel
theorem dL_law_925 : decode cL_law 925 = .ok (.iconst 2, 1) := by decide +kernel
theorem dL_law_926 : decode cL_law 926 = .ok (.iadd, 1) := by decide +kernel
theorem dL_law_927 : decode cL_law 927 = .ok (.iaload, 1) := by decide +kernel
theorem dL_law_928 : decode cL_law 928 = .ok (.aload_n 0, 1) := by decide +kernel
theorem dL_law_929 : decode cL_law 929 = .ok (.iload_n 3, 1) := by decide +kernel
theorem dL_law_930 : decode cL_law 930 = .ok (.iconst 3, 1) := by decide +kernel
theorem dL_law_931 : decode cL_law 931 = .ok (.iadd, 1) := by decide +kernel
theorem dL_law_932 : decode cL_law 932 = .ok (.iaload, 1) := by decide +kernel
theorem dL_law_933 : decode cL_law 933 = .ok (.aload_n 0, 1) := by decide +kernel
theorem dL_law_934 : decode cL_law 934 = .ok (.iload_n 3, 1) := by decide +kernel
theorem dL_law_935 : decode cL_law 935 = .ok (.iconst 4, 1) := by decide +kernel
theorem dL_law_936 : decode cL_law 936 = .ok (.iadd, 1) := by decide +kernel
theorem dL_law_937 : decode cL_law 937 = .ok (.iaload, 1) := by decide +kernel
theorem dL_law_938 : decode cL_law 938 = .ok (.aload_n 0, 1) := by decide +kernel
theorem dL_law_939 : decode cL_law 939 = .ok (.iload_n 3, 1) := by decide +kernel
theorem dL_law_940 : decode cL_law 940 = .ok (.iconst 5, 1) := by decide +kernel
theorem dL_law_941 : decode cL_law 941 = .ok (.iadd, 1) := by decide +kernel
theorem dL_law_942 : decode cL_law 942 = .ok (.iaload, 1) := by decide +kernel
theorem dL_law_943 : decode cL_law 943 = .ok (.invokevirtual 107, 3) := by decide +kernel
theorem dL_law_946 : decode cL_law 946 = .ok (.aload_n 2, 1) := by decide +kernel
theorem dL_law_947 : decode cL_law 947 = .ok (.aload_n 0, 1) := by decide +kernel
theorem dL_law_948 : decode cL_law 948 = .ok (.iload_n 3, 1) := by decide +kernel
theorem dL_law_949 : decode cL_law 949 = .ok (.iconst 1, 1) := by decide +kernel
theorem dL_law_950 : decode cL_law 950 = .ok (.iadd, 1) := by decide +kernel
theorem dL_law_951 : decode cL_law 951 = .ok (.iaload, 1) := by decide +kernel
theorem dL_law_952 : decode cL_law 952 = .ok (.aload_n 0, 1) := by decide +kernel
theorem dL_law_953 : decode cL_law 953 = .ok (.iload_n 3, 1) := by decide +kernel
theorem dL_law_954 : decode cL_law 954 = .ok (.iconst 2, 1) := by decide +kernel
theorem dL_law_955 : decode cL_law 955 = .ok (.iadd, 1) := by decide +kernel
theorem dL_law_956 : decode cL_law 956 = .ok (.iaload, 1) := by decide +kernel
theorem dL_law_957 : decode cL_law 957 = .ok (.aload_n 0, 1) := by decide +kernel
theorem dL_law_958 : decode cL_law 958 = .ok (.iload_n 3, 1) := by decide +kernel
theorem dL_law_959 : decode cL_law 959 = .ok (.iconst 3, 1) := by decide +kernel
theorem dL_law_960 : decode cL_law 960 = .ok (.iadd, 1) := by decide +kernel
theorem dL_law_961 : decode cL_law 961 = .ok (.iaload, 1) := by decide +kernel
theorem dL_law_962 : decode cL_law 962 = .ok (.aload_n 0, 1) := by decide +kernel
theorem dL_law_963 : decode cL_law 963 = .ok (.iload_n 3, 1) := by decide +kernel
theorem dL_law_964 : decode cL_law 964 = .ok (.iconst 4, 1) := by decide +kernel
theorem dL_law_965 : decode cL_law 965 = .ok (.iadd, 1) := by decide +kernel
theorem dL_law_966 : decode cL_law 966 = .ok (.iaload, 1) := by decide +kernel
theorem dL_law_967 : decode cL_law 967 = .ok (.aload_n 0, 1) := by decide +kernel
theorem dL_law_968 : decode cL_law 968 = .ok (.iload_n 3, 1) := by decide +kernel
theorem dL_law_969 : decode cL_law 969 = .ok (.iconst 5, 1) := by decide +kernel
theorem dL_law_970 : decode cL_law 970 = .ok (.iadd, 1) := by decide +kernel
theorem dL_law_971 : decode cL_law 971 = .ok (.iaload, 1) := by decide +kernel
theorem dL_law_972 : decode cL_law 972 = .ok (.invokevirtual 111, 3) := by decide +kernel
theorem dL_law_975 : decode cL_law 975 = .ok (.if_icmp .eq 250, 3) := by decide +kernel
theorem dL_law_978 : decode cL_law 978 = .ok (.iconst 0, 1) := by decide +kernel
theorem dL_law_979 : decode cL_law 979 = .ok (.ireturn, 1) := by decide +kernel
theorem dL_law_980 : decode cL_law 980 = .ok (.aload_n 1, 1) := by decide +kernel
theorem dL_law_981 : decode cL_law 981 = .ok (.aload_n 0, 1) := by decide +kernel
theorem dL_law_982 : decode cL_law 982 = .ok (.iload_n 3, 1) := by decide +kernel
theorem dL_law_983 : decode cL_law 983 = .ok (.iconst 1, 1) := by decide +kernel
theorem dL_law_984 : decode cL_law 984 = .ok (.iadd, 1) := by decide +kernel
theorem dL_law_985 : decode cL_law 985 = .ok (.iaload, 1) := by decide +kernel
theorem dL_law_986 : decode cL_law 986 = .ok (.aload_n 0, 1) := by decide +kernel
theorem dL_law_987 : decode cL_law 987 = .ok (.iload_n 3, 1) := by decide +kernel
theorem dL_law_988 : decode cL_law 988 = .ok (.iconst 2, 1) := by decide +kernel
theorem dL_law_989 : decode cL_law 989 = .ok (.iadd, 1) := by decide +kernel
theorem dL_law_990 : decode cL_law 990 = .ok (.iaload, 1) := by decide +kernel
theorem dL_law_991 : decode cL_law 991 = .ok (.aload_n 0, 1) := by decide +kernel
theorem dL_law_992 : decode cL_law 992 = .ok (.iload_n 3, 1) := by decide +kernel
theorem dL_law_993 : decode cL_law 993 = .ok (.iconst 3, 1) := by decide +kernel
theorem dL_law_994 : decode cL_law 994 = .ok (.iadd, 1) := by decide +kernel
theorem dL_law_995 : decode cL_law 995 = .ok (.iaload, 1) := by decide +kernel
theorem dL_law_996 : decode cL_law 996 = .ok (.aload_n 0, 1) := by decide +kernel
theorem dL_law_997 : decode cL_law 997 = .ok (.iload_n 3, 1) := by decide +kernel
theorem dL_law_998 : decode cL_law 998 = .ok (.iconst 4, 1) := by decide +kernel
theorem dL_law_999 : decode cL_law 999 = .ok (.iadd, 1) := by decide +kernel
theorem dL_law_1000 : decode cL_law 1000 = .ok (.iaload, 1) := by decide +kernel
theorem dL_law_1001 : decode cL_law 1001 = .ok (.aload_n 0, 1) := by decide +kernel
theorem dL_law_1002 : decode cL_law 1002 = .ok (.iload_n 3, 1) := by decide +kernel
theorem dL_law_1003 : decode cL_law 1003 = .ok (.iconst 5, 1) := by decide +kernel
theorem dL_law_1004 : decode cL_law 1004 = .ok (.iadd, 1) := by decide +kernel
theorem dL_law_1005 : decode cL_law 1005 = .ok (.iaload, 1) := by decide +kernel
theorem dL_law_1006 : decode cL_law 1006 = .ok (.invokevirtual 112, 3) := by decide +kernel
theorem dL_law_1009 : decode cL_law 1009 = .ok (.aload_n 2, 1) := by decide +kernel
theorem dL_law_1010 : decode cL_law 1010 = .ok (.aload_n 0, 1) := by decide +kernel
theorem dL_law_1011 : decode cL_law 1011 = .ok (.iload_n 3, 1) := by decide +kernel
theorem dL_law_1012 : decode cL_law 1012 = .ok (.iconst 1, 1) := by decide +kernel
theorem dL_law_1013 : decode cL_law 1013 = .ok (.iadd, 1) := by decide +kernel
theorem dL_law_1014 : decode cL_law 1014 = .ok (.iaload, 1) := by decide +kernel
theorem dL_law_1015 : decode cL_law 1015 = .ok (.aload_n 0, 1) := by decide +kernel
theorem dL_law_1016 : decode cL_law 1016 = .ok (.iload_n 3, 1) := by decide +kernel
theorem dL_law_1017 : decode cL_law 1017 = .ok (.iconst 2, 1) := by decide +kernel
theorem dL_law_1018 : decode cL_law 1018 = .ok (.iadd, 1) := by decide +kernel
theorem dL_law_1019 : decode cL_law 1019 = .ok (.iaload, 1) := by decide +kernel
theorem dL_law_1020 : decode cL_law 1020 = .ok (.aload_n 0, 1) := by decide +kernel
theorem dL_law_1021 : decode cL_law 1021 = .ok (.iload_n 3, 1) := by decide +kernel
theorem dL_law_1022 : decode cL_law 1022 = .ok (.iconst 3, 1) := by decide +kernel
theorem dL_law_1023 : decode cL_law 1023 = .ok (.iadd, 1) := by decide +kernel
theorem dL_law_1024 : decode cL_law 1024 = .ok (.iaload, 1) := by decide +kernel
theorem dL_law_1025 : decode cL_law 1025 = .ok (.aload_n 0, 1) := by decide +kernel
theorem dL_law_1026 : decode cL_law 1026 = .ok (.iload_n 3, 1) := by decide +kernel
theorem dL_law_1027 : decode cL_law 1027 = .ok (.iconst 4, 1) := by decide +kernel
theorem dL_law_1028 : decode cL_law 1028 = .ok (.iadd, 1) := by decide +kernel
theorem dL_law_1029 : decode cL_law 1029 = .ok (.iaload, 1) := by decide +kernel
theorem dL_law_1030 : decode cL_law 1030 = .ok (.aload_n 0, 1) := by decide +kernel
theorem dL_law_1031 : decode cL_law 1031 = .ok (.iload_n 3, 1) := by decide +kernel
theorem dL_law_1032 : decode cL_law 1032 = .ok (.iconst 5, 1) := by decide +kernel
theorem dL_law_1033 : decode cL_law 1033 = .ok (.iadd, 1) := by decide +kernel
theorem dL_law_1034 : decode cL_law 1034 = .ok (.iaload, 1) := by decide +kernel
theorem dL_law_1035 : decode cL_law 1035 = .ok (.invokevirtual 115, 3) := by decide +kernel
theorem dL_law_1038 : decode cL_law 1038 = .ok (.if_icmp .eq 187, 3) := by decide +kernel
theorem dL_law_1041 : decode cL_law 1041 = .ok (.iconst 0, 1) := by decide +kernel
theorem dL_law_1042 : decode cL_law 1042 = .ok (.ireturn, 1) := by decide +kernel
theorem dL_law_1043 : decode cL_law 1043 = .ok (.aload_n 1, 1) := by decide +kernel
theorem dL_law_1044 : decode cL_law 1044 = .ok (.aload_n 0, 1) := by decide +kernel
theorem dL_law_1045 : decode cL_law 1045 = .ok (.iload_n 3, 1) := by decide +kernel
theorem dL_law_1046 : decode cL_law 1046 = .ok (.iconst 1, 1) := by decide +kernel
theorem dL_law_1047 : decode cL_law 1047 = .ok (.iadd, 1) := by decide +kernel
theorem dL_law_1048 : decode cL_law 1048 = .ok (.iaload, 1) := by decide +kernel
theorem dL_law_1049 : decode cL_law 1049 = .ok (.aload_n 0, 1) := by decide +kernel
theorem dL_law_1050 : decode cL_law 1050 = .ok (.iload_n 3, 1) := by decide +kernel
theorem dL_law_1051 : decode cL_law 1051 = .ok (.iconst 2, 1) := by decide +kernel
theorem dL_law_1052 : decode cL_law 1052 = .ok (.iadd, 1) := by decide +kernel
theorem dL_law_1053 : decode cL_law 1053 = .ok (.iaload, 1) := by decide +kernel
theorem dL_law_1054 : decode cL_law 1054 = .ok (.aload_n 0, 1) := by decide +kernel
theorem dL_law_1055 : decode cL_law 1055 = .ok (.iload_n 3, 1) := by decide +kernel
theorem dL_law_1056 : decode cL_law 1056 = .ok (.iconst 3, 1) := by decide +kernel
theorem dL_law_1057 : decode cL_law 1057 = .ok (.iadd, 1) := by decide +kernel
theorem dL_law_1058 : decode cL_law 1058 = .ok (.iaload, 1) := by decide +kernel
theorem dL_law_1059 : decode cL_law 1059 = .ok (.invokevirtual 116, 3) := by decide +kernel
theorem dL_law_1062 : decode cL_law 1062 = .ok (.aload_n 2, 1) := by decide +kernel
theorem dL_law_1063 : decode cL_law 1063 = .ok (.aload_n 0, 1) := by decide +kernel
theorem dL_law_1064 : decode cL_law 1064 = .ok (.iload_n 3, 1) := by decide +kernel
theorem dL_law_1065 : decode cL_law 1065 = .ok (.iconst 1, 1) := by decide +kernel
theorem dL_law_1066 : decode cL_law 1066 = .ok (.iadd, 1) := by decide +kernel
theorem dL_law_1067 : decode cL_law 1067 = .ok (.iaload, 1) := by decide +kernel
theorem dL_law_1068 : decode cL_law 1068 = .ok (.aload_n 0, 1) := by decide +kernel
theorem dL_law_1069 : decode cL_law 1069 = .ok (.iload_n 3, 1) := by decide +kernel
theorem dL_law_1070 : decode cL_law 1070 = .ok (.iconst 2, 1) := by decide +kernel
theorem dL_law_1071 : decode cL_law 1071 = .ok (.iadd, 1) := by decide +kernel
theorem dL_law_1072 : decode cL_law 1072 = .ok (.iaload, 1) := by decide +kernel
theorem dL_law_1073 : decode cL_law 1073 = .ok (.aload_n 0, 1) := by decide +kernel
theorem dL_law_1074 : decode cL_law 1074 = .ok (.iload_n 3, 1) := by decide +kernel
theorem dL_law_1075 : decode cL_law 1075 = .ok (.iconst 3, 1) := by decide +kernel
theorem dL_law_1076 : decode cL_law 1076 = .ok (.iadd, 1) := by decide +kernel
theorem dL_law_1077 : decode cL_law 1077 = .ok (.iaload, 1) := by decide +kernel
theorem dL_law_1078 : decode cL_law 1078 = .ok (.invokevirtual 119, 3) := by decide +kernel
theorem dL_law_1081 : decode cL_law 1081 = .ok (.if_icmp .eq 144, 3) := by decide +kernel
theorem dL_law_1084 : decode cL_law 1084 = .ok (.iconst 0, 1) := by decide +kernel
theorem dL_law_1085 : decode cL_law 1085 = .ok (.ireturn, 1) := by decide +kernel
theorem dL_law_1086 : decode cL_law 1086 = .ok (.aload_n 1, 1) := by decide +kernel
theorem dL_law_1087 : decode cL_law 1087 = .ok (.aload_n 0, 1) := by decide +kernel
theorem dL_law_1088 : decode cL_law 1088 = .ok (.iload_n 3, 1) := by decide +kernel
theorem dL_law_1089 : decode cL_law 1089 = .ok (.iconst 1, 1) := by decide +kernel
theorem dL_law_1090 : decode cL_law 1090 = .ok (.iadd, 1) := by decide +kernel
theorem dL_law_1091 : decode cL_law 1091 = .ok (.iaload, 1) := by decide +kernel
theorem dL_law_1092 : decode cL_law 1092 = .ok (.invokevirtual 120, 3) := by decide +kernel
theorem dL_law_1095 : decode cL_law 1095 = .ok (.aload_n 2, 1) := by decide +kernel
theorem dL_law_1096 : decode cL_law 1096 = .ok (.aload_n 0, 1) := by decide +kernel
theorem dL_law_1097 : decode cL_law 1097 = .ok (.iload_n 3, 1) := by decide +kernel
theorem dL_law_1098 : decode cL_law 1098 = .ok (.iconst 1, 1) := by decide +kernel
theorem dL_law_1099 : decode cL_law 1099 = .ok (.iadd, 1) := by decide +kernel
theorem dL_law_1100 : decode cL_law 1100 = .ok (.iaload, 1) := by decide +kernel
theorem dL_law_1101 : decode cL_law 1101 = .ok (.invokevirtual 123, 3) := by decide +kernel
theorem dL_law_1104 : decode cL_law 1104 = .ok (.if_icmp .eq 121, 3) := by decide +kernel
theorem dL_law_1107 : decode cL_law 1107 = .ok (.iconst 0, 1) := by decide +kernel
theorem dL_law_1108 : decode cL_law 1108 = .ok (.ireturn, 1) := by decide +kernel
theorem dL_law_1109 : decode cL_law 1109 = .ok (.aload_n 1, 1) := by decide +kernel
theorem dL_law_1110 : decode cL_law 1110 = .ok (.aload_n 0, 1) := by decide +kernel
theorem dL_law_1111 : decode cL_law 1111 = .ok (.iload_n 3, 1) := by decide +kernel
theorem dL_law_1112 : decode cL_law 1112 = .ok (.iconst 1, 1) := by decide +kernel
theorem dL_law_1113 : decode cL_law 1113 = .ok (.iadd, 1) := by decide +kernel
theorem dL_law_1114 : decode cL_law 1114 = .ok (.iaload, 1) := by decide +kernel
theorem dL_law_1115 : decode cL_law 1115 = .ok (.aload_n 0, 1) := by decide +kernel
theorem dL_law_1116 : decode cL_law 1116 = .ok (.iload_n 3, 1) := by decide +kernel
theorem dL_law_1117 : decode cL_law 1117 = .ok (.iconst 2, 1) := by decide +kernel
theorem dL_law_1118 : decode cL_law 1118 = .ok (.iadd, 1) := by decide +kernel
theorem dL_law_1119 : decode cL_law 1119 = .ok (.iaload, 1) := by decide +kernel
theorem dL_law_1120 : decode cL_law 1120 = .ok (.aload_n 0, 1) := by decide +kernel
theorem dL_law_1121 : decode cL_law 1121 = .ok (.iload_n 3, 1) := by decide +kernel
theorem dL_law_1122 : decode cL_law 1122 = .ok (.iconst 3, 1) := by decide +kernel
theorem dL_law_1123 : decode cL_law 1123 = .ok (.iadd, 1) := by decide +kernel
theorem dL_law_1124 : decode cL_law 1124 = .ok (.iaload, 1) := by decide +kernel
theorem dL_law_1125 : decode cL_law 1125 = .ok (.aload_n 0, 1) := by decide +kernel
theorem dL_law_1126 : decode cL_law 1126 = .ok (.iload_n 3, 1) := by decide +kernel
theorem dL_law_1127 : decode cL_law 1127 = .ok (.iconst 4, 1) := by decide +kernel
theorem dL_law_1128 : decode cL_law 1128 = .ok (.iadd, 1) := by decide +kernel
theorem dL_law_1129 : decode cL_law 1129 = .ok (.iaload, 1) := by decide +kernel
theorem dL_law_1130 : decode cL_law 1130 = .ok (.invokevirtual 124, 3) := by decide +kernel
theorem dL_law_1133 : decode cL_law 1133 = .ok (.aload_n 2, 1) := by decide +kernel
theorem dL_law_1134 : decode cL_law 1134 = .ok (.aload_n 0, 1) := by decide +kernel
theorem dL_law_1135 : decode cL_law 1135 = .ok (.iload_n 3, 1) := by decide +kernel
theorem dL_law_1136 : decode cL_law 1136 = .ok (.iconst 1, 1) := by decide +kernel
theorem dL_law_1137 : decode cL_law 1137 = .ok (.iadd, 1) := by decide +kernel
theorem dL_law_1138 : decode cL_law 1138 = .ok (.iaload, 1) := by decide +kernel
theorem dL_law_1139 : decode cL_law 1139 = .ok (.aload_n 0, 1) := by decide +kernel
theorem dL_law_1140 : decode cL_law 1140 = .ok (.iload_n 3, 1) := by decide +kernel
theorem dL_law_1141 : decode cL_law 1141 = .ok (.iconst 2, 1) := by decide +kernel
theorem dL_law_1142 : decode cL_law 1142 = .ok (.iadd, 1) := by decide +kernel
theorem dL_law_1143 : decode cL_law 1143 = .ok (.iaload, 1) := by decide +kernel
theorem dL_law_1144 : decode cL_law 1144 = .ok (.aload_n 0, 1) := by decide +kernel
theorem dL_law_1145 : decode cL_law 1145 = .ok (.iload_n 3, 1) := by decide +kernel
theorem dL_law_1146 : decode cL_law 1146 = .ok (.iconst 3, 1) := by decide +kernel
theorem dL_law_1147 : decode cL_law 1147 = .ok (.iadd, 1) := by decide +kernel
theorem dL_law_1148 : decode cL_law 1148 = .ok (.iaload, 1) := by decide +kernel
theorem dL_law_1149 : decode cL_law 1149 = .ok (.aload_n 0, 1) := by decide +kernel
theorem dL_law_1150 : decode cL_law 1150 = .ok (.iload_n 3, 1) := by decide +kernel
theorem dL_law_1151 : decode cL_law 1151 = .ok (.iconst 4, 1) := by decide +kernel
theorem dL_law_1152 : decode cL_law 1152 = .ok (.iadd, 1) := by decide +kernel
theorem dL_law_1153 : decode cL_law 1153 = .ok (.iaload, 1) := by decide +kernel
theorem dL_law_1154 : decode cL_law 1154 = .ok (.invokevirtual 127, 3) := by decide +kernel
theorem dL_law_1157 : decode cL_law 1157 = .ok (.if_icmp .eq 68, 3) := by decide +kernel
theorem dL_law_1160 : decode cL_law 1160 = .ok (.iconst 0, 1) := by decide +kernel
theorem dL_law_1161 : decode cL_law 1161 = .ok (.ireturn, 1) := by decide +kernel
theorem dL_law_1162 : decode cL_law 1162 = .ok (.aload_n 1, 1) := by decide +kernel
theorem dL_law_1163 : decode cL_law 1163 = .ok (.aload_n 0, 1) := by decide +kernel
theorem dL_law_1164 : decode cL_law 1164 = .ok (.iload_n 3, 1) := by decide +kernel
theorem dL_law_1165 : decode cL_law 1165 = .ok (.iconst 1, 1) := by decide +kernel
theorem dL_law_1166 : decode cL_law 1166 = .ok (.iadd, 1) := by decide +kernel
theorem dL_law_1167 : decode cL_law 1167 = .ok (.iaload, 1) := by decide +kernel
theorem dL_law_1168 : decode cL_law 1168 = .ok (.aload_n 0, 1) := by decide +kernel
theorem dL_law_1169 : decode cL_law 1169 = .ok (.iload_n 3, 1) := by decide +kernel
theorem dL_law_1170 : decode cL_law 1170 = .ok (.iconst 2, 1) := by decide +kernel
theorem dL_law_1171 : decode cL_law 1171 = .ok (.iadd, 1) := by decide +kernel
theorem dL_law_1172 : decode cL_law 1172 = .ok (.iaload, 1) := by decide +kernel
theorem dL_law_1173 : decode cL_law 1173 = .ok (.aload_n 0, 1) := by decide +kernel
theorem dL_law_1174 : decode cL_law 1174 = .ok (.iload_n 3, 1) := by decide +kernel
theorem dL_law_1175 : decode cL_law 1175 = .ok (.iconst 3, 1) := by decide +kernel
theorem dL_law_1176 : decode cL_law 1176 = .ok (.iadd, 1) := by decide +kernel
theorem dL_law_1177 : decode cL_law 1177 = .ok (.iaload, 1) := by decide +kernel
theorem dL_law_1178 : decode cL_law 1178 = .ok (.aload_n 0, 1) := by decide +kernel
theorem dL_law_1179 : decode cL_law 1179 = .ok (.iload_n 3, 1) := by decide +kernel
theorem dL_law_1180 : decode cL_law 1180 = .ok (.iconst 4, 1) := by decide +kernel
theorem dL_law_1181 : decode cL_law 1181 = .ok (.iadd, 1) := by decide +kernel
theorem dL_law_1182 : decode cL_law 1182 = .ok (.iaload, 1) := by decide +kernel
theorem dL_law_1183 : decode cL_law 1183 = .ok (.aload_n 0, 1) := by decide +kernel
theorem dL_law_1184 : decode cL_law 1184 = .ok (.iload_n 3, 1) := by decide +kernel
theorem dL_law_1185 : decode cL_law 1185 = .ok (.iconst 5, 1) := by decide +kernel
theorem dL_law_1186 : decode cL_law 1186 = .ok (.iadd, 1) := by decide +kernel
theorem dL_law_1187 : decode cL_law 1187 = .ok (.iaload, 1) := by decide +kernel
theorem dL_law_1188 : decode cL_law 1188 = .ok (.invokevirtual 128, 3) := by decide +kernel
theorem dL_law_1191 : decode cL_law 1191 = .ok (.aload_n 2, 1) := by decide +kernel
theorem dL_law_1192 : decode cL_law 1192 = .ok (.aload_n 0, 1) := by decide +kernel
theorem dL_law_1193 : decode cL_law 1193 = .ok (.iload_n 3, 1) := by decide +kernel
theorem dL_law_1194 : decode cL_law 1194 = .ok (.iconst 1, 1) := by decide +kernel
theorem dL_law_1195 : decode cL_law 1195 = .ok (.iadd, 1) := by decide +kernel
theorem dL_law_1196 : decode cL_law 1196 = .ok (.iaload, 1) := by decide +kernel
theorem dL_law_1197 : decode cL_law 1197 = .ok (.aload_n 0, 1) := by decide +kernel
theorem dL_law_1198 : decode cL_law 1198 = .ok (.iload_n 3, 1) := by decide +kernel
theorem dL_law_1199 : decode cL_law 1199 = .ok (.iconst 2, 1) := by decide +kernel
theorem dL_law_1200 : decode cL_law 1200 = .ok (.iadd, 1) := by decide +kernel
theorem dL_law_1201 : decode cL_law 1201 = .ok (.iaload, 1) := by decide +kernel
theorem dL_law_1202 : decode cL_law 1202 = .ok (.aload_n 0, 1) := by decide +kernel
theorem dL_law_1203 : decode cL_law 1203 = .ok (.iload_n 3, 1) := by decide +kernel
theorem dL_law_1204 : decode cL_law 1204 = .ok (.iconst 3, 1) := by decide +kernel
theorem dL_law_1205 : decode cL_law 1205 = .ok (.iadd, 1) := by decide +kernel
theorem dL_law_1206 : decode cL_law 1206 = .ok (.iaload, 1) := by decide +kernel
theorem dL_law_1207 : decode cL_law 1207 = .ok (.aload_n 0, 1) := by decide +kernel
theorem dL_law_1208 : decode cL_law 1208 = .ok (.iload_n 3, 1) := by decide +kernel
theorem dL_law_1209 : decode cL_law 1209 = .ok (.iconst 4, 1) := by decide +kernel
theorem dL_law_1210 : decode cL_law 1210 = .ok (.iadd, 1) := by decide +kernel
theorem dL_law_1211 : decode cL_law 1211 = .ok (.iaload, 1) := by decide +kernel
theorem dL_law_1212 : decode cL_law 1212 = .ok (.aload_n 0, 1) := by decide +kernel
theorem dL_law_1213 : decode cL_law 1213 = .ok (.iload_n 3, 1) := by decide +kernel
theorem dL_law_1214 : decode cL_law 1214 = .ok (.iconst 5, 1) := by decide +kernel
theorem dL_law_1215 : decode cL_law 1215 = .ok (.iadd, 1) := by decide +kernel
theorem dL_law_1216 : decode cL_law 1216 = .ok (.iaload, 1) := by decide +kernel
theorem dL_law_1217 : decode cL_law 1217 = .ok (.invokevirtual 131, 3) := by decide +kernel
theorem dL_law_1220 : decode cL_law 1220 = .ok (.if_icmp .eq 5, 3) := by decide +kernel
theorem dL_law_1223 : decode cL_law 1223 = .ok (.iconst 0, 1) := by decide +kernel
theorem dL_law_1224 : decode cL_law 1224 = .ok (.ireturn, 1) := by decide +kernel
theorem dL_law_1225 : decode cL_law 1225 = .ok (.iinc 3 7, 3) := by decide +kernel
theorem dL_law_1228 : decode cL_law 1228 = .ok (.goto (-1210), 3) := by decide +kernel
theorem dL_law_1231 : decode cL_law 1231 = .ok (.iconst 1, 1) := by decide +kernel
theorem dL_law_1232 : decode cL_law 1232 = .ok (.ireturn, 1) := by decide +kernel
end
section
/-! numbers: an int is Int32.ofInt of a mathematical one, a long Int64.ofInt -/
theorem zn_toI {x : Int} (h : -2147483648 ≤ x ∧ x ≤ 2147483647) : (Int32.ofInt x).toInt = x := by
  rw [Int32.toInt_ofInt]
  show Int.bmod x 4294967296 = x
  rw [Int.bmod_eq_of_le] <;> omega
theorem zn_toJ {x : Int} (h : -9223372036854775808 ≤ x ∧ x ≤ 9223372036854775807) : (Int64.ofInt x).toInt = x := by
  rw [Int64.toInt_ofInt]
  show Int.bmod x 18446744073709551616 = x
  rw [Int.bmod_eq_of_le] <;> omega
theorem zn_self (x : Int32) : Int32.ofInt x.toInt = x := Int32.ofInt_toInt x
theorem zn_selfJ (x : Int64) : Int64.ofInt x.toInt = x := Int64.ofInt_toInt x
theorem zn_add (x y : Int) : Int32.ofInt (x + y) = Int32.ofInt x + Int32.ofInt y := Int32.ofInt_add x y
theorem zn_sub (x y : Int) : Int32.ofInt (x - y) = Int32.ofInt x - Int32.ofInt y := Int32.ofInt_sub x y
theorem zn_mul (x y : Int) : Int32.ofInt (x * y) = Int32.ofInt x * Int32.ofInt y := Int32.ofInt_mul x y
theorem zn_addJ (x y : Int) : Int64.ofInt (x + y) = Int64.ofInt x + Int64.ofInt y := Int64.ofInt_add x y
theorem zn_subJ (x y : Int) : Int64.ofInt (x - y) = Int64.ofInt x - Int64.ofInt y := Int64.ofInt_sub x y
theorem zn_bd (x : Int32) : -2147483648 ≤ x.toInt ∧ x.toInt ≤ 2147483647 := by
  have h1 := x.le_toInt
  have h2 := x.toInt_lt
  omega
theorem zn_bdJ (x : Int64) : -9223372036854775808 ≤ x.toInt ∧ x.toInt ≤ 9223372036854775807 := by
  have h1 := x.le_toInt
  have h2 := x.toInt_lt
  omega
theorem zn_lt {x y : Int} (hx : -2147483648 ≤ x ∧ x ≤ 2147483647) (hy : -2147483648 ≤ y ∧ y ≤ 2147483647) : Int32.ofInt x < Int32.ofInt y ↔ x < y := by
  rw [Int32.lt_iff_toInt_lt, zn_toI hx, zn_toI hy]
theorem zn_le {x y : Int} (hx : -2147483648 ≤ x ∧ x ≤ 2147483647) (hy : -2147483648 ≤ y ∧ y ≤ 2147483647) : Int32.ofInt x ≤ Int32.ofInt y ↔ x ≤ y := by
  rw [Int32.le_iff_toInt_le, zn_toI hx, zn_toI hy]
theorem zn_eq {x y : Int} (hx : -2147483648 ≤ x ∧ x ≤ 2147483647) (hy : -2147483648 ≤ y ∧ y ≤ 2147483647) : Int32.ofInt x = Int32.ofInt y ↔ x = y := by
  rw [← Int32.toInt_inj, zn_toI hx, zn_toI hy]
theorem zn_z : (0 : Int32) = Int32.ofInt 0 := by decide
theorem zn_clamp {x : Int} (hx : 0 ≤ x ∧ x ≤ 2147483647) : (Int32.ofInt x).toNatClampNeg = x.toNat := by
  show (Int32.ofInt x).toInt.toNat = x.toNat
  rw [zn_toI (by omega)]
theorem zn_in {x : Int} {n : Nat} (h : 0 ≤ x ∧ x < (n : Int)) (hn : n ≤ 2147483647) : ¬ (Int32.ofInt x < 0 ∨ n ≤ (Int32.ofInt x).toNatClampNeg) := by
  rw [zn_clamp (by omega), zn_z, zn_lt (by omega) (by omega)]
  omega
theorem zn_neg {x : Int} (h : 0 ≤ x ∧ x ≤ 2147483647) : ¬ Int32.ofInt x < 0 := by
  rw [zn_z, zn_lt (by omega) (by omega)]
  omega
theorem zn_div {x : Int} (hx : 0 ≤ x ∧ x ≤ 2147483647) {d : Int} (hd : 0 < d ∧ d ≤ 2147483647) : Int32.ofInt x / Int32.ofInt d = Int32.ofInt (x / d) := by
  rw [← Int32.toInt_inj, Int32.toInt_div, zn_toI (by omega), zn_toI (by omega)]
  have h0 : 0 ≤ x / d := Int.ediv_nonneg hx.1 (by omega)
  have h1 : x / d ≤ x := Int.ediv_le_self d hx.1
  rw [zn_toI (by omega), Int.tdiv_eq_ediv_of_nonneg hx.1]
  show Int.bmod (x / d) 4294967296 = _
  rw [Int.bmod_eq_of_le] <;> omega
theorem zn_nz {x : Int} (h : 0 < x ∧ x ≤ 2147483647) : ¬ Int32.ofInt x = 0 := by
  rw [zn_z, zn_eq (by omega) (by omega)]
  omega
theorem zn_i2l {x : Int} (h : -2147483648 ≤ x ∧ x ≤ 2147483647) : (Int32.ofInt x).toInt64 = Int64.ofInt x := by
  rw [← Int64.toInt_inj, Int32.toInt_toInt64, zn_toI h, zn_toJ (by omega)]
theorem zn_l2i (x : Int) : (Int64.ofInt x).toInt32 = Int32.ofInt x := by
  rw [← Int32.toInt_inj, Int64.toInt_toInt32, Int64.toInt_ofInt, Int32.toInt_ofInt]
  show Int.bmod (Int.bmod x 18446744073709551616) 4294967296 = Int.bmod x 4294967296
  exact Int.bmod_bmod_of_dvd (by decide)
theorem zn_ltJ {x y : Int} (hx : -9223372036854775808 ≤ x ∧ x ≤ 9223372036854775807) (hy : -9223372036854775808 ≤ y ∧ y ≤ 9223372036854775807) : Int64.ofInt x < Int64.ofInt y ↔ x < y := by
  rw [Int64.lt_iff_toInt_lt, zn_toJ hx, zn_toJ hy]
theorem zn_eqJ {x y : Int} (hx : -9223372036854775808 ≤ x ∧ x ≤ 9223372036854775807) (hy : -9223372036854775808 ≤ y ∧ y ≤ 9223372036854775807) : Int64.ofInt x = Int64.ofInt y ↔ x = y := by
  rw [← Int64.toInt_inj, zn_toJ hx, zn_toJ hy]
end
section
/-- every cell of the class and of the reference, as a region: its sort (0 int[], 1 boolean[], 2 long[], 3 int[][], 4 long[][], 5 Sheet[], 6 an object, 9 none), its length or class, the first region of its rows -/
def zlay0 (r : Int) : Nat × Nat × Int :=
  if r = 0 then (6, 7, 0) else
  if r = 1 then (6, 1, 0) else
  if r = 2 then (3, 7, 5) else
  if r = 3 then (3, 16, 12) else
  if r = 4 then (0, 2, 0) else
  if 5 ≤ r ∧ r ≤ 27 then (0, 4, 0) else
  (9, 0, 0)
def zlay1 (r : Int) : Nat × Nat × Int :=
  if r = 28 then (6, 1, 0) else
  if r = 29 then (3, 7, 32) else
  if r = 30 then (3, 16, 39) else
  if r = 31 then (0, 2, 0) else
  if 32 ≤ r ∧ r ≤ 54 then (0, 4, 0) else
  (9, 0, 0)
def zlay2 (r : Int) : Nat × Nat × Int :=
  if r = 55 then (6, 4, 0) else
  if r = 56 then (0, 120, 0) else
  if r = 57 then (3, 16, 58) else
  if 58 ≤ r ∧ r ≤ 73 then (0, 4, 0) else
  if r = 74 then (6, 6, 0) else
  if r = 75 then (4, 16, 78) else
  if r = 76 then (2, 128, 0) else
  if r = 77 then (0, 7, 0) else
  if 78 ≤ r ∧ r ≤ 93 then (2, 7, 0) else
  (9, 0, 0)
def zlay3 (r : Int) : Nat × Nat × Int :=
  if r = 94 then (6, 5, 0) else
  if r = 95 then (3, 42, 96) else
  if 96 ≤ r ∧ r ≤ 137 then (0, 42, 0) else
  if r = 138 then (6, 0, 0) else
  if r = 139 then (0, 6, 0) else
  if r = 140 then (0, 64, 0) else
  if r = 141 then (0, 6, 0) else
  (9, 0, 0)
def zlay4 (r : Int) : Nat × Nat × Int :=
  if r = 142 then (6, 2, 0) else
  if r = 143 then (3, 14, 148) else
  if r = 144 then (3, 14, 162) else
  if 145 ≤ r ∧ r ≤ 175 then (0, 7, 0) else
  if r = 176 then (5, 4, 177) else
  (9, 0, 0)
def zlay5 (r : Int) : Nat × Nat × Int :=
  if 177 ≤ r ∧ r ≤ 180 then (6, 3, 0) else
  if 181 ≤ r ∧ r ≤ 184 then (0, 100, 0) else
  (9, 0, 0)
def zlay6 (r : Int) : Nat × Nat × Int :=
  if r = 200 then (6, 8, 0) else
  if r = 201 then (0, 28, 0) else
  if r = 202 then (0, 64, 0) else
  if r = 205 then (0, 2, 0) else
  if r = 206 then (0, 120, 0) else
  if r = 210 then (0, 64, 0) else
  if r = 211 then (0, 16, 0) else
  if r = 213 then (0, 112, 0) else
  if r = 214 then (0, 65536, 0) else
  if r = 215 then (0, 7, 0) else
  if r = 216 then (1, 128, 0) else
  if r = 217 then (1, 71, 0) else
  if r = 218 then (0, 1681, 0) else
  if r = 220 then (0, 94, 0) else
  if 223 ≤ r ∧ r ≤ 224 then (0, 4, 0) else
  if r = 225 then (0, 400, 0) else
  if r = 226 then (0, 100, 0) else
  if 227 ≤ r ∧ r ≤ 228 then (0, 7, 0) else
  if r = 229 then (0, 98, 0) else
  if 230 ≤ r ∧ r ≤ 232 then (0, 7, 0) else
  (9, 0, 0)
def zlay (r : Int) : Nat × Nat × Int := if r < 28 then zlay0 r else if r < 55 then zlay1 r else if r < 94 then zlay2 r else if r < 142 then zlay3 r else if r < 177 then zlay4 r else if r < 200 then zlay5 r else zlay6 r
/-- how many fields a class has, and the sort of each: 0 int or boolean, 1 long, 2 a reference -/
def znf (c : Nat) : Nat := match c with
  | 0 => 3
  | 1 => 5
  | 2 => 6
  | 3 => 4
  | 4 => 4
  | 5 => 2
  | 6 => 4
  | 7 => 9
  | 8 => 32
  | _ => 0
def zft (c k : Nat) : Nat := match c with
  | 0 => ([2, 2, 2] : List Nat).getD k 0
  | 1 => ([2, 2, 2, 0, 0] : List Nat).getD k 0
  | 2 => ([0, 2, 2, 2, 2, 2] : List Nat).getD k 0
  | 3 => ([2, 0, 0, 0] : List Nat).getD k 0
  | 4 => ([2, 2, 0, 0] : List Nat).getD k 0
  | 5 => ([2, 1] : List Nat).getD k 0
  | 6 => ([2, 2, 2, 0] : List Nat).getD k 0
  | 7 => ([2, 2, 0, 2, 2, 2, 2, 2, 2] : List Nat).getD k 0
  | 8 => ([2, 2, 0, 0, 2, 2, 0, 0, 0, 2, 2, 0, 2, 2, 2, 2, 2, 2, 0, 2, 0, 0, 2, 2, 2, 2, 2, 2, 2, 2, 2, 2] : List Nat).getD k 0
  | _ => 0
/-- the region that a reference field of an object holds -/
def zrf (r : Int) (k : Nat) : Int := if r = 0 then ([1, 28, 0, 55, 74, 94, 138, 142, 176] : List Int).getD k 0 else if r = 1 then ([2, 3, 4] : List Int).getD k 0 else if r = 28 then ([29, 30, 31] : List Int).getD k 0 else if r = 55 then ([56, 57] : List Int).getD k 0 else if r = 74 then ([75, 76, 77] : List Int).getD k 0 else if r = 94 then ([95] : List Int).getD k 0 else if r = 138 then ([139, 140, 141] : List Int).getD k 0 else if r = 142 then ([0, 143, 144, 145, 146, 147] : List Int).getD k 0 else if 177 ≤ r ∧ r ≤ 180 then r + 4 else if r = 200 then 201 + k else 0
theorem ly_0 : zlay 0 = (6, 7, 0) := by decide +kernel
theorem ly_1 : zlay 1 = (6, 1, 0) := by decide +kernel
theorem ly_2 : zlay 2 = (3, 7, 5) := by decide +kernel
theorem ly_3 : zlay 3 = (3, 16, 12) := by decide +kernel
theorem ly_4 : zlay 4 = (0, 2, 0) := by decide +kernel
theorem ly_5 : zlay 5 = (0, 4, 0) := by decide +kernel
theorem ly_6 : zlay 6 = (0, 4, 0) := by decide +kernel
theorem ly_7 : zlay 7 = (0, 4, 0) := by decide +kernel
theorem ly_8 : zlay 8 = (0, 4, 0) := by decide +kernel
theorem ly_9 : zlay 9 = (0, 4, 0) := by decide +kernel
theorem ly_10 : zlay 10 = (0, 4, 0) := by decide +kernel
theorem ly_11 : zlay 11 = (0, 4, 0) := by decide +kernel
theorem ly_12 : zlay 12 = (0, 4, 0) := by decide +kernel
theorem ly_13 : zlay 13 = (0, 4, 0) := by decide +kernel
theorem ly_14 : zlay 14 = (0, 4, 0) := by decide +kernel
theorem ly_15 : zlay 15 = (0, 4, 0) := by decide +kernel
theorem ly_16 : zlay 16 = (0, 4, 0) := by decide +kernel
theorem ly_17 : zlay 17 = (0, 4, 0) := by decide +kernel
theorem ly_18 : zlay 18 = (0, 4, 0) := by decide +kernel
theorem ly_19 : zlay 19 = (0, 4, 0) := by decide +kernel
theorem ly_20 : zlay 20 = (0, 4, 0) := by decide +kernel
theorem ly_21 : zlay 21 = (0, 4, 0) := by decide +kernel
theorem ly_22 : zlay 22 = (0, 4, 0) := by decide +kernel
theorem ly_23 : zlay 23 = (0, 4, 0) := by decide +kernel
theorem ly_24 : zlay 24 = (0, 4, 0) := by decide +kernel
theorem ly_25 : zlay 25 = (0, 4, 0) := by decide +kernel
theorem ly_26 : zlay 26 = (0, 4, 0) := by decide +kernel
theorem ly_27 : zlay 27 = (0, 4, 0) := by decide +kernel
theorem ly_28 : zlay 28 = (6, 1, 0) := by decide +kernel
theorem ly_29 : zlay 29 = (3, 7, 32) := by decide +kernel
theorem ly_30 : zlay 30 = (3, 16, 39) := by decide +kernel
theorem ly_31 : zlay 31 = (0, 2, 0) := by decide +kernel
theorem ly_32 : zlay 32 = (0, 4, 0) := by decide +kernel
theorem ly_33 : zlay 33 = (0, 4, 0) := by decide +kernel
theorem ly_34 : zlay 34 = (0, 4, 0) := by decide +kernel
theorem ly_35 : zlay 35 = (0, 4, 0) := by decide +kernel
theorem ly_36 : zlay 36 = (0, 4, 0) := by decide +kernel
theorem ly_37 : zlay 37 = (0, 4, 0) := by decide +kernel
theorem ly_38 : zlay 38 = (0, 4, 0) := by decide +kernel
theorem ly_39 : zlay 39 = (0, 4, 0) := by decide +kernel
theorem ly_40 : zlay 40 = (0, 4, 0) := by decide +kernel
theorem ly_41 : zlay 41 = (0, 4, 0) := by decide +kernel
theorem ly_42 : zlay 42 = (0, 4, 0) := by decide +kernel
theorem ly_43 : zlay 43 = (0, 4, 0) := by decide +kernel
theorem ly_44 : zlay 44 = (0, 4, 0) := by decide +kernel
theorem ly_45 : zlay 45 = (0, 4, 0) := by decide +kernel
theorem ly_46 : zlay 46 = (0, 4, 0) := by decide +kernel
theorem ly_47 : zlay 47 = (0, 4, 0) := by decide +kernel
theorem ly_48 : zlay 48 = (0, 4, 0) := by decide +kernel
theorem ly_49 : zlay 49 = (0, 4, 0) := by decide +kernel
theorem ly_50 : zlay 50 = (0, 4, 0) := by decide +kernel
theorem ly_51 : zlay 51 = (0, 4, 0) := by decide +kernel
theorem ly_52 : zlay 52 = (0, 4, 0) := by decide +kernel
theorem ly_53 : zlay 53 = (0, 4, 0) := by decide +kernel
theorem ly_54 : zlay 54 = (0, 4, 0) := by decide +kernel
theorem ly_55 : zlay 55 = (6, 4, 0) := by decide +kernel
theorem ly_56 : zlay 56 = (0, 120, 0) := by decide +kernel
theorem ly_57 : zlay 57 = (3, 16, 58) := by decide +kernel
theorem ly_58 : zlay 58 = (0, 4, 0) := by decide +kernel
theorem ly_59 : zlay 59 = (0, 4, 0) := by decide +kernel
theorem ly_60 : zlay 60 = (0, 4, 0) := by decide +kernel
theorem ly_61 : zlay 61 = (0, 4, 0) := by decide +kernel
theorem ly_62 : zlay 62 = (0, 4, 0) := by decide +kernel
theorem ly_63 : zlay 63 = (0, 4, 0) := by decide +kernel
theorem ly_64 : zlay 64 = (0, 4, 0) := by decide +kernel
theorem ly_65 : zlay 65 = (0, 4, 0) := by decide +kernel
theorem ly_66 : zlay 66 = (0, 4, 0) := by decide +kernel
theorem ly_67 : zlay 67 = (0, 4, 0) := by decide +kernel
theorem ly_68 : zlay 68 = (0, 4, 0) := by decide +kernel
theorem ly_69 : zlay 69 = (0, 4, 0) := by decide +kernel
theorem ly_70 : zlay 70 = (0, 4, 0) := by decide +kernel
theorem ly_71 : zlay 71 = (0, 4, 0) := by decide +kernel
theorem ly_72 : zlay 72 = (0, 4, 0) := by decide +kernel
theorem ly_73 : zlay 73 = (0, 4, 0) := by decide +kernel
theorem ly_74 : zlay 74 = (6, 6, 0) := by decide +kernel
theorem ly_75 : zlay 75 = (4, 16, 78) := by decide +kernel
theorem ly_76 : zlay 76 = (2, 128, 0) := by decide +kernel
theorem ly_77 : zlay 77 = (0, 7, 0) := by decide +kernel
theorem ly_78 : zlay 78 = (2, 7, 0) := by decide +kernel
theorem ly_79 : zlay 79 = (2, 7, 0) := by decide +kernel
theorem ly_80 : zlay 80 = (2, 7, 0) := by decide +kernel
theorem ly_81 : zlay 81 = (2, 7, 0) := by decide +kernel
theorem ly_82 : zlay 82 = (2, 7, 0) := by decide +kernel
theorem ly_83 : zlay 83 = (2, 7, 0) := by decide +kernel
theorem ly_84 : zlay 84 = (2, 7, 0) := by decide +kernel
theorem ly_85 : zlay 85 = (2, 7, 0) := by decide +kernel
theorem ly_86 : zlay 86 = (2, 7, 0) := by decide +kernel
theorem ly_87 : zlay 87 = (2, 7, 0) := by decide +kernel
theorem ly_88 : zlay 88 = (2, 7, 0) := by decide +kernel
theorem ly_89 : zlay 89 = (2, 7, 0) := by decide +kernel
theorem ly_90 : zlay 90 = (2, 7, 0) := by decide +kernel
theorem ly_91 : zlay 91 = (2, 7, 0) := by decide +kernel
theorem ly_92 : zlay 92 = (2, 7, 0) := by decide +kernel
theorem ly_93 : zlay 93 = (2, 7, 0) := by decide +kernel
theorem ly_94 : zlay 94 = (6, 5, 0) := by decide +kernel
theorem ly_95 : zlay 95 = (3, 42, 96) := by decide +kernel
theorem ly_96 : zlay 96 = (0, 42, 0) := by decide +kernel
theorem ly_97 : zlay 97 = (0, 42, 0) := by decide +kernel
theorem ly_98 : zlay 98 = (0, 42, 0) := by decide +kernel
theorem ly_99 : zlay 99 = (0, 42, 0) := by decide +kernel
theorem ly_100 : zlay 100 = (0, 42, 0) := by decide +kernel
theorem ly_101 : zlay 101 = (0, 42, 0) := by decide +kernel
theorem ly_102 : zlay 102 = (0, 42, 0) := by decide +kernel
theorem ly_103 : zlay 103 = (0, 42, 0) := by decide +kernel
theorem ly_104 : zlay 104 = (0, 42, 0) := by decide +kernel
theorem ly_105 : zlay 105 = (0, 42, 0) := by decide +kernel
theorem ly_106 : zlay 106 = (0, 42, 0) := by decide +kernel
theorem ly_107 : zlay 107 = (0, 42, 0) := by decide +kernel
theorem ly_108 : zlay 108 = (0, 42, 0) := by decide +kernel
theorem ly_109 : zlay 109 = (0, 42, 0) := by decide +kernel
theorem ly_110 : zlay 110 = (0, 42, 0) := by decide +kernel
theorem ly_111 : zlay 111 = (0, 42, 0) := by decide +kernel
theorem ly_112 : zlay 112 = (0, 42, 0) := by decide +kernel
theorem ly_113 : zlay 113 = (0, 42, 0) := by decide +kernel
theorem ly_114 : zlay 114 = (0, 42, 0) := by decide +kernel
theorem ly_115 : zlay 115 = (0, 42, 0) := by decide +kernel
theorem ly_116 : zlay 116 = (0, 42, 0) := by decide +kernel
theorem ly_117 : zlay 117 = (0, 42, 0) := by decide +kernel
theorem ly_118 : zlay 118 = (0, 42, 0) := by decide +kernel
theorem ly_119 : zlay 119 = (0, 42, 0) := by decide +kernel
theorem ly_120 : zlay 120 = (0, 42, 0) := by decide +kernel
theorem ly_121 : zlay 121 = (0, 42, 0) := by decide +kernel
theorem ly_122 : zlay 122 = (0, 42, 0) := by decide +kernel
theorem ly_123 : zlay 123 = (0, 42, 0) := by decide +kernel
theorem ly_124 : zlay 124 = (0, 42, 0) := by decide +kernel
theorem ly_125 : zlay 125 = (0, 42, 0) := by decide +kernel
theorem ly_126 : zlay 126 = (0, 42, 0) := by decide +kernel
theorem ly_127 : zlay 127 = (0, 42, 0) := by decide +kernel
theorem ly_128 : zlay 128 = (0, 42, 0) := by decide +kernel
theorem ly_129 : zlay 129 = (0, 42, 0) := by decide +kernel
theorem ly_130 : zlay 130 = (0, 42, 0) := by decide +kernel
theorem ly_131 : zlay 131 = (0, 42, 0) := by decide +kernel
theorem ly_132 : zlay 132 = (0, 42, 0) := by decide +kernel
theorem ly_133 : zlay 133 = (0, 42, 0) := by decide +kernel
theorem ly_134 : zlay 134 = (0, 42, 0) := by decide +kernel
theorem ly_135 : zlay 135 = (0, 42, 0) := by decide +kernel
theorem ly_136 : zlay 136 = (0, 42, 0) := by decide +kernel
theorem ly_137 : zlay 137 = (0, 42, 0) := by decide +kernel
theorem ly_138 : zlay 138 = (6, 0, 0) := by decide +kernel
theorem ly_139 : zlay 139 = (0, 6, 0) := by decide +kernel
theorem ly_140 : zlay 140 = (0, 64, 0) := by decide +kernel
theorem ly_141 : zlay 141 = (0, 6, 0) := by decide +kernel
theorem ly_142 : zlay 142 = (6, 2, 0) := by decide +kernel
theorem ly_143 : zlay 143 = (3, 14, 148) := by decide +kernel
theorem ly_144 : zlay 144 = (3, 14, 162) := by decide +kernel
theorem ly_145 : zlay 145 = (0, 7, 0) := by decide +kernel
theorem ly_146 : zlay 146 = (0, 7, 0) := by decide +kernel
theorem ly_147 : zlay 147 = (0, 7, 0) := by decide +kernel
theorem ly_148 : zlay 148 = (0, 7, 0) := by decide +kernel
theorem ly_149 : zlay 149 = (0, 7, 0) := by decide +kernel
theorem ly_150 : zlay 150 = (0, 7, 0) := by decide +kernel
theorem ly_151 : zlay 151 = (0, 7, 0) := by decide +kernel
theorem ly_152 : zlay 152 = (0, 7, 0) := by decide +kernel
theorem ly_153 : zlay 153 = (0, 7, 0) := by decide +kernel
theorem ly_154 : zlay 154 = (0, 7, 0) := by decide +kernel
theorem ly_155 : zlay 155 = (0, 7, 0) := by decide +kernel
theorem ly_156 : zlay 156 = (0, 7, 0) := by decide +kernel
theorem ly_157 : zlay 157 = (0, 7, 0) := by decide +kernel
theorem ly_158 : zlay 158 = (0, 7, 0) := by decide +kernel
theorem ly_159 : zlay 159 = (0, 7, 0) := by decide +kernel
theorem ly_160 : zlay 160 = (0, 7, 0) := by decide +kernel
theorem ly_161 : zlay 161 = (0, 7, 0) := by decide +kernel
theorem ly_162 : zlay 162 = (0, 7, 0) := by decide +kernel
theorem ly_163 : zlay 163 = (0, 7, 0) := by decide +kernel
theorem ly_164 : zlay 164 = (0, 7, 0) := by decide +kernel
theorem ly_165 : zlay 165 = (0, 7, 0) := by decide +kernel
theorem ly_166 : zlay 166 = (0, 7, 0) := by decide +kernel
theorem ly_167 : zlay 167 = (0, 7, 0) := by decide +kernel
theorem ly_168 : zlay 168 = (0, 7, 0) := by decide +kernel
theorem ly_169 : zlay 169 = (0, 7, 0) := by decide +kernel
theorem ly_170 : zlay 170 = (0, 7, 0) := by decide +kernel
theorem ly_171 : zlay 171 = (0, 7, 0) := by decide +kernel
theorem ly_172 : zlay 172 = (0, 7, 0) := by decide +kernel
theorem ly_173 : zlay 173 = (0, 7, 0) := by decide +kernel
theorem ly_174 : zlay 174 = (0, 7, 0) := by decide +kernel
theorem ly_175 : zlay 175 = (0, 7, 0) := by decide +kernel
theorem ly_176 : zlay 176 = (5, 4, 177) := by decide +kernel
theorem ly_177 : zlay 177 = (6, 3, 0) := by decide +kernel
theorem ly_178 : zlay 178 = (6, 3, 0) := by decide +kernel
theorem ly_179 : zlay 179 = (6, 3, 0) := by decide +kernel
theorem ly_180 : zlay 180 = (6, 3, 0) := by decide +kernel
theorem ly_181 : zlay 181 = (0, 100, 0) := by decide +kernel
theorem ly_182 : zlay 182 = (0, 100, 0) := by decide +kernel
theorem ly_183 : zlay 183 = (0, 100, 0) := by decide +kernel
theorem ly_184 : zlay 184 = (0, 100, 0) := by decide +kernel
theorem ly_200 : zlay 200 = (6, 8, 0) := by decide +kernel
theorem ly_201 : zlay 201 = (0, 28, 0) := by decide +kernel
theorem ly_202 : zlay 202 = (0, 64, 0) := by decide +kernel
theorem ly_205 : zlay 205 = (0, 2, 0) := by decide +kernel
theorem ly_206 : zlay 206 = (0, 120, 0) := by decide +kernel
theorem ly_210 : zlay 210 = (0, 64, 0) := by decide +kernel
theorem ly_211 : zlay 211 = (0, 16, 0) := by decide +kernel
theorem ly_213 : zlay 213 = (0, 112, 0) := by decide +kernel
theorem ly_214 : zlay 214 = (0, 65536, 0) := by decide +kernel
theorem ly_215 : zlay 215 = (0, 7, 0) := by decide +kernel
theorem ly_216 : zlay 216 = (1, 128, 0) := by decide +kernel
theorem ly_217 : zlay 217 = (1, 71, 0) := by decide +kernel
theorem ly_218 : zlay 218 = (0, 1681, 0) := by decide +kernel
theorem ly_220 : zlay 220 = (0, 94, 0) := by decide +kernel
theorem ly_223 : zlay 223 = (0, 4, 0) := by decide +kernel
theorem ly_224 : zlay 224 = (0, 4, 0) := by decide +kernel
theorem ly_225 : zlay 225 = (0, 400, 0) := by decide +kernel
theorem ly_226 : zlay 226 = (0, 100, 0) := by decide +kernel
theorem ly_227 : zlay 227 = (0, 7, 0) := by decide +kernel
theorem ly_228 : zlay 228 = (0, 7, 0) := by decide +kernel
theorem ly_229 : zlay 229 = (0, 98, 0) := by decide +kernel
theorem ly_230 : zlay 230 = (0, 7, 0) := by decide +kernel
theorem ly_231 : zlay 231 = (0, 7, 0) := by decide +kernel
theorem ly_232 : zlay 232 = (0, 7, 0) := by decide +kernel
theorem rf_0_0 : zrf 0 0 = 1 := by decide +kernel
theorem rf_0_1 : zrf 0 1 = 28 := by decide +kernel
theorem rf_0_3 : zrf 0 3 = 55 := by decide +kernel
theorem rf_0_4 : zrf 0 4 = 74 := by decide +kernel
theorem rf_0_5 : zrf 0 5 = 94 := by decide +kernel
theorem rf_0_6 : zrf 0 6 = 138 := by decide +kernel
theorem rf_0_7 : zrf 0 7 = 142 := by decide +kernel
theorem rf_0_8 : zrf 0 8 = 176 := by decide +kernel
theorem rf_1_0 : zrf 1 0 = 2 := by decide +kernel
theorem rf_1_1 : zrf 1 1 = 3 := by decide +kernel
theorem rf_1_2 : zrf 1 2 = 4 := by decide +kernel
theorem rf_28_0 : zrf 28 0 = 29 := by decide +kernel
theorem rf_28_1 : zrf 28 1 = 30 := by decide +kernel
theorem rf_28_2 : zrf 28 2 = 31 := by decide +kernel
theorem rf_55_0 : zrf 55 0 = 56 := by decide +kernel
theorem rf_55_1 : zrf 55 1 = 57 := by decide +kernel
theorem rf_74_0 : zrf 74 0 = 75 := by decide +kernel
theorem rf_74_1 : zrf 74 1 = 76 := by decide +kernel
theorem rf_74_2 : zrf 74 2 = 77 := by decide +kernel
theorem rf_94_0 : zrf 94 0 = 95 := by decide +kernel
theorem rf_138_0 : zrf 138 0 = 139 := by decide +kernel
theorem rf_138_1 : zrf 138 1 = 140 := by decide +kernel
theorem rf_138_2 : zrf 138 2 = 141 := by decide +kernel
theorem rf_142_1 : zrf 142 1 = 143 := by decide +kernel
theorem rf_142_2 : zrf 142 2 = 144 := by decide +kernel
theorem rf_142_3 : zrf 142 3 = 145 := by decide +kernel
theorem rf_142_4 : zrf 142 4 = 146 := by decide +kernel
theorem rf_142_5 : zrf 142 5 = 147 := by decide +kernel
theorem rf_177_0 : zrf 177 0 = 181 := by decide +kernel
theorem rf_178_0 : zrf 178 0 = 182 := by decide +kernel
theorem rf_179_0 : zrf 179 0 = 183 := by decide +kernel
theorem rf_180_0 : zrf 180 0 = 184 := by decide +kernel
theorem rf_200_0 : zrf 200 0 = 201 := by decide +kernel
theorem rf_200_1 : zrf 200 1 = 202 := by decide +kernel
theorem rf_200_4 : zrf 200 4 = 205 := by decide +kernel
theorem rf_200_5 : zrf 200 5 = 206 := by decide +kernel
theorem rf_200_9 : zrf 200 9 = 210 := by decide +kernel
theorem rf_200_10 : zrf 200 10 = 211 := by decide +kernel
theorem rf_200_12 : zrf 200 12 = 213 := by decide +kernel
theorem rf_200_13 : zrf 200 13 = 214 := by decide +kernel
theorem rf_200_14 : zrf 200 14 = 215 := by decide +kernel
theorem rf_200_15 : zrf 200 15 = 216 := by decide +kernel
theorem rf_200_16 : zrf 200 16 = 217 := by decide +kernel
theorem rf_200_17 : zrf 200 17 = 218 := by decide +kernel
theorem rf_200_19 : zrf 200 19 = 220 := by decide +kernel
theorem rf_200_22 : zrf 200 22 = 223 := by decide +kernel
theorem rf_200_23 : zrf 200 23 = 224 := by decide +kernel
theorem rf_200_24 : zrf 200 24 = 225 := by decide +kernel
theorem rf_200_25 : zrf 200 25 = 226 := by decide +kernel
theorem rf_200_26 : zrf 200 26 = 227 := by decide +kernel
theorem rf_200_27 : zrf 200 27 = 228 := by decide +kernel
theorem rf_200_28 : zrf 200 28 = 229 := by decide +kernel
theorem rf_200_29 : zrf 200 29 = 230 := by decide +kernel
theorem rf_200_30 : zrf 200 30 = 231 := by decide +kernel
theorem rf_200_31 : zrf 200 31 = 232 := by decide +kernel
theorem lf_bro {i : Int} (h : 0 ≤ i ∧ i < 7) : zlay (5 + i) = (0, 4, 0) := by
  obtain ⟨k, hk, rfl⟩ : ∃ k : Nat, k < 7 ∧ i = (k : Int) := ⟨i.toNat, by omega, by omega⟩
  revert k
  decide +kernel
theorem lf_sro {i : Int} (h : 0 ≤ i ∧ i < 16) : zlay (12 + i) = (0, 4, 0) := by
  obtain ⟨k, hk, rfl⟩ : ∃ k : Nat, k < 16 ∧ i = (k : Int) := ⟨i.toNat, by omega, by omega⟩
  revert k
  decide +kernel
theorem lf_kbro {i : Int} (h : 0 ≤ i ∧ i < 7) : zlay (32 + i) = (0, 4, 0) := by
  obtain ⟨k, hk, rfl⟩ : ∃ k : Nat, k < 7 ∧ i = (k : Int) := ⟨i.toNat, by omega, by omega⟩
  revert k
  decide +kernel
theorem lf_ksro {i : Int} (h : 0 ≤ i ∧ i < 16) : zlay (39 + i) = (0, 4, 0) := by
  obtain ⟨k, hk, rfl⟩ : ∃ k : Nat, k < 16 ∧ i = (k : Int) := ⟨i.toNat, by omega, by omega⟩
  revert k
  decide +kernel
theorem lf_tro {i : Int} (h : 0 ≤ i ∧ i < 16) : zlay (58 + i) = (0, 4, 0) := by
  obtain ⟨k, hk, rfl⟩ : ∃ k : Nat, k < 16 ∧ i = (k : Int) := ⟨i.toNat, by omega, by omega⟩
  revert k
  decide +kernel
theorem lf_pro {i : Int} (h : 0 ≤ i ∧ i < 16) : zlay (78 + i) = (2, 7, 0) := by
  obtain ⟨k, hk, rfl⟩ : ∃ k : Nat, k < 16 ∧ i = (k : Int) := ⟨i.toNat, by omega, by omega⟩
  revert k
  decide +kernel
theorem lf_fro {i : Int} (h : 0 ≤ i ∧ i < 42) : zlay (96 + i) = (0, 42, 0) := by
  obtain ⟨k, hk, rfl⟩ : ∃ k : Nat, k < 42 ∧ i = (k : Int) := ⟨i.toNat, by omega, by omega⟩
  revert k
  decide +kernel
theorem lf_lik {i : Int} (h : 0 ≤ i ∧ i < 14) : zlay (148 + i) = (0, 7, 0) := by
  obtain ⟨k, hk, rfl⟩ : ∃ k : Nat, k < 14 ∧ i = (k : Int) := ⟨i.toNat, by omega, by omega⟩
  revert k
  decide +kernel
theorem lf_pla {i : Int} (h : 0 ≤ i ∧ i < 14) : zlay (162 + i) = (0, 7, 0) := by
  obtain ⟨k, hk, rfl⟩ : ∃ k : Nat, k < 14 ∧ i = (k : Int) := ⟨i.toNat, by omega, by omega⟩
  revert k
  decide +kernel
theorem lf_she {i : Int} (h : 0 ≤ i ∧ i < 4) : zlay (177 + i) = (6, 3, 0) := by
  obtain ⟨k, hk, rfl⟩ : ∃ k : Nat, k < 4 ∧ i = (k : Int) := ⟨i.toNat, by omega, by omega⟩
  revert k
  decide +kernel
theorem lf_ite {i : Int} (h : 0 ≤ i ∧ i < 4) : zlay (181 + i) = (0, 100, 0) := by
  obtain ⟨k, hk, rfl⟩ : ∃ k : Nat, k < 4 ∧ i = (k : Int) := ⟨i.toNat, by omega, by omega⟩
  revert k
  decide +kernel
theorem rf_she {i : Int} (h : 0 ≤ i ∧ i < 4) : zrf (177 + i) 0 = 181 + i := by
  obtain ⟨k, hk, rfl⟩ : ∃ k : Nat, k < 4 ∧ i = (k : Int) := ⟨i.toNat, by omega, by omega⟩
  revert k
  decide +kernel
end
section
/-! values, memory, the heap that holds it, the judgement -/
abbrev zV : Type := Int ⊕ (Int ⊕ Int)
abbrev zi (x : Int) : zV := .inl x
abbrev zj (x : Int) : zV := .inr (.inl x)
abbrev zr (r : Int) : zV := .inr (.inr r)
abbrev zM : Type := Int → Int → Int
def zc (ad : Int → Nat) : zV → Value
  | .inl x => .int (Int32.ofInt x)
  | .inr (.inl x) => .long (Int64.ofInt x)
  | .inr (.inr r) => .ref (ad r)
/-- a launch's constants: launch, class numbers and slots, array classes by sort, the first cell of ours, the heap ahead of ours, the cells of the tables (regions 300 ..), their lengths, their contents -/
abbrev zG : Type := Launch × va_G × (Nat → ClassId) × Nat × Heap × (Int → Nat) × (Int → Nat) × (Int → Int → Int)
abbrev zGl (G : zG) : Launch := G.1
abbrev zGD (G : zG) : va_G := G.2.1
abbrev zGc (G : zG) : Nat → ClassId := G.2.2.1
abbrev zGn (G : zG) : Nat := G.2.2.2.1
abbrev zGh (G : zG) : Heap := G.2.2.2.2.1
abbrev zGa (G : zG) : Int → Nat := G.2.2.2.2.2.1
abbrev zGs (G : zG) : Int → Nat := G.2.2.2.2.2.2.1
abbrev zGt (G : zG) : Int → Int → Int := G.2.2.2.2.2.2.2
/-- where the regions lie, which there are, which reference places are set -/
abbrev zW : Type := (Int → Nat) × (Int → Bool) × (Int → Nat → Bool)
def zA (G : zG) : Nat → Prop := fun q => zGn G ≤ q
abbrev zcl : List vw_C := [(RX0, TX0, 3), (RX1, TX1, 5), (RX2, TX2, 6), (RX3, TX3, 4), (RX4, TX4, 4), (RX5, TX5, 2), (RX6, TX6, 4), (RX7, TX7, 9), (RX8, TX8, 32)]
def zty (t : Nat) : FieldType := match t with
  | 0 => .int
  | 1 => .boolean
  | 2 => .long
  | 3 => .array .int
  | 4 => .array .long
  | _ => .object RX3
abbrev ztys (G : zG) : List (ClassId × FieldType) := (List.range 6).map (fun t => (zGc G t, zty t))
def zfv (w : zW) (M : zM) (r : Int) (c k : Nat) : Value :=
  if zft c k = 0 then .int (Int32.ofInt (M r k)) else if zft c k = 1 then .long (Int64.ofInt (M r k)) else if w.2.2 r k = true then .ref (w.1 (zrf r k)) else .null
def zct (w : zW) (M : zM) (r : Int) (t : Nat) (b : Int) : (Nat → Int32) ⊕ (Nat → Int64) ⊕ (Nat → UInt32) ⊕ (Nat → UInt64) ⊕ (Nat → Option Nat) :=
  if t ≤ 1 then .inl (fun j => Int32.ofInt (M r j)) else if t = 2 then .inr (.inl (fun j => Int64.ofInt (M r j))) else .inr (.inr (.inr (.inr (fun j => if w.2.2 r j = true then some (w.1 (b + j)) else none))))
def zce (G : zG) (w : zW) (M : zM) (r : Int) : va_E :=
  if (zlay r).1 = 6 then .inr ((zlay r).2.1, (List.range (znf (zlay r).2.1)).map (fun k => zfv w M r (zlay r).2.1 k)) else .inl (zGc G (zlay r).1, (zlay r).2.1, zct w M r (zlay r).1 (zlay r).2.2)
def zlv (w : zW) (r : Int) : Prop := w.2.1 r = true ∧ (zlay r).1 ≤ 6
def zHo (G : zG) (w : zW) (M : zM) (H : Heap) : Prop :=
  zGn G ≤ H.size ∧ (∀ q, q < zGn G → H[q]? = (zGh G)[q]?) ∧ (∀ r, zlv w r → zGn G ≤ w.1 r ∧ va_at (zGD G) zcl (w.1 r, zce G w M r) H) ∧ (∀ r r', zlv w r → zlv w r' → w.1 r = w.1 r' → r = r') ∧ (∀ r, 300 ≤ r → w.1 r = zGa G r)
/-- the words that ride with every method -/
def zTb : List Cond := lw_tbl.filter goodWord
def zisN : Cond → Bool
  | .fieldLinkNest .. => true
  | .methodLinkNest .. => true
  | _ => false
def zNs : List Cond := tables_1.filter zisN
def zsn (k : Int) : String := if k = 300 then "BRIDE_LEAST" else if k = 301 then "BRIDE_MOST" else if k = 302 then "SHOE_LEAST" else if k = 303 then "SHOE_MOST" else if k = 304 then "GIVES" else "LET_OUT"
/-- the class's own tables: lengths, contents -/
def ztl (k : Int) : Nat := if k = 302 then 3 else if k = 303 then 3 else 4
def ztab (k : Int) (j : Int) : Int :=
  if k = 300 then ([20, 20, 0, 0] : List Int).getD j.toNat 0 else if k = 301 then ([60, 60, 4, 11] : List Int).getD j.toNat 0 else if k = 302 then ([0, 20, 0] : List Int).getD j.toNat 0 else
  if k = 303 then ([1, 70, 3] : List Int).getD j.toNat 0 else if k = 304 then ([0, 0, 1, 2] : List Int).getD j.toNat 0 else ([6, 0, 6, 1] : List Int).getD j.toNat 0
/-- what holds of the machine's tables at a state -/
def zKn (G : zG) (U : State) : Prop :=
  va_K (zGD G) zcl (ztys G) U ∧ (∀ k : Int, 300 ≤ k → k < 306 → va_Z RX7 (zsn k) "[I" (.ref (zGa G k)) (zA G) U (zGh G)) ∧
  (∀ k : Int, 300 ≤ k → k < 307 → va_T .int (zGa G k) (zGs G k) (fun j => .int (Int32.ofInt (zGt G k j))) (zA G) U (zGh G)) ∧ (∀ w ∈ zNs, va_Nw w U) ∧ zGn G ≤ (zGh G).size ∧ ∀ k : Int, 300 ≤ k → k < 306 → zGs G k = ztl k ∧ zGt G k = ztab k
theorem zKn_nest {w : Cond} (h : w ∈ zNs) {s U : State} (hW : s.WarmedH U.vm) (hZ : va_Nw w s) : va_Nw w U := by
  have h1 := (List.mem_filter.mp h).2
  cases w <;> first | (cases h1; done) | exact va_Nw.warmF hW hZ | exact va_Nw.warmM hW hZ
theorem zKn_warm {G : zG} {s U : State} (hW : s.WarmedH U.vm) (h : zKn G s) : zKn G U :=
  ⟨va_K.moved hW.alike h.1, fun k h1 h2 => va_Z.moved hW.alike (h.2.1 k h1 h2), fun k h1 h2 => va_T.moved hW.alike (h.2.2.1 k h1 h2), fun w hw => zKn_nest hw hW (h.2.2.2.1 w hw), h.2.2.2.2⟩
theorem zKn_same {G : zG} {s U : State} (e : U.vm = s.vm) (h : zKn G s) : zKn G U :=
  ⟨va_K.moved (by rw [e]; exact Vm.Alike.refl _) h.1, fun k h1 h2 => va_Z.moved (by rw [e]; exact Vm.Alike.refl _) (h.2.1 k h1 h2), fun k h1 h2 => va_T.moved (by rw [e]; exact Vm.Alike.refl _) (h.2.2.1 k h1 h2), fun w hw => by
    have h1 := (List.mem_filter.mp hw).2
    have h2 := h.2.2.2.1 w hw
    cases w <;> first | (cases h1; done) | exact va_Nw.same rfl e.symm h2, h.2.2.2.2⟩
theorem zc_i (ad : Int → Nat) (x : Int) : zc ad (zi x) = .int (Int32.ofInt x) := rfl
theorem zc_j (ad : Int → Nat) (x : Int) : zc ad (zj x) = .long (Int64.ofInt x) := rfl
theorem zc_r (ad : Int → Nat) (x : Int) : zc ad (zr x) = .ref (ad x) := rfl
/-! locals -/
abbrev zL : Type := List (Option zV)
def zll (ad : Int → Nat) (ls : zL) : List (Nat × Value) := (List.range ls.length).filterMap (fun i => match ls[i]? with
  | some (some v) => some (i, zc ad v)
  | _ => none)
theorem zll_mem {ad : Int → Nat} {ls : zL} {q : Nat × Value} : q ∈ zll ad ls ↔ ∃ v, ls[q.1]? = some (some v) ∧ q.2 = zc ad v := by
  unfold zll
  rw [List.mem_filterMap]
  constructor
  · rintro ⟨i, -, h⟩
    split at h
    · next v hv => cases h; exact ⟨v, hv, rfl⟩
    · cases h
  · rintro ⟨v, hv, e⟩
    refine ⟨q.1, List.mem_range.mpr (List.getElem?_eq_some_iff.mp hv).1, ?_⟩
    rw [hv]
    show some (q.1, zc ad v) = some q
    rw [← e]
def zlh (ad : Int → Nat) (cls : Array Slot) (nL : Nat) (ls : zL) : Prop := lv_has cls nL (zll ad ls)
theorem zlh_get {ad : Int → Nat} {cls : Array Slot} {nL : Nat} {ls : zL} (h : zlh ad cls nL ls) {i : Nat} {v : zV} (hv : ls[i]? = some (some v)) : cls[i]? = some (.val (zc ad v)) :=
  h.2.2 (i, zc ad v) (zll_mem.mpr ⟨v, hv, rfl⟩)
theorem zlh_sub {ad : Int → Nat} {cls : Array Slot} {nL : Nat} {l : List (Nat × Value)} {ls : zL} (h : lv_has cls nL l) (hs : ∀ (i : Nat) (v : zV), ls[i]? = some (some v) → (i, zc ad v) ∈ l) : zlh ad cls nL ls :=
  ⟨h.1, h.2.1, fun q hq => by
    obtain ⟨v, hv, e⟩ := zll_mem.mp hq
    have := h.2.2 (q.1, zc ad v) (hs q.1 v hv)
    rw [← e] at this
    exact this⟩
def zlong : Option zV → Bool
  | some (.inr (.inl _)) => true
  | _ => false
theorem zc_cat (ad : Int → Nat) (v : zV) : (zc ad v).category = if zlong (some v) = true then 2 else 1 := by
  rcases v with x | x | x <;> rfl
/-- storing at i a value of one word, where no long stands ahead -/
theorem zlh_set1 {ad : Int → Nat} {cls : Array Slot} {nL : Nat} {ls : zL} {i : Nat} {v : zV} (h : zlh ad cls nL ls) (hi : i < nL) (h1 : zlong (some v) = false) (h2 : ∀ j : Nat, j + 1 = i → zlong ((ls[j]?).getD none) = false) :
    ∃ cls', storeLocals cls i (zc ad v) = some cls' ∧ zlh ad cls' nL (ls.set i (some v)) := by
  obtain ⟨cls', e, h'⟩ := lv_store1 (v := zc ad v) h hi (by rw [zc_cat, h1]; rfl)
  refine ⟨cls', e, zlh_sub h' fun j u hu => ?_⟩
  by_cases hji : j = i
  · subst hji
    rw [List.getElem?_set_self'] at hu
    cases hl : ls[j]? with
    | none => rw [hl] at hu; simp at hu
    | some y =>
      rw [hl] at hu
      simp at hu
      subst hu
      exact List.mem_cons_self
  · rw [List.getElem?_set_ne (fun q => hji q.symm)] at hu
    refine List.mem_cons_of_mem _ (List.mem_filter.mpr ⟨zll_mem.mpr ⟨u, hu, rfl⟩, ?_⟩)
    by_cases hj1 : j + 1 = i
    · have := h2 j hj1
      rw [hu] at this
      have h3 : (zc ad u).category = 1 := by rw [zc_cat]; simp at this; simp [this]
      simp [hji, h3]
    · simp [hji, hj1]
/-- a long at i and i + 1 -/
theorem zlh_set2 {ad : Int → Nat} {cls : Array Slot} {nL : Nat} {ls : zL} {i : Nat} {x : Int} (h : zlh ad cls nL ls) (hi : i + 1 < nL) (h2 : ∀ j : Nat, j + 1 = i → zlong ((ls[j]?).getD none) = false) :
    ∃ cls', storeLocals cls i (zc ad (zj x)) = some cls' ∧ zlh ad cls' nL ((ls.set i (some (zj x))).set (i + 1) none) := by
  obtain ⟨cls', e, h'⟩ := lv_store2 (v := zc ad (zj x)) h hi rfl
  refine ⟨cls', e, zlh_sub h' fun j u hu => ?_⟩
  by_cases hj2 : j = i + 1
  · subst hj2
    rw [List.getElem?_set_self'] at hu
    simp at hu
  · rw [List.getElem?_set_ne (fun q => hj2 q.symm)] at hu
    by_cases hji : j = i
    · subst hji
      rw [List.getElem?_set_self'] at hu
      cases hl : ls[j]? with
      | none => rw [hl] at hu; simp at hu
      | some y =>
        rw [hl] at hu
        simp at hu
        subst hu
        exact List.mem_cons_self
    · rw [List.getElem?_set_ne (fun q => hji q.symm)] at hu
      refine List.mem_cons_of_mem _ (List.mem_filter.mpr ⟨zll_mem.mpr ⟨u, hu, rfl⟩, ?_⟩)
      by_cases hj1 : j + 1 = i
      · have := h2 j hj1
        rw [hu] at this
        have h3 : (zc ad u).category = 1 := by rw [zc_cat]; simp at this; simp [this]
        simp [hji, hj2, h3]
      · simp [hji, hj1, hj2]
/-! the judgement -/
abbrev zF : Type := Program × Env × Room × State × MethodId × Array Value × List Frame × Method × Code × (State → Prop)
abbrev zFR (γ : zF) : Room := γ.2.2.1
abbrev zFs (γ : zF) : State := γ.2.2.2.1
abbrev zFm (γ : zF) : MethodId := γ.2.2.2.2.1
abbrev zFa (γ : zF) : Array Value := γ.2.2.2.2.2.1
abbrev zFt (γ : zF) : Method := γ.2.2.2.2.2.2.2.1
abbrev zFc (γ : zF) : Code := γ.2.2.2.2.2.2.2.2.1
abbrev zWW (G : zG) (γ : zF) (k : Nat × Nat) (H : Heap) (locs : List Loc) (g : JFrame) : Prop :=
  W γ.1 (zGl G) γ.2.1 (zFR γ) (zFs γ) (zFm γ) (zFa γ) γ.2.2.2.2.2.2.1 (zFt γ) (zFc γ) H locs k.1 k.2 γ.2.2.2.2.2.2.2.2.2 g
def zVV (G : zG) (γ : zF) (w : zW) (k : Nat × Nat) (pc : Nat) (ls : zL) (st : List zV) (M : zM) : Prop :=
  ∀ (H : Heap) (locs : List Loc) (cls : Array Slot), zHo G w M H → va_S (zA G) (zFs γ).heap H locs → zlh w.1 cls (zFc γ).maxLocals ls →
    zWW G γ k H locs (F0 (zFm γ) pc cls (st.map (zc w.1)))
/-- what holds all along a method's walk -/
def zOK (G : zG) (γ : zF) (own : String) (cc : ByteArray) (nL fr lo : Nat) : Prop :=
  γ.1.tables.exec = Jvm.exec ∧ (zFc γ).code = cc ∧ (zFc γ).maxLocals = nL ∧ (zFs γ).vm.findClass own = some (zFm γ).cls ∧ (∀ w ∈ zTb, w.before (zFa γ) (zFs γ) = true) ∧ zKn G (zFs γ) ∧ fr ≤ (zFR γ).frames ∧ lo ≤ (zFR γ).locals
end
section
/-! one lemma an opcode -/
theorem zlh_st1 {ad : Int → Nat} {cls' : Array Slot} {nL : Nat} {ls : zL} {i : Nat} {v : zV} (h' : lv_has cls' nL ((i, zc ad v) :: (zll ad ls).filter (fun q => !(q.1 == i) && !(q.1 + 1 == i && q.2.category == 2)))) (h2 : ∀ j : Nat, j + 1 = i → zlong ((ls[j]?).getD none) = false) : zlh ad cls' nL (ls.set i (some v)) := by
  refine zlh_sub h' fun j u hu => ?_
  by_cases hji : j = i
  · subst hji
    rw [List.getElem?_set_self'] at hu
    cases hl : ls[j]? with
    | none => rw [hl] at hu; simp at hu
    | some y =>
      rw [hl] at hu
      simp at hu
      subst hu
      exact List.mem_cons_self
  · rw [List.getElem?_set_ne (fun q => hji q.symm)] at hu
    refine List.mem_cons_of_mem _ (List.mem_filter.mpr ⟨zll_mem.mpr ⟨u, hu, rfl⟩, ?_⟩)
    by_cases hj1 : j + 1 = i
    · have := h2 j hj1
      rw [hu] at this
      have h3 : (zc ad u).category = 1 := by rw [zc_cat]; simp at this; simp [this]
      simp [hji, h3]
    · simp [hji, hj1]
theorem zlh_st2 {ad : Int → Nat} {cls' : Array Slot} {nL : Nat} {ls : zL} {i : Nat} {v : zV} (h' : lv_has cls' nL ((i, zc ad v) :: (zll ad ls).filter (fun q => !(q.1 == i) && (!(q.1 == i + 1) && !(q.1 + 1 == i && q.2.category == 2))))) (h2 : ∀ j : Nat, j + 1 = i → zlong ((ls[j]?).getD none) = false) : zlh ad cls' nL ((ls.set i (some v)).set (i + 1) none) := by
  refine zlh_sub h' fun j u hu => ?_
  by_cases hj2 : j = i + 1
  · subst hj2
    rw [List.getElem?_set_self'] at hu
    simp at hu
  · rw [List.getElem?_set_ne (fun q => hj2 q.symm)] at hu
    by_cases hji : j = i
    · subst hji
      rw [List.getElem?_set_self'] at hu
      cases hl : ls[j]? with
      | none => rw [hl] at hu; simp at hu
      | some y =>
        rw [hl] at hu
        simp at hu
        subst hu
        exact List.mem_cons_self
    · rw [List.getElem?_set_ne (fun q => hji q.symm)] at hu
      refine List.mem_cons_of_mem _ (List.mem_filter.mpr ⟨zll_mem.mpr ⟨u, hu, rfl⟩, ?_⟩)
      by_cases hj1 : j + 1 = i
      · have := h2 j hj1
        rw [hu] at this
        have h3 : (zc ad u).category = 1 := by rw [zc_cat]; simp at this; simp [this]
        simp [hji, hj2, h3]
      · simp [hji, hj1, hj2]
def zand (x y : Int) : Int := (Int32.ofInt x &&& Int32.ofInt y).toInt
def zor (x y : Int) : Int := (Int32.ofInt x ||| Int32.ofInt y).toInt
def zxor (x y : Int) : Int := (Int32.ofInt x ^^^ Int32.ofInt y).toInt
def zshl (x y : Int) : Int := (Int32.ofInt x <<< (Int32.ofInt y &&& 31)).toInt
def zshr (x y : Int) : Int := (Int32.ofInt x >>> (Int32.ofInt y &&& 31)).toInt
def zushr (x y : Int) : Int := (((Int32.ofInt x).toUInt32 >>> ((Int32.ofInt y).toUInt32 &&& Int32.toUInt32 31)).toInt32).toInt
def zandJ (x y : Int) : Int := (Int64.ofInt x &&& Int64.ofInt y).toInt
def zorJ (x y : Int) : Int := (Int64.ofInt x ||| Int64.ofInt y).toInt
def zshlJ (x y : Int) : Int := (Int64.ofInt x <<< ((Int32.ofInt y).toInt64 &&& 63)).toInt
def zshrJ (x y : Int) : Int := (Int64.ofInt x >>> ((Int32.ofInt y).toInt64 &&& 63)).toInt
def zushrJ (x y : Int) : Int := (((Int64.ofInt x).toUInt64 >>> ((Int32.ofInt y).toInt64.toUInt64 &&& Int64.toUInt64 63)).toInt64).toInt
def zi2b (x : Int) : Int := ((Int32.ofInt x).toInt8.toInt32).toInt
def zi2s (x : Int) : Int := ((Int32.ofInt x).toInt16.toInt32).toInt
def zcmp (x y : Int) : Int := if y < x then 1 else if x = y then 0 else -1
section ZOPS
variable {G : zG} {γ : zF} {w : zW} {k : Nat × Nat} {own : String} {cc : ByteArray} {nL fr lo pc n : Nat} {ls : zL} {st : List zV} {M : zM}
theorem v_iconst (ok : zOK G γ own cc nL fr lo) {c : Int} (hd : decode cc pc = .ok (.iconst c, 1)) (hn : pc + 1 = n) (kk : zVV G γ w k n ls (zi c :: st) M) : zVV G γ w k pc ls st M := by
  subst hn
  intro H locs cls h1 h2 h3
  exact lv_iconst ok.1 ok.2.1 hd rfl (kk H locs cls h1 h2 h3)
theorem v_bipush (ok : zOK G γ own cc nL fr lo) {c : Int} (hc : (Int8.ofInt c).toInt32 = Int32.ofInt c) (hd : decode cc pc = .ok (.bipush c, 2)) (hn : pc + 2 = n) (kk : zVV G γ w k n ls (zi c :: st) M) : zVV G γ w k pc ls st M := by
  subst hn
  intro H locs cls h1 h2 h3
  exact lv_bipush ok.1 ok.2.1 hd hc (kk H locs cls h1 h2 h3)
theorem v_sipush (ok : zOK G γ own cc nL fr lo) {c : Int} (hc : (Int16.ofInt c).toInt32 = Int32.ofInt c) (hd : decode cc pc = .ok (.sipush c, 3)) (hn : pc + 3 = n) (kk : zVV G γ w k n ls (zi c :: st) M) : zVV G γ w k pc ls st M := by
  subst hn
  intro H locs cls h1 h2 h3
  exact lv_sipush ok.1 ok.2.1 hd hc (kk H locs cls h1 h2 h3)
theorem v_lconst0 (ok : zOK G γ own cc nL fr lo) (hd : decode cc pc = .ok (.lconst 0, 1)) (hn : pc + 1 = n) (kk : zVV G γ w k n ls (zj 0 :: st) M) : zVV G γ w k pc ls st M := by
  subst hn
  intro H locs cls h1 h2 h3
  exact lv_lconst (v := Int64.ofInt 0) ok.1 ok.2.1 hd (by decide) (kk H locs cls h1 h2 h3)
theorem v_lconst1 (ok : zOK G γ own cc nL fr lo) (hd : decode cc pc = .ok (.lconst 1, 1)) (hn : pc + 1 = n) (kk : zVV G γ w k n ls (zj 1 :: st) M) : zVV G γ w k pc ls st M := by
  subst hn
  intro H locs cls h1 h2 h3
  exact lv_lconst (v := Int64.ofInt 1) ok.1 ok.2.1 hd (by decide) (kk H locs cls h1 h2 h3)
theorem v_ldc (ok : zOK G γ own cc nL fr lo) {i : Nat} {c : Int} {v : Int32} (hw : Cond.constant own i v ∈ zTb) (hv : Int32.ofInt c = v) (hd : decode cc pc = .ok (.ldc i, 2)) (hn : pc + 2 = n) (kk : zVV G γ w k n ls (zi c :: st) M) : zVV G γ w k pc ls st M := by
  subst hn
  intro H locs cls h1 h2 h3
  subst hv
  exact lv_ldc ok.1 ok.2.1 ok.2.2.2.1 (ok.2.2.2.2.1 _ hw) hd (kk H locs cls h1 h2 h3)
theorem v_ldcw (ok : zOK G γ own cc nL fr lo) {i : Nat} {c : Int} {v : Int32} (hw : Cond.constant own i v ∈ zTb) (hv : Int32.ofInt c = v) (hd : decode cc pc = .ok (.ldc_w i, 3)) (hn : pc + 3 = n) (kk : zVV G γ w k n ls (zi c :: st) M) : zVV G γ w k pc ls st M := by
  subst hn
  intro H locs cls h1 h2 h3
  subst hv
  exact lv_ldcw ok.1 ok.2.1 ok.2.2.2.1 (ok.2.2.2.2.1 _ hw) hd (kk H locs cls h1 h2 h3)
theorem v_ldc2 (ok : zOK G γ own cc nL fr lo) {i : Nat} {c : Int} {v : Int64} (hw : Cond.constantLong own i v ∈ zTb) (hv : Int64.ofInt c = v) (hd : decode cc pc = .ok (.ldc2_w i, 3)) (hn : pc + 3 = n) (kk : zVV G γ w k n ls (zj c :: st) M) : zVV G γ w k pc ls st M := by
  subst hn
  intro H locs cls h1 h2 h3
  subst hv
  exact lv_ldc2 ok.1 ok.2.1 ok.2.2.2.1 (ok.2.2.2.2.1 _ hw) hd (kk H locs cls h1 h2 h3)
theorem v_iadd (ok : zOK G γ own cc nL fr lo) {x y : Int} (hd : decode cc pc = .ok (.iadd, 1)) (hn : pc + 1 = n) (kk : zVV G γ w k n ls (zi (x + y) :: st) M) : zVV G γ w k pc ls (zi y :: zi x :: st) M := by
  subst hn
  intro H locs cls h1 h2 h3
  have h := kk H locs cls h1 h2 h3
  have e : zc w.1 (zi (x + y)) = .int (Int32.ofInt x + Int32.ofInt y) := congrArg Value.int (zn_add x y)
  rw [List.map_cons, e] at h
  exact lv_iadd ok.1 ok.2.1 hd h
theorem v_isub (ok : zOK G γ own cc nL fr lo) {x y : Int} (hd : decode cc pc = .ok (.isub, 1)) (hn : pc + 1 = n) (kk : zVV G γ w k n ls (zi (x - y) :: st) M) : zVV G γ w k pc ls (zi y :: zi x :: st) M := by
  subst hn
  intro H locs cls h1 h2 h3
  have h := kk H locs cls h1 h2 h3
  have e : zc w.1 (zi (x - y)) = .int (Int32.ofInt x - Int32.ofInt y) := congrArg Value.int (zn_sub x y)
  rw [List.map_cons, e] at h
  exact lv_isub ok.1 ok.2.1 hd h
theorem v_imul (ok : zOK G γ own cc nL fr lo) {x y : Int} (hd : decode cc pc = .ok (.imul, 1)) (hn : pc + 1 = n) (kk : zVV G γ w k n ls (zi (x * y) :: st) M) : zVV G γ w k pc ls (zi y :: zi x :: st) M := by
  subst hn
  intro H locs cls h1 h2 h3
  have h := kk H locs cls h1 h2 h3
  have e : zc w.1 (zi (x * y)) = .int (Int32.ofInt x * Int32.ofInt y) := congrArg Value.int (zn_mul x y)
  rw [List.map_cons, e] at h
  exact lv_imul ok.1 ok.2.1 hd h
theorem v_iand (ok : zOK G γ own cc nL fr lo) {x y : Int} (hd : decode cc pc = .ok (.iand, 1)) (hn : pc + 1 = n) (kk : zVV G γ w k n ls (zi (zand x y) :: st) M) : zVV G γ w k pc ls (zi y :: zi x :: st) M := by
  subst hn
  intro H locs cls h1 h2 h3
  have h := kk H locs cls h1 h2 h3
  have e : zc w.1 (zi (zand x y)) = .int (Int32.ofInt x &&& Int32.ofInt y) := congrArg Value.int (zn_self _)
  rw [List.map_cons, e] at h
  exact lv_iand ok.1 ok.2.1 hd h
theorem v_ior (ok : zOK G γ own cc nL fr lo) {x y : Int} (hd : decode cc pc = .ok (.ior, 1)) (hn : pc + 1 = n) (kk : zVV G γ w k n ls (zi (zor x y) :: st) M) : zVV G γ w k pc ls (zi y :: zi x :: st) M := by
  subst hn
  intro H locs cls h1 h2 h3
  have h := kk H locs cls h1 h2 h3
  have e : zc w.1 (zi (zor x y)) = .int (Int32.ofInt x ||| Int32.ofInt y) := congrArg Value.int (zn_self _)
  rw [List.map_cons, e] at h
  exact lv_ior ok.1 ok.2.1 hd h
theorem v_ixor (ok : zOK G γ own cc nL fr lo) {x y : Int} (hd : decode cc pc = .ok (.ixor, 1)) (hn : pc + 1 = n) (kk : zVV G γ w k n ls (zi (zxor x y) :: st) M) : zVV G γ w k pc ls (zi y :: zi x :: st) M := by
  subst hn
  intro H locs cls h1 h2 h3
  have h := kk H locs cls h1 h2 h3
  have e : zc w.1 (zi (zxor x y)) = .int (Int32.ofInt x ^^^ Int32.ofInt y) := congrArg Value.int (zn_self _)
  rw [List.map_cons, e] at h
  exact lv_ixor ok.1 ok.2.1 hd h
theorem v_ishl (ok : zOK G γ own cc nL fr lo) {x y : Int} (hd : decode cc pc = .ok (.ishl, 1)) (hn : pc + 1 = n) (kk : zVV G γ w k n ls (zi (zshl x y) :: st) M) : zVV G γ w k pc ls (zi y :: zi x :: st) M := by
  subst hn
  intro H locs cls h1 h2 h3
  have h := kk H locs cls h1 h2 h3
  have e : zc w.1 (zi (zshl x y)) = .int (Int32.ofInt x <<< (Int32.ofInt y &&& 31)) := congrArg Value.int (zn_self _)
  rw [List.map_cons, e] at h
  exact lv_ishl ok.1 ok.2.1 hd h
theorem v_ishr (ok : zOK G γ own cc nL fr lo) {x y : Int} (hd : decode cc pc = .ok (.ishr, 1)) (hn : pc + 1 = n) (kk : zVV G γ w k n ls (zi (zshr x y) :: st) M) : zVV G γ w k pc ls (zi y :: zi x :: st) M := by
  subst hn
  intro H locs cls h1 h2 h3
  have h := kk H locs cls h1 h2 h3
  have e : zc w.1 (zi (zshr x y)) = .int (Int32.ofInt x >>> (Int32.ofInt y &&& 31)) := congrArg Value.int (zn_self _)
  rw [List.map_cons, e] at h
  exact lv_ishr ok.1 ok.2.1 hd h
theorem v_iushr (ok : zOK G γ own cc nL fr lo) {x y : Int} (hd : decode cc pc = .ok (.iushr, 1)) (hn : pc + 1 = n) (kk : zVV G γ w k n ls (zi (zushr x y) :: st) M) : zVV G γ w k pc ls (zi y :: zi x :: st) M := by
  subst hn
  intro H locs cls h1 h2 h3
  have h := kk H locs cls h1 h2 h3
  exact lv_iushr ok.1 ok.2.1 hd (v := Int32.ofInt (zushr x y)) (zn_self _).symm h
theorem v_idiv (ok : zOK G γ own cc nL fr lo) {x d : Int} (hx : 0 ≤ x ∧ x ≤ 2147483647) (hdd : 0 < d ∧ d ≤ 2147483647) (hd : decode cc pc = .ok (.idiv, 1)) (hn : pc + 1 = n) (kk : zVV G γ w k n ls (zi (x / d) :: st) M) : zVV G γ w k pc ls (zi d :: zi x :: st) M := by
  subst hn
  intro H locs cls h1 h2 h3
  have h := kk H locs cls h1 h2 h3
  have e : zc w.1 (zi (x / d)) = .int (Int32.ofInt x / Int32.ofInt d) := congrArg Value.int (zn_div hx hdd).symm
  rw [List.map_cons, e] at h
  exact lv_idiv ok.1 ok.2.1 hd (zn_nz hdd) h
theorem v_ladd (ok : zOK G γ own cc nL fr lo) {x y : Int} (hd : decode cc pc = .ok (.ladd, 1)) (hn : pc + 1 = n) (kk : zVV G γ w k n ls (zj (x + y) :: st) M) : zVV G γ w k pc ls (zj y :: zj x :: st) M := by
  subst hn
  intro H locs cls h1 h2 h3
  have h := kk H locs cls h1 h2 h3
  have e : zc w.1 (zj (x + y)) = .long (Int64.ofInt x + Int64.ofInt y) := congrArg Value.long (zn_addJ x y)
  rw [List.map_cons, e] at h
  exact lv_ladd ok.1 ok.2.1 hd h
theorem v_lsub (ok : zOK G γ own cc nL fr lo) {x y : Int} (hd : decode cc pc = .ok (.lsub, 1)) (hn : pc + 1 = n) (kk : zVV G γ w k n ls (zj (x - y) :: st) M) : zVV G γ w k pc ls (zj y :: zj x :: st) M := by
  subst hn
  intro H locs cls h1 h2 h3
  have h := kk H locs cls h1 h2 h3
  have e : zc w.1 (zj (x - y)) = .long (Int64.ofInt x - Int64.ofInt y) := congrArg Value.long (zn_subJ x y)
  rw [List.map_cons, e] at h
  exact lv_lsub ok.1 ok.2.1 hd h
theorem v_land (ok : zOK G γ own cc nL fr lo) {x y : Int} (hd : decode cc pc = .ok (.land, 1)) (hn : pc + 1 = n) (kk : zVV G γ w k n ls (zj (zandJ x y) :: st) M) : zVV G γ w k pc ls (zj y :: zj x :: st) M := by
  subst hn
  intro H locs cls h1 h2 h3
  have h := kk H locs cls h1 h2 h3
  have e : zc w.1 (zj (zandJ x y)) = .long (Int64.ofInt x &&& Int64.ofInt y) := congrArg Value.long (zn_selfJ _)
  rw [List.map_cons, e] at h
  exact lv_land ok.1 ok.2.1 hd h
theorem v_lor (ok : zOK G γ own cc nL fr lo) {x y : Int} (hd : decode cc pc = .ok (.lor, 1)) (hn : pc + 1 = n) (kk : zVV G γ w k n ls (zj (zorJ x y) :: st) M) : zVV G γ w k pc ls (zj y :: zj x :: st) M := by
  subst hn
  intro H locs cls h1 h2 h3
  have h := kk H locs cls h1 h2 h3
  have e : zc w.1 (zj (zorJ x y)) = .long (Int64.ofInt x ||| Int64.ofInt y) := congrArg Value.long (zn_selfJ _)
  rw [List.map_cons, e] at h
  exact lv_lor ok.1 ok.2.1 hd h
theorem v_lshl (ok : zOK G γ own cc nL fr lo) {x y : Int} (hd : decode cc pc = .ok (.lshl, 1)) (hn : pc + 1 = n) (kk : zVV G γ w k n ls (zj (zshlJ x y) :: st) M) : zVV G γ w k pc ls (zi y :: zj x :: st) M := by
  subst hn
  intro H locs cls h1 h2 h3
  have h := kk H locs cls h1 h2 h3
  exact lv_lshl ok.1 ok.2.1 hd (v := Int64.ofInt (zshlJ x y)) (zn_selfJ _).symm h
theorem v_lshr (ok : zOK G γ own cc nL fr lo) {x y : Int} (hd : decode cc pc = .ok (.lshr, 1)) (hn : pc + 1 = n) (kk : zVV G γ w k n ls (zj (zshrJ x y) :: st) M) : zVV G γ w k pc ls (zi y :: zj x :: st) M := by
  subst hn
  intro H locs cls h1 h2 h3
  have h := kk H locs cls h1 h2 h3
  exact lv_lshr ok.1 ok.2.1 hd (v := Int64.ofInt (zshrJ x y)) (zn_selfJ _).symm h
theorem v_lushr (ok : zOK G γ own cc nL fr lo) {x y : Int} (hd : decode cc pc = .ok (.lushr, 1)) (hn : pc + 1 = n) (kk : zVV G γ w k n ls (zj (zushrJ x y) :: st) M) : zVV G γ w k pc ls (zi y :: zj x :: st) M := by
  subst hn
  intro H locs cls h1 h2 h3
  have h := kk H locs cls h1 h2 h3
  exact lv_lushr ok.1 ok.2.1 hd (v := Int64.ofInt (zushrJ x y)) (zn_selfJ _).symm h
theorem v_i2l (ok : zOK G γ own cc nL fr lo) {x : Int} (hx : -2147483648 ≤ x ∧ x ≤ 2147483647) (hd : decode cc pc = .ok (.i2l, 1)) (hn : pc + 1 = n) (kk : zVV G γ w k n ls (zj x :: st) M) : zVV G γ w k pc ls (zi x :: st) M := by
  subst hn
  intro H locs cls h1 h2 h3
  exact lv_i2l ok.1 ok.2.1 hd (zn_i2l hx) (kk H locs cls h1 h2 h3)
theorem v_l2i (ok : zOK G γ own cc nL fr lo) {x : Int} (hd : decode cc pc = .ok (.l2i, 1)) (hn : pc + 1 = n) (kk : zVV G γ w k n ls (zi x :: st) M) : zVV G γ w k pc ls (zj x :: st) M := by
  subst hn
  intro H locs cls h1 h2 h3
  exact lv_l2i ok.1 ok.2.1 hd (zn_l2i x) (kk H locs cls h1 h2 h3)
theorem v_i2b (ok : zOK G γ own cc nL fr lo) {x : Int} (hd : decode cc pc = .ok (.i2b, 1)) (hn : pc + 1 = n) (kk : zVV G γ w k n ls (zi (zi2b x) :: st) M) : zVV G γ w k pc ls (zi x :: st) M := by
  subst hn
  intro H locs cls h1 h2 h3
  exact lv_i2b ok.1 ok.2.1 hd (v := Int32.ofInt (zi2b x)) (zn_self _).symm (kk H locs cls h1 h2 h3)
theorem v_i2s (ok : zOK G γ own cc nL fr lo) {x : Int} (hd : decode cc pc = .ok (.i2s, 1)) (hn : pc + 1 = n) (kk : zVV G γ w k n ls (zi (zi2s x) :: st) M) : zVV G γ w k pc ls (zi x :: st) M := by
  subst hn
  intro H locs cls h1 h2 h3
  exact lv_i2s ok.1 ok.2.1 hd (v := Int32.ofInt (zi2s x)) (zn_self _).symm (kk H locs cls h1 h2 h3)
theorem v_lcmp (ok : zOK G γ own cc nL fr lo) {x y : Int} (hx : -9223372036854775808 ≤ x ∧ x ≤ 9223372036854775807) (hy : -9223372036854775808 ≤ y ∧ y ≤ 9223372036854775807) (hd : decode cc pc = .ok (.lcmp, 1)) (hn : pc + 1 = n) (kk : zVV G γ w k n ls (zi (zcmp x y) :: st) M) : zVV G γ w k pc ls (zj y :: zj x :: st) M := by
  subst hn
  intro H locs cls h1 h2 h3
  have h := kk H locs cls h1 h2 h3
  have e : zc w.1 (zi (zcmp x y)) = .int (lg_cmp (Int64.ofInt x) (Int64.ofInt y)) := by
    refine congrArg Value.int ?_
    unfold zcmp lg_cmp
    by_cases c1 : y < x
    · rw [if_pos c1, if_pos (show Int64.ofInt x > Int64.ofInt y from (zn_ltJ hy hx).mpr c1)]
      rfl
    · rw [if_neg c1, if_neg (show ¬ Int64.ofInt x > Int64.ofInt y from fun z => c1 ((zn_ltJ hy hx).mp z))]
      by_cases c2 : x = y
      · rw [if_pos c2, if_pos ((zn_eqJ hx hy).mpr c2)]
        rfl
      · rw [if_neg c2, if_neg (fun z => c2 ((zn_eqJ hx hy).mp z))]
        rfl
  rw [List.map_cons, e] at h
  exact W.lcmp ok.1 ok.2.1 hd h
theorem v_dup (ok : zOK G γ own cc nL fr lo) {a : zV} (ha : zlong (some a) = false) (hd : decode cc pc = .ok (.dup, 1)) (hn : pc + 1 = n) (kk : zVV G γ w k n ls (a :: a :: st) M) : zVV G γ w k pc ls (a :: st) M := by
  subst hn
  intro H locs cls h1 h2 h3
  exact lv_dup ok.1 ok.2.1 hd (by rw [zc_cat, ha]; rfl) (kk H locs cls h1 h2 h3)
theorem v_pop (ok : zOK G γ own cc nL fr lo) {a : zV} (ha : zlong (some a) = false) (hd : decode cc pc = .ok (.pop, 1)) (hn : pc + 1 = n) (kk : zVV G γ w k n ls st M) : zVV G γ w k pc ls (a :: st) M := by
  subst hn
  intro H locs cls h1 h2 h3
  exact lv_pop ok.1 ok.2.1 hd (by rw [zc_cat, ha]; rfl) (kk H locs cls h1 h2 h3)
theorem v_dup_x1 (ok : zOK G γ own cc nL fr lo) {a b : zV} (ha : zlong (some a) = false) (hb : zlong (some b) = false) (hd : decode cc pc = .ok (.dup_x1, 1)) (hn : pc + 1 = n) (kk : zVV G γ w k n ls (a :: b :: a :: st) M) : zVV G γ w k pc ls (a :: b :: st) M := by
  subst hn
  intro H locs cls h1 h2 h3
  exact lv_dup_x1 ok.1 ok.2.1 hd (by rw [zc_cat, ha]; rfl) (by rw [zc_cat, hb]; rfl) (kk H locs cls h1 h2 h3)
theorem v_dup2 (ok : zOK G γ own cc nL fr lo) {a b : zV} (ha : zlong (some a) = false) (hb : zlong (some b) = false) (hd : decode cc pc = .ok (.dup2, 1)) (hn : pc + 1 = n) (kk : zVV G γ w k n ls (a :: b :: a :: b :: st) M) : zVV G γ w k pc ls (a :: b :: st) M := by
  subst hn
  intro H locs cls h1 h2 h3
  exact lv_dup2_11 ok.1 ok.2.1 hd (by rw [zc_cat, ha]; rfl) (by rw [zc_cat, hb]; rfl) (kk H locs cls h1 h2 h3)
theorem v_if_eq (ok : zOK G γ own cc nL fr lo) {x : Int} {off : Int} {tgt : Nat} (hd : decode cc pc = .ok (.ifCond .eq off, 3)) (ht : (pc : Int) + off = (tgt : Int)) (hn : pc + 3 = n) (hx : -2147483648 ≤ x ∧ x ≤ 2147483647) (kt : x = 0 → zVV G γ w k tgt ls st M) (kf : x ≠ 0 → zVV G γ w k n ls st M) : zVV G γ w k pc ls (zi x :: st) M := by
  subst hn
  intro H locs cls h1 h2 h3
  have e : Int32.ofInt x = 0 ↔ x = 0 := by rw [zn_z]; exact zn_eq hx (by omega)
  refine lv_if_eq ok.1 ok.2.1 hd ht (fun q => kt (by first | exact e.mp q | exact fun z => q (e.mpr z) | omega) H locs cls h1 h2 h3) (fun q => kf (by first | exact e.mp q | exact fun z => q (e.mpr z) | (have q2 : ¬ _ := fun z => q (e.mpr z); omega) | (have q2 := Classical.byContradiction (fun z => q (fun y => z (e.mp y))); exact q2)) H locs cls h1 h2 h3)
theorem v_if_ne (ok : zOK G γ own cc nL fr lo) {x : Int} {off : Int} {tgt : Nat} (hd : decode cc pc = .ok (.ifCond .ne off, 3)) (ht : (pc : Int) + off = (tgt : Int)) (hn : pc + 3 = n) (hx : -2147483648 ≤ x ∧ x ≤ 2147483647) (kt : x ≠ 0 → zVV G γ w k tgt ls st M) (kf : x = 0 → zVV G γ w k n ls st M) : zVV G γ w k pc ls (zi x :: st) M := by
  subst hn
  intro H locs cls h1 h2 h3
  have e : Int32.ofInt x = 0 ↔ x = 0 := by rw [zn_z]; exact zn_eq hx (by omega)
  refine lv_if_ne ok.1 ok.2.1 hd ht (fun q => kt (by first | exact e.mp q | exact fun z => q (e.mpr z) | omega) H locs cls h1 h2 h3) (fun q => kf (by first | exact e.mp q | exact fun z => q (e.mpr z) | (have q2 : ¬ _ := fun z => q (e.mpr z); omega) | (have q2 := Classical.byContradiction (fun z => q (fun y => z (e.mp y))); exact q2)) H locs cls h1 h2 h3)
theorem v_if_lt (ok : zOK G γ own cc nL fr lo) {x : Int} {off : Int} {tgt : Nat} (hd : decode cc pc = .ok (.ifCond .lt off, 3)) (ht : (pc : Int) + off = (tgt : Int)) (hn : pc + 3 = n) (hx : -2147483648 ≤ x ∧ x ≤ 2147483647) (kt : x < 0 → zVV G γ w k tgt ls st M) (kf : 0 ≤ x → zVV G γ w k n ls st M) : zVV G γ w k pc ls (zi x :: st) M := by
  subst hn
  intro H locs cls h1 h2 h3
  have e : Int32.ofInt x < 0 ↔ x < 0 := by rw [zn_z]; exact zn_lt hx (by omega)
  refine lv_if_lt ok.1 ok.2.1 hd ht (fun q => kt (by first | exact e.mp q | exact fun z => q (e.mpr z) | omega) H locs cls h1 h2 h3) (fun q => kf (by first | exact e.mp q | exact fun z => q (e.mpr z) | (have q2 : ¬ _ := fun z => q (e.mpr z); omega) | (have q2 := Classical.byContradiction (fun z => q (fun y => z (e.mp y))); exact q2)) H locs cls h1 h2 h3)
theorem v_if_ge (ok : zOK G γ own cc nL fr lo) {x : Int} {off : Int} {tgt : Nat} (hd : decode cc pc = .ok (.ifCond .ge off, 3)) (ht : (pc : Int) + off = (tgt : Int)) (hn : pc + 3 = n) (hx : -2147483648 ≤ x ∧ x ≤ 2147483647) (kt : 0 ≤ x → zVV G γ w k tgt ls st M) (kf : x < 0 → zVV G γ w k n ls st M) : zVV G γ w k pc ls (zi x :: st) M := by
  subst hn
  intro H locs cls h1 h2 h3
  have e : 0 ≤ Int32.ofInt x ↔ 0 ≤ x := by rw [zn_z]; exact zn_le (by omega) hx
  refine lv_if_ge ok.1 ok.2.1 hd ht (fun q => kt (by first | exact e.mp q | exact fun z => q (e.mpr z) | omega) H locs cls h1 h2 h3) (fun q => kf (by first | exact e.mp q | exact fun z => q (e.mpr z) | (have q2 : ¬ _ := fun z => q (e.mpr z); omega) | (have q2 := Classical.byContradiction (fun z => q (fun y => z (e.mp y))); exact q2)) H locs cls h1 h2 h3)
theorem v_if_gt (ok : zOK G γ own cc nL fr lo) {x : Int} {off : Int} {tgt : Nat} (hd : decode cc pc = .ok (.ifCond .gt off, 3)) (ht : (pc : Int) + off = (tgt : Int)) (hn : pc + 3 = n) (hx : -2147483648 ≤ x ∧ x ≤ 2147483647) (kt : 0 < x → zVV G γ w k tgt ls st M) (kf : x ≤ 0 → zVV G γ w k n ls st M) : zVV G γ w k pc ls (zi x :: st) M := by
  subst hn
  intro H locs cls h1 h2 h3
  have e : 0 < Int32.ofInt x ↔ 0 < x := by rw [zn_z]; exact zn_lt (by omega) hx
  refine lv_if_gt ok.1 ok.2.1 hd ht (fun q => kt (by first | exact e.mp q | exact fun z => q (e.mpr z) | omega) H locs cls h1 h2 h3) (fun q => kf (by first | exact e.mp q | exact fun z => q (e.mpr z) | (have q2 : ¬ _ := fun z => q (e.mpr z); omega) | (have q2 := Classical.byContradiction (fun z => q (fun y => z (e.mp y))); exact q2)) H locs cls h1 h2 h3)
theorem v_if_le (ok : zOK G γ own cc nL fr lo) {x : Int} {off : Int} {tgt : Nat} (hd : decode cc pc = .ok (.ifCond .le off, 3)) (ht : (pc : Int) + off = (tgt : Int)) (hn : pc + 3 = n) (hx : -2147483648 ≤ x ∧ x ≤ 2147483647) (kt : x ≤ 0 → zVV G γ w k tgt ls st M) (kf : 0 < x → zVV G γ w k n ls st M) : zVV G γ w k pc ls (zi x :: st) M := by
  subst hn
  intro H locs cls h1 h2 h3
  have e : Int32.ofInt x ≤ 0 ↔ x ≤ 0 := by rw [zn_z]; exact zn_le hx (by omega)
  refine lv_if_le ok.1 ok.2.1 hd ht (fun q => kt (by first | exact e.mp q | exact fun z => q (e.mpr z) | omega) H locs cls h1 h2 h3) (fun q => kf (by first | exact e.mp q | exact fun z => q (e.mpr z) | (have q2 : ¬ _ := fun z => q (e.mpr z); omega) | (have q2 := Classical.byContradiction (fun z => q (fun y => z (e.mp y))); exact q2)) H locs cls h1 h2 h3)
theorem v_icmp_eq (ok : zOK G γ own cc nL fr lo) {x y : Int} {off : Int} {tgt : Nat} (hd : decode cc pc = .ok (.if_icmp .eq off, 3)) (ht : (pc : Int) + off = (tgt : Int)) (hn : pc + 3 = n) (hx : -2147483648 ≤ x ∧ x ≤ 2147483647) (hy : -2147483648 ≤ y ∧ y ≤ 2147483647) (kt : x = y → zVV G γ w k tgt ls st M) (kf : x ≠ y → zVV G γ w k n ls st M) : zVV G γ w k pc ls (zi y :: zi x :: st) M := by
  subst hn
  intro H locs cls h1 h2 h3
  have e := zn_eq hx hy
  refine lv_icmp_eq ok.1 ok.2.1 hd ht (fun q => kt (by first | exact e.mp q | exact fun z => q (e.mpr z) | omega) H locs cls h1 h2 h3) (fun q => kf (by first | exact e.mp q | exact fun z => q (e.mpr z) | (have q2 : ¬ _ := fun z => q (e.mpr z); omega) | (have q2 := Classical.byContradiction (fun z => q (fun y => z (e.mp y))); exact q2)) H locs cls h1 h2 h3)
theorem v_icmp_ne (ok : zOK G γ own cc nL fr lo) {x y : Int} {off : Int} {tgt : Nat} (hd : decode cc pc = .ok (.if_icmp .ne off, 3)) (ht : (pc : Int) + off = (tgt : Int)) (hn : pc + 3 = n) (hx : -2147483648 ≤ x ∧ x ≤ 2147483647) (hy : -2147483648 ≤ y ∧ y ≤ 2147483647) (kt : x ≠ y → zVV G γ w k tgt ls st M) (kf : x = y → zVV G γ w k n ls st M) : zVV G γ w k pc ls (zi y :: zi x :: st) M := by
  subst hn
  intro H locs cls h1 h2 h3
  have e := zn_eq hx hy
  refine lv_icmp_ne ok.1 ok.2.1 hd ht (fun q => kt (by first | exact e.mp q | exact fun z => q (e.mpr z) | omega) H locs cls h1 h2 h3) (fun q => kf (by first | exact e.mp q | exact fun z => q (e.mpr z) | (have q2 : ¬ _ := fun z => q (e.mpr z); omega) | (have q2 := Classical.byContradiction (fun z => q (fun y => z (e.mp y))); exact q2)) H locs cls h1 h2 h3)
theorem v_icmp_lt (ok : zOK G γ own cc nL fr lo) {x y : Int} {off : Int} {tgt : Nat} (hd : decode cc pc = .ok (.if_icmp .lt off, 3)) (ht : (pc : Int) + off = (tgt : Int)) (hn : pc + 3 = n) (hx : -2147483648 ≤ x ∧ x ≤ 2147483647) (hy : -2147483648 ≤ y ∧ y ≤ 2147483647) (kt : x < y → zVV G γ w k tgt ls st M) (kf : y ≤ x → zVV G γ w k n ls st M) : zVV G γ w k pc ls (zi y :: zi x :: st) M := by
  subst hn
  intro H locs cls h1 h2 h3
  have e := zn_lt hx hy
  refine lv_icmp_lt ok.1 ok.2.1 hd ht (fun q => kt (by first | exact e.mp q | exact fun z => q (e.mpr z) | omega) H locs cls h1 h2 h3) (fun q => kf (by first | exact e.mp q | exact fun z => q (e.mpr z) | (have q2 : ¬ _ := fun z => q (e.mpr z); omega) | (have q2 := Classical.byContradiction (fun z => q (fun y => z (e.mp y))); exact q2)) H locs cls h1 h2 h3)
theorem v_icmp_ge (ok : zOK G γ own cc nL fr lo) {x y : Int} {off : Int} {tgt : Nat} (hd : decode cc pc = .ok (.if_icmp .ge off, 3)) (ht : (pc : Int) + off = (tgt : Int)) (hn : pc + 3 = n) (hx : -2147483648 ≤ x ∧ x ≤ 2147483647) (hy : -2147483648 ≤ y ∧ y ≤ 2147483647) (kt : y ≤ x → zVV G γ w k tgt ls st M) (kf : x < y → zVV G γ w k n ls st M) : zVV G γ w k pc ls (zi y :: zi x :: st) M := by
  subst hn
  intro H locs cls h1 h2 h3
  have e := zn_le hy hx
  refine lv_icmp_ge ok.1 ok.2.1 hd ht (fun q => kt (by first | exact e.mp q | exact fun z => q (e.mpr z) | omega) H locs cls h1 h2 h3) (fun q => kf (by first | exact e.mp q | exact fun z => q (e.mpr z) | (have q2 : ¬ _ := fun z => q (e.mpr z); omega) | (have q2 := Classical.byContradiction (fun z => q (fun y => z (e.mp y))); exact q2)) H locs cls h1 h2 h3)
theorem v_icmp_gt (ok : zOK G γ own cc nL fr lo) {x y : Int} {off : Int} {tgt : Nat} (hd : decode cc pc = .ok (.if_icmp .gt off, 3)) (ht : (pc : Int) + off = (tgt : Int)) (hn : pc + 3 = n) (hx : -2147483648 ≤ x ∧ x ≤ 2147483647) (hy : -2147483648 ≤ y ∧ y ≤ 2147483647) (kt : y < x → zVV G γ w k tgt ls st M) (kf : x ≤ y → zVV G γ w k n ls st M) : zVV G γ w k pc ls (zi y :: zi x :: st) M := by
  subst hn
  intro H locs cls h1 h2 h3
  have e := zn_lt hy hx
  refine lv_icmp_gt ok.1 ok.2.1 hd ht (fun q => kt (by first | exact e.mp q | exact fun z => q (e.mpr z) | omega) H locs cls h1 h2 h3) (fun q => kf (by first | exact e.mp q | exact fun z => q (e.mpr z) | (have q2 : ¬ _ := fun z => q (e.mpr z); omega) | (have q2 := Classical.byContradiction (fun z => q (fun y => z (e.mp y))); exact q2)) H locs cls h1 h2 h3)
theorem v_icmp_le (ok : zOK G γ own cc nL fr lo) {x y : Int} {off : Int} {tgt : Nat} (hd : decode cc pc = .ok (.if_icmp .le off, 3)) (ht : (pc : Int) + off = (tgt : Int)) (hn : pc + 3 = n) (hx : -2147483648 ≤ x ∧ x ≤ 2147483647) (hy : -2147483648 ≤ y ∧ y ≤ 2147483647) (kt : x ≤ y → zVV G γ w k tgt ls st M) (kf : y < x → zVV G γ w k n ls st M) : zVV G γ w k pc ls (zi y :: zi x :: st) M := by
  subst hn
  intro H locs cls h1 h2 h3
  have e := zn_le hx hy
  refine lv_icmp_le ok.1 ok.2.1 hd ht (fun q => kt (by first | exact e.mp q | exact fun z => q (e.mpr z) | omega) H locs cls h1 h2 h3) (fun q => kf (by first | exact e.mp q | exact fun z => q (e.mpr z) | (have q2 : ¬ _ := fun z => q (e.mpr z); omega) | (have q2 := Classical.byContradiction (fun z => q (fun y => z (e.mp y))); exact q2)) H locs cls h1 h2 h3)
theorem v_goto (ok : zOK G γ own cc nL fr lo) {off : Int} (hd : decode cc pc = .ok (.goto off, 3)) (ht : (pc : Int) + off = (n : Int)) (kk : zVV G γ w k n ls st M) : zVV G γ w k pc ls st M := by
  intro H locs cls h1 h2 h3
  exact lv_goto ok.1 ok.2.1 hd ht (kk H locs cls h1 h2 h3)
theorem v_swOut (ok : zOK G γ own cc nL fr lo) {x dflt lo2 hi : Int} {offs : Array Int} {len : Nat} (hd : decode cc pc = .ok (.tableswitch dflt lo2 hi offs, len)) (hx : -2147483648 ≤ x ∧ x ≤ 2147483647) (h : x < lo2 ∨ hi < x) (ht : (pc : Int) + dflt = (n : Int)) (kk : zVV G γ w k n ls st M) : zVV G γ w k pc ls (zi x :: st) M := by
  intro H locs cls h1 h2 h3
  exact lv_tableOut ok.1 ok.2.1 hd (by rw [zn_toI hx]; exact h) ht (kk H locs cls h1 h2 h3)
theorem v_swIn (ok : zOK G γ own cc nL fr lo) {x dflt lo2 hi : Int} {offs : Array Int} {len : Nat} {off : Int} (hd : decode cc pc = .ok (.tableswitch dflt lo2 hi offs, len)) (hx : -2147483648 ≤ x ∧ x ≤ 2147483647) (ha : ¬ x < lo2) (hb : ¬ hi < x) (ho : offs[(x - lo2).toNat]? = some off) (ht : (pc : Int) + off = (n : Int)) (kk : zVV G γ w k n ls st M) : zVV G γ w k pc ls (zi x :: st) M := by
  intro H locs cls h1 h2 h3
  exact lv_tableIn ok.1 ok.2.1 hd (by rw [zn_toI hx]; exact ha) (by rw [zn_toI hx]; exact hb) (by rw [zn_toI hx]; exact ho) ht (kk H locs cls h1 h2 h3)
theorem v_iload_g (ok : zOK G γ own cc nL fr lo) {i : Nat} {x : Int} (hl : ls[i]? = some (some (zi x))) (hd : decode cc pc = .ok (.iload i, 2)) (hn : pc + 2 = n) (kk : zVV G γ w k n ls (zi x :: st) M) : zVV G γ w k pc ls st M := by
  subst hn
  intro H locs cls h1 h2 h3
  exact lv_iload ok.1 ok.2.1 hd (zlh_get h3 hl) (kk H locs cls h1 h2 h3)
theorem v_iload_n (ok : zOK G γ own cc nL fr lo) {q : Fin 4} {i : Nat} {x : Int} (hl : ls[i]? = some (some (zi x))) (hq : (q : Nat) = i) (hd : decode cc pc = .ok (.iload_n q, 1)) (hn : pc + 1 = n) (kk : zVV G γ w k n ls (zi x :: st) M) : zVV G γ w k pc ls st M := by
  subst hn
  intro H locs cls h1 h2 h3
  exact lv_iload_n ok.1 ok.2.1 hd hq (zlh_get h3 hl) (kk H locs cls h1 h2 h3)
theorem v_istore_g (ok : zOK G γ own cc nL fr lo) {i : Nat} {x : Int} (hi : i < nL) (hp : ∀ j : Nat, j + 1 = i → zlong ((ls[j]?).getD none) = false) (hd : decode cc pc = .ok (.istore i, 2)) (hn : pc + 2 = n) (kk : zVV G γ w k n (ls.set i (some (zi x))) st M) : zVV G γ w k pc ls (zi x :: st) M := by
  subst hn
  intro H locs cls h1 h2 h3
  have hi2 := hi
  rw [← ok.2.2.1] at hi2
  exact lv_istore ok.1 ok.2.1 hd h3 hi2 rfl (fun ls2 hl2 => kk H locs ls2 h1 h2 (zlh_st1 hl2 hp))
theorem v_istore_n (ok : zOK G γ own cc nL fr lo) {q : Fin 4} {i : Nat} {x : Int} (hi : i < nL) (hp : ∀ j : Nat, j + 1 = i → zlong ((ls[j]?).getD none) = false) (hq : (q : Nat) = i) (hd : decode cc pc = .ok (.istore_n q, 1)) (hn : pc + 1 = n) (kk : zVV G γ w k n (ls.set i (some (zi x))) st M) : zVV G γ w k pc ls (zi x :: st) M := by
  subst hn
  intro H locs cls h1 h2 h3
  have hi2 := hi
  rw [← ok.2.2.1] at hi2
  exact lv_istore_n ok.1 ok.2.1 hd hq h3 hi2 rfl (fun ls2 hl2 => kk H locs ls2 h1 h2 (zlh_st1 hl2 hp))
theorem v_lload_g (ok : zOK G γ own cc nL fr lo) {i : Nat} {x : Int} (hl : ls[i]? = some (some (zj x))) (hd : decode cc pc = .ok (.lload i, 2)) (hn : pc + 2 = n) (kk : zVV G γ w k n ls (zj x :: st) M) : zVV G γ w k pc ls st M := by
  subst hn
  intro H locs cls h1 h2 h3
  exact lv_lload ok.1 ok.2.1 hd (zlh_get h3 hl) (kk H locs cls h1 h2 h3)
theorem v_lload_n (ok : zOK G γ own cc nL fr lo) {q : Fin 4} {i : Nat} {x : Int} (hl : ls[i]? = some (some (zj x))) (hq : (q : Nat) = i) (hd : decode cc pc = .ok (.lload_n q, 1)) (hn : pc + 1 = n) (kk : zVV G γ w k n ls (zj x :: st) M) : zVV G γ w k pc ls st M := by
  subst hn
  intro H locs cls h1 h2 h3
  exact lv_lload_n ok.1 ok.2.1 hd hq (zlh_get h3 hl) (kk H locs cls h1 h2 h3)
theorem v_lstore_g (ok : zOK G γ own cc nL fr lo) {i : Nat} {x : Int} (hi : i + 1 < nL) (hp : ∀ j : Nat, j + 1 = i → zlong ((ls[j]?).getD none) = false) (hd : decode cc pc = .ok (.lstore i, 2)) (hn : pc + 2 = n) (kk : zVV G γ w k n ((ls.set i (some (zj x))).set (i + 1) none) st M) : zVV G γ w k pc ls (zj x :: st) M := by
  subst hn
  intro H locs cls h1 h2 h3
  have hi2 := hi
  rw [← ok.2.2.1] at hi2
  exact lv_lstore ok.1 ok.2.1 hd h3 hi2 rfl (fun ls2 hl2 => kk H locs ls2 h1 h2 (zlh_st2 hl2 hp))
theorem v_lstore_n (ok : zOK G γ own cc nL fr lo) {q : Fin 4} {i : Nat} {x : Int} (hi : i + 1 < nL) (hp : ∀ j : Nat, j + 1 = i → zlong ((ls[j]?).getD none) = false) (hq : (q : Nat) = i) (hd : decode cc pc = .ok (.lstore_n q, 1)) (hn : pc + 1 = n) (kk : zVV G γ w k n ((ls.set i (some (zj x))).set (i + 1) none) st M) : zVV G γ w k pc ls (zj x :: st) M := by
  subst hn
  intro H locs cls h1 h2 h3
  have hi2 := hi
  rw [← ok.2.2.1] at hi2
  exact lv_lstore_n ok.1 ok.2.1 hd hq h3 hi2 rfl (fun ls2 hl2 => kk H locs ls2 h1 h2 (zlh_st2 hl2 hp))
theorem v_aload_g (ok : zOK G γ own cc nL fr lo) {i : Nat} {x : Int} (hl : ls[i]? = some (some (zr x))) (hd : decode cc pc = .ok (.aload i, 2)) (hn : pc + 2 = n) (kk : zVV G γ w k n ls (zr x :: st) M) : zVV G γ w k pc ls st M := by
  subst hn
  intro H locs cls h1 h2 h3
  exact lv_aload ok.1 ok.2.1 hd (zlh_get h3 hl) (kk H locs cls h1 h2 h3)
theorem v_aload_n (ok : zOK G γ own cc nL fr lo) {q : Fin 4} {i : Nat} {x : Int} (hl : ls[i]? = some (some (zr x))) (hq : (q : Nat) = i) (hd : decode cc pc = .ok (.aload_n q, 1)) (hn : pc + 1 = n) (kk : zVV G γ w k n ls (zr x :: st) M) : zVV G γ w k pc ls st M := by
  subst hn
  intro H locs cls h1 h2 h3
  exact lv_aload_n ok.1 ok.2.1 hd hq (zlh_get h3 hl) (kk H locs cls h1 h2 h3)
theorem v_astore_g (ok : zOK G γ own cc nL fr lo) {i : Nat} {x : Int} (hi : i < nL) (hp : ∀ j : Nat, j + 1 = i → zlong ((ls[j]?).getD none) = false) (hd : decode cc pc = .ok (.astore i, 2)) (hn : pc + 2 = n) (kk : zVV G γ w k n (ls.set i (some (zr x))) st M) : zVV G γ w k pc ls (zr x :: st) M := by
  subst hn
  intro H locs cls h1 h2 h3
  have hi2 := hi
  rw [← ok.2.2.1] at hi2
  exact lv_astore ok.1 ok.2.1 hd h3 hi2 rfl (fun ls2 hl2 => kk H locs ls2 h1 h2 (zlh_st1 hl2 hp))
theorem v_astore_n (ok : zOK G γ own cc nL fr lo) {q : Fin 4} {i : Nat} {x : Int} (hi : i < nL) (hp : ∀ j : Nat, j + 1 = i → zlong ((ls[j]?).getD none) = false) (hq : (q : Nat) = i) (hd : decode cc pc = .ok (.astore_n q, 1)) (hn : pc + 1 = n) (kk : zVV G γ w k n (ls.set i (some (zr x))) st M) : zVV G γ w k pc ls (zr x :: st) M := by
  subst hn
  intro H locs cls h1 h2 h3
  have hi2 := hi
  rw [← ok.2.2.1] at hi2
  exact lv_astore_n ok.1 ok.2.1 hd hq h3 hi2 rfl (fun ls2 hl2 => kk H locs ls2 h1 h2 (zlh_st1 hl2 hp))
theorem v_iinc_g (ok : zOK G γ own cc nL fr lo) {i : Nat} {x c : Int} (hi : i < nL) (hl : ls[i]? = some (some (zi x))) (hp : ∀ j : Nat, j + 1 = i → zlong ((ls[j]?).getD none) = false) (hd : decode cc pc = .ok (.iinc i c, 3)) (hn : pc + 3 = n) (kk : zVV G γ w k n (ls.set i (some (zi (x + c)))) st M) : zVV G γ w k pc ls st M := by
  subst hn
  intro H locs cls h1 h2 h3
  have hi2 := hi
  rw [← ok.2.2.1] at hi2
  obtain ⟨q, hq⟩ := List.getElem?_of_mem (zll_mem.mpr ⟨zi x, hl, rfl⟩ : (i, zc w.1 (zi x)) ∈ zll w.1 ls)
  exact lv_iinc ok.1 ok.2.1 hd h3 (k := q) hq (v := Int32.ofInt (x + c)) (zn_add x c).symm hi2 rfl (fun ls2 hl2 => kk H locs ls2 h1 h2 (zlh_st1 hl2 hp))
theorem v_iload_0 (ok : zOK G γ own cc nL fr lo) {ll : zL} {x : Int} (hd : decode cc pc = .ok (.iload_n 0, 1)) (hn : pc + 1 = n) (kk : zVV G γ w k n (some (zi x) :: ll) (zi x :: st) M) : zVV G γ w k pc (some (zi x) :: ll) st M := v_iload_n ok rfl (by rfl) hd hn kk
theorem v_istore_0 (ok : zOK G γ own cc nL fr lo) {b : Option zV} {ll : zL} {x : Int} (hi : 0 < nL) (hd : decode cc pc = .ok (.istore_n 0, 1)) (hn : pc + 1 = n) (kk : zVV G γ w k n (some (zi x) :: ll) st M) : zVV G γ w k pc (b :: ll) (zi x :: st) M := v_istore_n ok hi (fun j hj => by omega) (by rfl) hd hn kk
theorem v_lload_0 (ok : zOK G γ own cc nL fr lo) {ll : zL} {x : Int} (hd : decode cc pc = .ok (.lload_n 0, 1)) (hn : pc + 1 = n) (kk : zVV G γ w k n (some (zj x) :: ll) (zj x :: st) M) : zVV G γ w k pc (some (zj x) :: ll) st M := v_lload_n ok rfl (by rfl) hd hn kk
theorem v_lstore_0 (ok : zOK G γ own cc nL fr lo) {b b2 : Option zV} {ll : zL} {x : Int} (hi : 0 + 1 < nL) (hd : decode cc pc = .ok (.lstore_n 0, 1)) (hn : pc + 1 = n) (kk : zVV G γ w k n (some (zj x) :: none :: ll) st M) : zVV G γ w k pc (b :: b2 :: ll) (zj x :: st) M := v_lstore_n ok hi (fun j hj => by omega) (by rfl) hd hn kk
theorem v_aload_0 (ok : zOK G γ own cc nL fr lo) {ll : zL} {x : Int} (hd : decode cc pc = .ok (.aload_n 0, 1)) (hn : pc + 1 = n) (kk : zVV G γ w k n (some (zr x) :: ll) (zr x :: st) M) : zVV G γ w k pc (some (zr x) :: ll) st M := v_aload_n ok rfl (by rfl) hd hn kk
theorem v_astore_0 (ok : zOK G γ own cc nL fr lo) {b : Option zV} {ll : zL} {x : Int} (hi : 0 < nL) (hd : decode cc pc = .ok (.astore_n 0, 1)) (hn : pc + 1 = n) (kk : zVV G γ w k n (some (zr x) :: ll) st M) : zVV G γ w k pc (b :: ll) (zr x :: st) M := v_astore_n ok hi (fun j hj => by omega) (by rfl) hd hn kk
theorem v_iinc_0 (ok : zOK G γ own cc nL fr lo) {ll : zL} {x c : Int} (hi : 0 < nL) (hd : decode cc pc = .ok (.iinc 0 c, 3)) (hn : pc + 3 = n) (kk : zVV G γ w k n (some (zi (x + c)) :: ll) st M) : zVV G γ w k pc (some (zi x) :: ll) st M := v_iinc_g ok hi rfl (fun j hj => by omega) hd hn kk
theorem v_iload_1 (ok : zOK G γ own cc nL fr lo) {a0 : Option zV} {ll : zL} {x : Int} (hd : decode cc pc = .ok (.iload_n 1, 1)) (hn : pc + 1 = n) (kk : zVV G γ w k n (a0 :: some (zi x) :: ll) (zi x :: st) M) : zVV G γ w k pc (a0 :: some (zi x) :: ll) st M := v_iload_n ok rfl (by rfl) hd hn kk
theorem v_istore_1 (ok : zOK G γ own cc nL fr lo) {a0 : Option zV} {b : Option zV} {ll : zL} {x : Int} (hi : 1 < nL) (hp : zlong a0 = false) (hd : decode cc pc = .ok (.istore_n 1, 1)) (hn : pc + 1 = n) (kk : zVV G γ w k n (a0 :: some (zi x) :: ll) st M) : zVV G γ w k pc (a0 :: b :: ll) (zi x :: st) M := v_istore_n ok hi (fun j hj => by have e : j = 0 := (by omega); subst e; exact hp) (by rfl) hd hn kk
theorem v_lload_1 (ok : zOK G γ own cc nL fr lo) {a0 : Option zV} {ll : zL} {x : Int} (hd : decode cc pc = .ok (.lload_n 1, 1)) (hn : pc + 1 = n) (kk : zVV G γ w k n (a0 :: some (zj x) :: ll) (zj x :: st) M) : zVV G γ w k pc (a0 :: some (zj x) :: ll) st M := v_lload_n ok rfl (by rfl) hd hn kk
theorem v_lstore_1 (ok : zOK G γ own cc nL fr lo) {a0 : Option zV} {b b2 : Option zV} {ll : zL} {x : Int} (hi : 1 + 1 < nL) (hp : zlong a0 = false) (hd : decode cc pc = .ok (.lstore_n 1, 1)) (hn : pc + 1 = n) (kk : zVV G γ w k n (a0 :: some (zj x) :: none :: ll) st M) : zVV G γ w k pc (a0 :: b :: b2 :: ll) (zj x :: st) M := v_lstore_n ok hi (fun j hj => by have e : j = 0 := (by omega); subst e; exact hp) (by rfl) hd hn kk
theorem v_aload_1 (ok : zOK G γ own cc nL fr lo) {a0 : Option zV} {ll : zL} {x : Int} (hd : decode cc pc = .ok (.aload_n 1, 1)) (hn : pc + 1 = n) (kk : zVV G γ w k n (a0 :: some (zr x) :: ll) (zr x :: st) M) : zVV G γ w k pc (a0 :: some (zr x) :: ll) st M := v_aload_n ok rfl (by rfl) hd hn kk
theorem v_astore_1 (ok : zOK G γ own cc nL fr lo) {a0 : Option zV} {b : Option zV} {ll : zL} {x : Int} (hi : 1 < nL) (hp : zlong a0 = false) (hd : decode cc pc = .ok (.astore_n 1, 1)) (hn : pc + 1 = n) (kk : zVV G γ w k n (a0 :: some (zr x) :: ll) st M) : zVV G γ w k pc (a0 :: b :: ll) (zr x :: st) M := v_astore_n ok hi (fun j hj => by have e : j = 0 := (by omega); subst e; exact hp) (by rfl) hd hn kk
theorem v_iinc_1 (ok : zOK G γ own cc nL fr lo) {a0 : Option zV} {ll : zL} {x c : Int} (hi : 1 < nL) (hp : zlong a0 = false) (hd : decode cc pc = .ok (.iinc 1 c, 3)) (hn : pc + 3 = n) (kk : zVV G γ w k n (a0 :: some (zi (x + c)) :: ll) st M) : zVV G γ w k pc (a0 :: some (zi x) :: ll) st M := v_iinc_g ok hi rfl (fun j hj => by have e : j = 0 := (by omega); subst e; exact hp) hd hn kk
theorem v_iload_2 (ok : zOK G γ own cc nL fr lo) {a0 a1 : Option zV} {ll : zL} {x : Int} (hd : decode cc pc = .ok (.iload_n 2, 1)) (hn : pc + 1 = n) (kk : zVV G γ w k n (a0 :: a1 :: some (zi x) :: ll) (zi x :: st) M) : zVV G γ w k pc (a0 :: a1 :: some (zi x) :: ll) st M := v_iload_n ok rfl (by rfl) hd hn kk
theorem v_istore_2 (ok : zOK G γ own cc nL fr lo) {a0 a1 : Option zV} {b : Option zV} {ll : zL} {x : Int} (hi : 2 < nL) (hp : zlong a1 = false) (hd : decode cc pc = .ok (.istore_n 2, 1)) (hn : pc + 1 = n) (kk : zVV G γ w k n (a0 :: a1 :: some (zi x) :: ll) st M) : zVV G γ w k pc (a0 :: a1 :: b :: ll) (zi x :: st) M := v_istore_n ok hi (fun j hj => by have e : j = 1 := (by omega); subst e; exact hp) (by rfl) hd hn kk
theorem v_lload_2 (ok : zOK G γ own cc nL fr lo) {a0 a1 : Option zV} {ll : zL} {x : Int} (hd : decode cc pc = .ok (.lload_n 2, 1)) (hn : pc + 1 = n) (kk : zVV G γ w k n (a0 :: a1 :: some (zj x) :: ll) (zj x :: st) M) : zVV G γ w k pc (a0 :: a1 :: some (zj x) :: ll) st M := v_lload_n ok rfl (by rfl) hd hn kk
theorem v_lstore_2 (ok : zOK G γ own cc nL fr lo) {a0 a1 : Option zV} {b b2 : Option zV} {ll : zL} {x : Int} (hi : 2 + 1 < nL) (hp : zlong a1 = false) (hd : decode cc pc = .ok (.lstore_n 2, 1)) (hn : pc + 1 = n) (kk : zVV G γ w k n (a0 :: a1 :: some (zj x) :: none :: ll) st M) : zVV G γ w k pc (a0 :: a1 :: b :: b2 :: ll) (zj x :: st) M := v_lstore_n ok hi (fun j hj => by have e : j = 1 := (by omega); subst e; exact hp) (by rfl) hd hn kk
theorem v_aload_2 (ok : zOK G γ own cc nL fr lo) {a0 a1 : Option zV} {ll : zL} {x : Int} (hd : decode cc pc = .ok (.aload_n 2, 1)) (hn : pc + 1 = n) (kk : zVV G γ w k n (a0 :: a1 :: some (zr x) :: ll) (zr x :: st) M) : zVV G γ w k pc (a0 :: a1 :: some (zr x) :: ll) st M := v_aload_n ok rfl (by rfl) hd hn kk
theorem v_astore_2 (ok : zOK G γ own cc nL fr lo) {a0 a1 : Option zV} {b : Option zV} {ll : zL} {x : Int} (hi : 2 < nL) (hp : zlong a1 = false) (hd : decode cc pc = .ok (.astore_n 2, 1)) (hn : pc + 1 = n) (kk : zVV G γ w k n (a0 :: a1 :: some (zr x) :: ll) st M) : zVV G γ w k pc (a0 :: a1 :: b :: ll) (zr x :: st) M := v_astore_n ok hi (fun j hj => by have e : j = 1 := (by omega); subst e; exact hp) (by rfl) hd hn kk
theorem v_iinc_2 (ok : zOK G γ own cc nL fr lo) {a0 a1 : Option zV} {ll : zL} {x c : Int} (hi : 2 < nL) (hp : zlong a1 = false) (hd : decode cc pc = .ok (.iinc 2 c, 3)) (hn : pc + 3 = n) (kk : zVV G γ w k n (a0 :: a1 :: some (zi (x + c)) :: ll) st M) : zVV G γ w k pc (a0 :: a1 :: some (zi x) :: ll) st M := v_iinc_g ok hi rfl (fun j hj => by have e : j = 1 := (by omega); subst e; exact hp) hd hn kk
theorem v_iload_3 (ok : zOK G γ own cc nL fr lo) {a0 a1 a2 : Option zV} {ll : zL} {x : Int} (hd : decode cc pc = .ok (.iload_n 3, 1)) (hn : pc + 1 = n) (kk : zVV G γ w k n (a0 :: a1 :: a2 :: some (zi x) :: ll) (zi x :: st) M) : zVV G γ w k pc (a0 :: a1 :: a2 :: some (zi x) :: ll) st M := v_iload_n ok rfl (by rfl) hd hn kk
theorem v_istore_3 (ok : zOK G γ own cc nL fr lo) {a0 a1 a2 : Option zV} {b : Option zV} {ll : zL} {x : Int} (hi : 3 < nL) (hp : zlong a2 = false) (hd : decode cc pc = .ok (.istore_n 3, 1)) (hn : pc + 1 = n) (kk : zVV G γ w k n (a0 :: a1 :: a2 :: some (zi x) :: ll) st M) : zVV G γ w k pc (a0 :: a1 :: a2 :: b :: ll) (zi x :: st) M := v_istore_n ok hi (fun j hj => by have e : j = 2 := (by omega); subst e; exact hp) (by rfl) hd hn kk
theorem v_lload_3 (ok : zOK G γ own cc nL fr lo) {a0 a1 a2 : Option zV} {ll : zL} {x : Int} (hd : decode cc pc = .ok (.lload_n 3, 1)) (hn : pc + 1 = n) (kk : zVV G γ w k n (a0 :: a1 :: a2 :: some (zj x) :: ll) (zj x :: st) M) : zVV G γ w k pc (a0 :: a1 :: a2 :: some (zj x) :: ll) st M := v_lload_n ok rfl (by rfl) hd hn kk
theorem v_lstore_3 (ok : zOK G γ own cc nL fr lo) {a0 a1 a2 : Option zV} {b b2 : Option zV} {ll : zL} {x : Int} (hi : 3 + 1 < nL) (hp : zlong a2 = false) (hd : decode cc pc = .ok (.lstore_n 3, 1)) (hn : pc + 1 = n) (kk : zVV G γ w k n (a0 :: a1 :: a2 :: some (zj x) :: none :: ll) st M) : zVV G γ w k pc (a0 :: a1 :: a2 :: b :: b2 :: ll) (zj x :: st) M := v_lstore_n ok hi (fun j hj => by have e : j = 2 := (by omega); subst e; exact hp) (by rfl) hd hn kk
theorem v_aload_3 (ok : zOK G γ own cc nL fr lo) {a0 a1 a2 : Option zV} {ll : zL} {x : Int} (hd : decode cc pc = .ok (.aload_n 3, 1)) (hn : pc + 1 = n) (kk : zVV G γ w k n (a0 :: a1 :: a2 :: some (zr x) :: ll) (zr x :: st) M) : zVV G γ w k pc (a0 :: a1 :: a2 :: some (zr x) :: ll) st M := v_aload_n ok rfl (by rfl) hd hn kk
theorem v_astore_3 (ok : zOK G γ own cc nL fr lo) {a0 a1 a2 : Option zV} {b : Option zV} {ll : zL} {x : Int} (hi : 3 < nL) (hp : zlong a2 = false) (hd : decode cc pc = .ok (.astore_n 3, 1)) (hn : pc + 1 = n) (kk : zVV G γ w k n (a0 :: a1 :: a2 :: some (zr x) :: ll) st M) : zVV G γ w k pc (a0 :: a1 :: a2 :: b :: ll) (zr x :: st) M := v_astore_n ok hi (fun j hj => by have e : j = 2 := (by omega); subst e; exact hp) (by rfl) hd hn kk
theorem v_iinc_3 (ok : zOK G γ own cc nL fr lo) {a0 a1 a2 : Option zV} {ll : zL} {x c : Int} (hi : 3 < nL) (hp : zlong a2 = false) (hd : decode cc pc = .ok (.iinc 3 c, 3)) (hn : pc + 3 = n) (kk : zVV G γ w k n (a0 :: a1 :: a2 :: some (zi (x + c)) :: ll) st M) : zVV G γ w k pc (a0 :: a1 :: a2 :: some (zi x) :: ll) st M := v_iinc_g ok hi rfl (fun j hj => by have e : j = 2 := (by omega); subst e; exact hp) hd hn kk
theorem v_iload_4 (ok : zOK G γ own cc nL fr lo) {a0 a1 a2 a3 : Option zV} {ll : zL} {x : Int} (hd : decode cc pc = .ok (.iload 4, 2)) (hn : pc + 2 = n) (kk : zVV G γ w k n (a0 :: a1 :: a2 :: a3 :: some (zi x) :: ll) (zi x :: st) M) : zVV G γ w k pc (a0 :: a1 :: a2 :: a3 :: some (zi x) :: ll) st M := v_iload_g ok rfl hd hn kk
theorem v_istore_4 (ok : zOK G γ own cc nL fr lo) {a0 a1 a2 a3 : Option zV} {b : Option zV} {ll : zL} {x : Int} (hi : 4 < nL) (hp : zlong a3 = false) (hd : decode cc pc = .ok (.istore 4, 2)) (hn : pc + 2 = n) (kk : zVV G γ w k n (a0 :: a1 :: a2 :: a3 :: some (zi x) :: ll) st M) : zVV G γ w k pc (a0 :: a1 :: a2 :: a3 :: b :: ll) (zi x :: st) M := v_istore_g ok hi (fun j hj => by have e : j = 3 := (by omega); subst e; exact hp) hd hn kk
theorem v_lload_4 (ok : zOK G γ own cc nL fr lo) {a0 a1 a2 a3 : Option zV} {ll : zL} {x : Int} (hd : decode cc pc = .ok (.lload 4, 2)) (hn : pc + 2 = n) (kk : zVV G γ w k n (a0 :: a1 :: a2 :: a3 :: some (zj x) :: ll) (zj x :: st) M) : zVV G γ w k pc (a0 :: a1 :: a2 :: a3 :: some (zj x) :: ll) st M := v_lload_g ok rfl hd hn kk
theorem v_lstore_4 (ok : zOK G γ own cc nL fr lo) {a0 a1 a2 a3 : Option zV} {b b2 : Option zV} {ll : zL} {x : Int} (hi : 4 + 1 < nL) (hp : zlong a3 = false) (hd : decode cc pc = .ok (.lstore 4, 2)) (hn : pc + 2 = n) (kk : zVV G γ w k n (a0 :: a1 :: a2 :: a3 :: some (zj x) :: none :: ll) st M) : zVV G γ w k pc (a0 :: a1 :: a2 :: a3 :: b :: b2 :: ll) (zj x :: st) M := v_lstore_g ok hi (fun j hj => by have e : j = 3 := (by omega); subst e; exact hp) hd hn kk
theorem v_aload_4 (ok : zOK G γ own cc nL fr lo) {a0 a1 a2 a3 : Option zV} {ll : zL} {x : Int} (hd : decode cc pc = .ok (.aload 4, 2)) (hn : pc + 2 = n) (kk : zVV G γ w k n (a0 :: a1 :: a2 :: a3 :: some (zr x) :: ll) (zr x :: st) M) : zVV G γ w k pc (a0 :: a1 :: a2 :: a3 :: some (zr x) :: ll) st M := v_aload_g ok rfl hd hn kk
theorem v_astore_4 (ok : zOK G γ own cc nL fr lo) {a0 a1 a2 a3 : Option zV} {b : Option zV} {ll : zL} {x : Int} (hi : 4 < nL) (hp : zlong a3 = false) (hd : decode cc pc = .ok (.astore 4, 2)) (hn : pc + 2 = n) (kk : zVV G γ w k n (a0 :: a1 :: a2 :: a3 :: some (zr x) :: ll) st M) : zVV G γ w k pc (a0 :: a1 :: a2 :: a3 :: b :: ll) (zr x :: st) M := v_astore_g ok hi (fun j hj => by have e : j = 3 := (by omega); subst e; exact hp) hd hn kk
theorem v_iinc_4 (ok : zOK G γ own cc nL fr lo) {a0 a1 a2 a3 : Option zV} {ll : zL} {x c : Int} (hi : 4 < nL) (hp : zlong a3 = false) (hd : decode cc pc = .ok (.iinc 4 c, 3)) (hn : pc + 3 = n) (kk : zVV G γ w k n (a0 :: a1 :: a2 :: a3 :: some (zi (x + c)) :: ll) st M) : zVV G γ w k pc (a0 :: a1 :: a2 :: a3 :: some (zi x) :: ll) st M := v_iinc_g ok hi rfl (fun j hj => by have e : j = 3 := (by omega); subst e; exact hp) hd hn kk
theorem v_iload_5 (ok : zOK G γ own cc nL fr lo) {a0 a1 a2 a3 a4 : Option zV} {ll : zL} {x : Int} (hd : decode cc pc = .ok (.iload 5, 2)) (hn : pc + 2 = n) (kk : zVV G γ w k n (a0 :: a1 :: a2 :: a3 :: a4 :: some (zi x) :: ll) (zi x :: st) M) : zVV G γ w k pc (a0 :: a1 :: a2 :: a3 :: a4 :: some (zi x) :: ll) st M := v_iload_g ok rfl hd hn kk
theorem v_istore_5 (ok : zOK G γ own cc nL fr lo) {a0 a1 a2 a3 a4 : Option zV} {b : Option zV} {ll : zL} {x : Int} (hi : 5 < nL) (hp : zlong a4 = false) (hd : decode cc pc = .ok (.istore 5, 2)) (hn : pc + 2 = n) (kk : zVV G γ w k n (a0 :: a1 :: a2 :: a3 :: a4 :: some (zi x) :: ll) st M) : zVV G γ w k pc (a0 :: a1 :: a2 :: a3 :: a4 :: b :: ll) (zi x :: st) M := v_istore_g ok hi (fun j hj => by have e : j = 4 := (by omega); subst e; exact hp) hd hn kk
theorem v_lload_5 (ok : zOK G γ own cc nL fr lo) {a0 a1 a2 a3 a4 : Option zV} {ll : zL} {x : Int} (hd : decode cc pc = .ok (.lload 5, 2)) (hn : pc + 2 = n) (kk : zVV G γ w k n (a0 :: a1 :: a2 :: a3 :: a4 :: some (zj x) :: ll) (zj x :: st) M) : zVV G γ w k pc (a0 :: a1 :: a2 :: a3 :: a4 :: some (zj x) :: ll) st M := v_lload_g ok rfl hd hn kk
theorem v_lstore_5 (ok : zOK G γ own cc nL fr lo) {a0 a1 a2 a3 a4 : Option zV} {b b2 : Option zV} {ll : zL} {x : Int} (hi : 5 + 1 < nL) (hp : zlong a4 = false) (hd : decode cc pc = .ok (.lstore 5, 2)) (hn : pc + 2 = n) (kk : zVV G γ w k n (a0 :: a1 :: a2 :: a3 :: a4 :: some (zj x) :: none :: ll) st M) : zVV G γ w k pc (a0 :: a1 :: a2 :: a3 :: a4 :: b :: b2 :: ll) (zj x :: st) M := v_lstore_g ok hi (fun j hj => by have e : j = 4 := (by omega); subst e; exact hp) hd hn kk
theorem v_aload_5 (ok : zOK G γ own cc nL fr lo) {a0 a1 a2 a3 a4 : Option zV} {ll : zL} {x : Int} (hd : decode cc pc = .ok (.aload 5, 2)) (hn : pc + 2 = n) (kk : zVV G γ w k n (a0 :: a1 :: a2 :: a3 :: a4 :: some (zr x) :: ll) (zr x :: st) M) : zVV G γ w k pc (a0 :: a1 :: a2 :: a3 :: a4 :: some (zr x) :: ll) st M := v_aload_g ok rfl hd hn kk
theorem v_astore_5 (ok : zOK G γ own cc nL fr lo) {a0 a1 a2 a3 a4 : Option zV} {b : Option zV} {ll : zL} {x : Int} (hi : 5 < nL) (hp : zlong a4 = false) (hd : decode cc pc = .ok (.astore 5, 2)) (hn : pc + 2 = n) (kk : zVV G γ w k n (a0 :: a1 :: a2 :: a3 :: a4 :: some (zr x) :: ll) st M) : zVV G γ w k pc (a0 :: a1 :: a2 :: a3 :: a4 :: b :: ll) (zr x :: st) M := v_astore_g ok hi (fun j hj => by have e : j = 4 := (by omega); subst e; exact hp) hd hn kk
theorem v_iinc_5 (ok : zOK G γ own cc nL fr lo) {a0 a1 a2 a3 a4 : Option zV} {ll : zL} {x c : Int} (hi : 5 < nL) (hp : zlong a4 = false) (hd : decode cc pc = .ok (.iinc 5 c, 3)) (hn : pc + 3 = n) (kk : zVV G γ w k n (a0 :: a1 :: a2 :: a3 :: a4 :: some (zi (x + c)) :: ll) st M) : zVV G γ w k pc (a0 :: a1 :: a2 :: a3 :: a4 :: some (zi x) :: ll) st M := v_iinc_g ok hi rfl (fun j hj => by have e : j = 4 := (by omega); subst e; exact hp) hd hn kk
theorem v_iload_6 (ok : zOK G γ own cc nL fr lo) {a0 a1 a2 a3 a4 a5 : Option zV} {ll : zL} {x : Int} (hd : decode cc pc = .ok (.iload 6, 2)) (hn : pc + 2 = n) (kk : zVV G γ w k n (a0 :: a1 :: a2 :: a3 :: a4 :: a5 :: some (zi x) :: ll) (zi x :: st) M) : zVV G γ w k pc (a0 :: a1 :: a2 :: a3 :: a4 :: a5 :: some (zi x) :: ll) st M := v_iload_g ok rfl hd hn kk
theorem v_istore_6 (ok : zOK G γ own cc nL fr lo) {a0 a1 a2 a3 a4 a5 : Option zV} {b : Option zV} {ll : zL} {x : Int} (hi : 6 < nL) (hp : zlong a5 = false) (hd : decode cc pc = .ok (.istore 6, 2)) (hn : pc + 2 = n) (kk : zVV G γ w k n (a0 :: a1 :: a2 :: a3 :: a4 :: a5 :: some (zi x) :: ll) st M) : zVV G γ w k pc (a0 :: a1 :: a2 :: a3 :: a4 :: a5 :: b :: ll) (zi x :: st) M := v_istore_g ok hi (fun j hj => by have e : j = 5 := (by omega); subst e; exact hp) hd hn kk
theorem v_lload_6 (ok : zOK G γ own cc nL fr lo) {a0 a1 a2 a3 a4 a5 : Option zV} {ll : zL} {x : Int} (hd : decode cc pc = .ok (.lload 6, 2)) (hn : pc + 2 = n) (kk : zVV G γ w k n (a0 :: a1 :: a2 :: a3 :: a4 :: a5 :: some (zj x) :: ll) (zj x :: st) M) : zVV G γ w k pc (a0 :: a1 :: a2 :: a3 :: a4 :: a5 :: some (zj x) :: ll) st M := v_lload_g ok rfl hd hn kk
theorem v_lstore_6 (ok : zOK G γ own cc nL fr lo) {a0 a1 a2 a3 a4 a5 : Option zV} {b b2 : Option zV} {ll : zL} {x : Int} (hi : 6 + 1 < nL) (hp : zlong a5 = false) (hd : decode cc pc = .ok (.lstore 6, 2)) (hn : pc + 2 = n) (kk : zVV G γ w k n (a0 :: a1 :: a2 :: a3 :: a4 :: a5 :: some (zj x) :: none :: ll) st M) : zVV G γ w k pc (a0 :: a1 :: a2 :: a3 :: a4 :: a5 :: b :: b2 :: ll) (zj x :: st) M := v_lstore_g ok hi (fun j hj => by have e : j = 5 := (by omega); subst e; exact hp) hd hn kk
theorem v_aload_6 (ok : zOK G γ own cc nL fr lo) {a0 a1 a2 a3 a4 a5 : Option zV} {ll : zL} {x : Int} (hd : decode cc pc = .ok (.aload 6, 2)) (hn : pc + 2 = n) (kk : zVV G γ w k n (a0 :: a1 :: a2 :: a3 :: a4 :: a5 :: some (zr x) :: ll) (zr x :: st) M) : zVV G γ w k pc (a0 :: a1 :: a2 :: a3 :: a4 :: a5 :: some (zr x) :: ll) st M := v_aload_g ok rfl hd hn kk
theorem v_astore_6 (ok : zOK G γ own cc nL fr lo) {a0 a1 a2 a3 a4 a5 : Option zV} {b : Option zV} {ll : zL} {x : Int} (hi : 6 < nL) (hp : zlong a5 = false) (hd : decode cc pc = .ok (.astore 6, 2)) (hn : pc + 2 = n) (kk : zVV G γ w k n (a0 :: a1 :: a2 :: a3 :: a4 :: a5 :: some (zr x) :: ll) st M) : zVV G γ w k pc (a0 :: a1 :: a2 :: a3 :: a4 :: a5 :: b :: ll) (zr x :: st) M := v_astore_g ok hi (fun j hj => by have e : j = 5 := (by omega); subst e; exact hp) hd hn kk
theorem v_iinc_6 (ok : zOK G γ own cc nL fr lo) {a0 a1 a2 a3 a4 a5 : Option zV} {ll : zL} {x c : Int} (hi : 6 < nL) (hp : zlong a5 = false) (hd : decode cc pc = .ok (.iinc 6 c, 3)) (hn : pc + 3 = n) (kk : zVV G γ w k n (a0 :: a1 :: a2 :: a3 :: a4 :: a5 :: some (zi (x + c)) :: ll) st M) : zVV G γ w k pc (a0 :: a1 :: a2 :: a3 :: a4 :: a5 :: some (zi x) :: ll) st M := v_iinc_g ok hi rfl (fun j hj => by have e : j = 5 := (by omega); subst e; exact hp) hd hn kk
theorem v_iload_7 (ok : zOK G γ own cc nL fr lo) {a0 a1 a2 a3 a4 a5 a6 : Option zV} {ll : zL} {x : Int} (hd : decode cc pc = .ok (.iload 7, 2)) (hn : pc + 2 = n) (kk : zVV G γ w k n (a0 :: a1 :: a2 :: a3 :: a4 :: a5 :: a6 :: some (zi x) :: ll) (zi x :: st) M) : zVV G γ w k pc (a0 :: a1 :: a2 :: a3 :: a4 :: a5 :: a6 :: some (zi x) :: ll) st M := v_iload_g ok rfl hd hn kk
theorem v_istore_7 (ok : zOK G γ own cc nL fr lo) {a0 a1 a2 a3 a4 a5 a6 : Option zV} {b : Option zV} {ll : zL} {x : Int} (hi : 7 < nL) (hp : zlong a6 = false) (hd : decode cc pc = .ok (.istore 7, 2)) (hn : pc + 2 = n) (kk : zVV G γ w k n (a0 :: a1 :: a2 :: a3 :: a4 :: a5 :: a6 :: some (zi x) :: ll) st M) : zVV G γ w k pc (a0 :: a1 :: a2 :: a3 :: a4 :: a5 :: a6 :: b :: ll) (zi x :: st) M := v_istore_g ok hi (fun j hj => by have e : j = 6 := (by omega); subst e; exact hp) hd hn kk
theorem v_lload_7 (ok : zOK G γ own cc nL fr lo) {a0 a1 a2 a3 a4 a5 a6 : Option zV} {ll : zL} {x : Int} (hd : decode cc pc = .ok (.lload 7, 2)) (hn : pc + 2 = n) (kk : zVV G γ w k n (a0 :: a1 :: a2 :: a3 :: a4 :: a5 :: a6 :: some (zj x) :: ll) (zj x :: st) M) : zVV G γ w k pc (a0 :: a1 :: a2 :: a3 :: a4 :: a5 :: a6 :: some (zj x) :: ll) st M := v_lload_g ok rfl hd hn kk
theorem v_lstore_7 (ok : zOK G γ own cc nL fr lo) {a0 a1 a2 a3 a4 a5 a6 : Option zV} {b b2 : Option zV} {ll : zL} {x : Int} (hi : 7 + 1 < nL) (hp : zlong a6 = false) (hd : decode cc pc = .ok (.lstore 7, 2)) (hn : pc + 2 = n) (kk : zVV G γ w k n (a0 :: a1 :: a2 :: a3 :: a4 :: a5 :: a6 :: some (zj x) :: none :: ll) st M) : zVV G γ w k pc (a0 :: a1 :: a2 :: a3 :: a4 :: a5 :: a6 :: b :: b2 :: ll) (zj x :: st) M := v_lstore_g ok hi (fun j hj => by have e : j = 6 := (by omega); subst e; exact hp) hd hn kk
theorem v_aload_7 (ok : zOK G γ own cc nL fr lo) {a0 a1 a2 a3 a4 a5 a6 : Option zV} {ll : zL} {x : Int} (hd : decode cc pc = .ok (.aload 7, 2)) (hn : pc + 2 = n) (kk : zVV G γ w k n (a0 :: a1 :: a2 :: a3 :: a4 :: a5 :: a6 :: some (zr x) :: ll) (zr x :: st) M) : zVV G γ w k pc (a0 :: a1 :: a2 :: a3 :: a4 :: a5 :: a6 :: some (zr x) :: ll) st M := v_aload_g ok rfl hd hn kk
theorem v_astore_7 (ok : zOK G γ own cc nL fr lo) {a0 a1 a2 a3 a4 a5 a6 : Option zV} {b : Option zV} {ll : zL} {x : Int} (hi : 7 < nL) (hp : zlong a6 = false) (hd : decode cc pc = .ok (.astore 7, 2)) (hn : pc + 2 = n) (kk : zVV G γ w k n (a0 :: a1 :: a2 :: a3 :: a4 :: a5 :: a6 :: some (zr x) :: ll) st M) : zVV G γ w k pc (a0 :: a1 :: a2 :: a3 :: a4 :: a5 :: a6 :: b :: ll) (zr x :: st) M := v_astore_g ok hi (fun j hj => by have e : j = 6 := (by omega); subst e; exact hp) hd hn kk
theorem v_iinc_7 (ok : zOK G γ own cc nL fr lo) {a0 a1 a2 a3 a4 a5 a6 : Option zV} {ll : zL} {x c : Int} (hi : 7 < nL) (hp : zlong a6 = false) (hd : decode cc pc = .ok (.iinc 7 c, 3)) (hn : pc + 3 = n) (kk : zVV G γ w k n (a0 :: a1 :: a2 :: a3 :: a4 :: a5 :: a6 :: some (zi (x + c)) :: ll) st M) : zVV G γ w k pc (a0 :: a1 :: a2 :: a3 :: a4 :: a5 :: a6 :: some (zi x) :: ll) st M := v_iinc_g ok hi rfl (fun j hj => by have e : j = 6 := (by omega); subst e; exact hp) hd hn kk
theorem v_iload_8 (ok : zOK G γ own cc nL fr lo) {a0 a1 a2 a3 a4 a5 a6 a7 : Option zV} {ll : zL} {x : Int} (hd : decode cc pc = .ok (.iload 8, 2)) (hn : pc + 2 = n) (kk : zVV G γ w k n (a0 :: a1 :: a2 :: a3 :: a4 :: a5 :: a6 :: a7 :: some (zi x) :: ll) (zi x :: st) M) : zVV G γ w k pc (a0 :: a1 :: a2 :: a3 :: a4 :: a5 :: a6 :: a7 :: some (zi x) :: ll) st M := v_iload_g ok rfl hd hn kk
theorem v_istore_8 (ok : zOK G γ own cc nL fr lo) {a0 a1 a2 a3 a4 a5 a6 a7 : Option zV} {b : Option zV} {ll : zL} {x : Int} (hi : 8 < nL) (hp : zlong a7 = false) (hd : decode cc pc = .ok (.istore 8, 2)) (hn : pc + 2 = n) (kk : zVV G γ w k n (a0 :: a1 :: a2 :: a3 :: a4 :: a5 :: a6 :: a7 :: some (zi x) :: ll) st M) : zVV G γ w k pc (a0 :: a1 :: a2 :: a3 :: a4 :: a5 :: a6 :: a7 :: b :: ll) (zi x :: st) M := v_istore_g ok hi (fun j hj => by have e : j = 7 := (by omega); subst e; exact hp) hd hn kk
theorem v_lload_8 (ok : zOK G γ own cc nL fr lo) {a0 a1 a2 a3 a4 a5 a6 a7 : Option zV} {ll : zL} {x : Int} (hd : decode cc pc = .ok (.lload 8, 2)) (hn : pc + 2 = n) (kk : zVV G γ w k n (a0 :: a1 :: a2 :: a3 :: a4 :: a5 :: a6 :: a7 :: some (zj x) :: ll) (zj x :: st) M) : zVV G γ w k pc (a0 :: a1 :: a2 :: a3 :: a4 :: a5 :: a6 :: a7 :: some (zj x) :: ll) st M := v_lload_g ok rfl hd hn kk
theorem v_lstore_8 (ok : zOK G γ own cc nL fr lo) {a0 a1 a2 a3 a4 a5 a6 a7 : Option zV} {b b2 : Option zV} {ll : zL} {x : Int} (hi : 8 + 1 < nL) (hp : zlong a7 = false) (hd : decode cc pc = .ok (.lstore 8, 2)) (hn : pc + 2 = n) (kk : zVV G γ w k n (a0 :: a1 :: a2 :: a3 :: a4 :: a5 :: a6 :: a7 :: some (zj x) :: none :: ll) st M) : zVV G γ w k pc (a0 :: a1 :: a2 :: a3 :: a4 :: a5 :: a6 :: a7 :: b :: b2 :: ll) (zj x :: st) M := v_lstore_g ok hi (fun j hj => by have e : j = 7 := (by omega); subst e; exact hp) hd hn kk
theorem v_aload_8 (ok : zOK G γ own cc nL fr lo) {a0 a1 a2 a3 a4 a5 a6 a7 : Option zV} {ll : zL} {x : Int} (hd : decode cc pc = .ok (.aload 8, 2)) (hn : pc + 2 = n) (kk : zVV G γ w k n (a0 :: a1 :: a2 :: a3 :: a4 :: a5 :: a6 :: a7 :: some (zr x) :: ll) (zr x :: st) M) : zVV G γ w k pc (a0 :: a1 :: a2 :: a3 :: a4 :: a5 :: a6 :: a7 :: some (zr x) :: ll) st M := v_aload_g ok rfl hd hn kk
theorem v_astore_8 (ok : zOK G γ own cc nL fr lo) {a0 a1 a2 a3 a4 a5 a6 a7 : Option zV} {b : Option zV} {ll : zL} {x : Int} (hi : 8 < nL) (hp : zlong a7 = false) (hd : decode cc pc = .ok (.astore 8, 2)) (hn : pc + 2 = n) (kk : zVV G γ w k n (a0 :: a1 :: a2 :: a3 :: a4 :: a5 :: a6 :: a7 :: some (zr x) :: ll) st M) : zVV G γ w k pc (a0 :: a1 :: a2 :: a3 :: a4 :: a5 :: a6 :: a7 :: b :: ll) (zr x :: st) M := v_astore_g ok hi (fun j hj => by have e : j = 7 := (by omega); subst e; exact hp) hd hn kk
theorem v_iinc_8 (ok : zOK G γ own cc nL fr lo) {a0 a1 a2 a3 a4 a5 a6 a7 : Option zV} {ll : zL} {x c : Int} (hi : 8 < nL) (hp : zlong a7 = false) (hd : decode cc pc = .ok (.iinc 8 c, 3)) (hn : pc + 3 = n) (kk : zVV G γ w k n (a0 :: a1 :: a2 :: a3 :: a4 :: a5 :: a6 :: a7 :: some (zi (x + c)) :: ll) st M) : zVV G γ w k pc (a0 :: a1 :: a2 :: a3 :: a4 :: a5 :: a6 :: a7 :: some (zi x) :: ll) st M := v_iinc_g ok hi rfl (fun j hj => by have e : j = 7 := (by omega); subst e; exact hp) hd hn kk
theorem v_iload_9 (ok : zOK G γ own cc nL fr lo) {a0 a1 a2 a3 a4 a5 a6 a7 a8 : Option zV} {ll : zL} {x : Int} (hd : decode cc pc = .ok (.iload 9, 2)) (hn : pc + 2 = n) (kk : zVV G γ w k n (a0 :: a1 :: a2 :: a3 :: a4 :: a5 :: a6 :: a7 :: a8 :: some (zi x) :: ll) (zi x :: st) M) : zVV G γ w k pc (a0 :: a1 :: a2 :: a3 :: a4 :: a5 :: a6 :: a7 :: a8 :: some (zi x) :: ll) st M := v_iload_g ok rfl hd hn kk
theorem v_istore_9 (ok : zOK G γ own cc nL fr lo) {a0 a1 a2 a3 a4 a5 a6 a7 a8 : Option zV} {b : Option zV} {ll : zL} {x : Int} (hi : 9 < nL) (hp : zlong a8 = false) (hd : decode cc pc = .ok (.istore 9, 2)) (hn : pc + 2 = n) (kk : zVV G γ w k n (a0 :: a1 :: a2 :: a3 :: a4 :: a5 :: a6 :: a7 :: a8 :: some (zi x) :: ll) st M) : zVV G γ w k pc (a0 :: a1 :: a2 :: a3 :: a4 :: a5 :: a6 :: a7 :: a8 :: b :: ll) (zi x :: st) M := v_istore_g ok hi (fun j hj => by have e : j = 8 := (by omega); subst e; exact hp) hd hn kk
theorem v_lload_9 (ok : zOK G γ own cc nL fr lo) {a0 a1 a2 a3 a4 a5 a6 a7 a8 : Option zV} {ll : zL} {x : Int} (hd : decode cc pc = .ok (.lload 9, 2)) (hn : pc + 2 = n) (kk : zVV G γ w k n (a0 :: a1 :: a2 :: a3 :: a4 :: a5 :: a6 :: a7 :: a8 :: some (zj x) :: ll) (zj x :: st) M) : zVV G γ w k pc (a0 :: a1 :: a2 :: a3 :: a4 :: a5 :: a6 :: a7 :: a8 :: some (zj x) :: ll) st M := v_lload_g ok rfl hd hn kk
theorem v_lstore_9 (ok : zOK G γ own cc nL fr lo) {a0 a1 a2 a3 a4 a5 a6 a7 a8 : Option zV} {b b2 : Option zV} {ll : zL} {x : Int} (hi : 9 + 1 < nL) (hp : zlong a8 = false) (hd : decode cc pc = .ok (.lstore 9, 2)) (hn : pc + 2 = n) (kk : zVV G γ w k n (a0 :: a1 :: a2 :: a3 :: a4 :: a5 :: a6 :: a7 :: a8 :: some (zj x) :: none :: ll) st M) : zVV G γ w k pc (a0 :: a1 :: a2 :: a3 :: a4 :: a5 :: a6 :: a7 :: a8 :: b :: b2 :: ll) (zj x :: st) M := v_lstore_g ok hi (fun j hj => by have e : j = 8 := (by omega); subst e; exact hp) hd hn kk
theorem v_aload_9 (ok : zOK G γ own cc nL fr lo) {a0 a1 a2 a3 a4 a5 a6 a7 a8 : Option zV} {ll : zL} {x : Int} (hd : decode cc pc = .ok (.aload 9, 2)) (hn : pc + 2 = n) (kk : zVV G γ w k n (a0 :: a1 :: a2 :: a3 :: a4 :: a5 :: a6 :: a7 :: a8 :: some (zr x) :: ll) (zr x :: st) M) : zVV G γ w k pc (a0 :: a1 :: a2 :: a3 :: a4 :: a5 :: a6 :: a7 :: a8 :: some (zr x) :: ll) st M := v_aload_g ok rfl hd hn kk
theorem v_astore_9 (ok : zOK G γ own cc nL fr lo) {a0 a1 a2 a3 a4 a5 a6 a7 a8 : Option zV} {b : Option zV} {ll : zL} {x : Int} (hi : 9 < nL) (hp : zlong a8 = false) (hd : decode cc pc = .ok (.astore 9, 2)) (hn : pc + 2 = n) (kk : zVV G γ w k n (a0 :: a1 :: a2 :: a3 :: a4 :: a5 :: a6 :: a7 :: a8 :: some (zr x) :: ll) st M) : zVV G γ w k pc (a0 :: a1 :: a2 :: a3 :: a4 :: a5 :: a6 :: a7 :: a8 :: b :: ll) (zr x :: st) M := v_astore_g ok hi (fun j hj => by have e : j = 8 := (by omega); subst e; exact hp) hd hn kk
theorem v_iinc_9 (ok : zOK G γ own cc nL fr lo) {a0 a1 a2 a3 a4 a5 a6 a7 a8 : Option zV} {ll : zL} {x c : Int} (hi : 9 < nL) (hp : zlong a8 = false) (hd : decode cc pc = .ok (.iinc 9 c, 3)) (hn : pc + 3 = n) (kk : zVV G γ w k n (a0 :: a1 :: a2 :: a3 :: a4 :: a5 :: a6 :: a7 :: a8 :: some (zi (x + c)) :: ll) st M) : zVV G γ w k pc (a0 :: a1 :: a2 :: a3 :: a4 :: a5 :: a6 :: a7 :: a8 :: some (zi x) :: ll) st M := v_iinc_g ok hi rfl (fun j hj => by have e : j = 8 := (by omega); subst e; exact hp) hd hn kk
theorem v_iload_10 (ok : zOK G γ own cc nL fr lo) {a0 a1 a2 a3 a4 a5 a6 a7 a8 a9 : Option zV} {ll : zL} {x : Int} (hd : decode cc pc = .ok (.iload 10, 2)) (hn : pc + 2 = n) (kk : zVV G γ w k n (a0 :: a1 :: a2 :: a3 :: a4 :: a5 :: a6 :: a7 :: a8 :: a9 :: some (zi x) :: ll) (zi x :: st) M) : zVV G γ w k pc (a0 :: a1 :: a2 :: a3 :: a4 :: a5 :: a6 :: a7 :: a8 :: a9 :: some (zi x) :: ll) st M := v_iload_g ok rfl hd hn kk
theorem v_istore_10 (ok : zOK G γ own cc nL fr lo) {a0 a1 a2 a3 a4 a5 a6 a7 a8 a9 : Option zV} {b : Option zV} {ll : zL} {x : Int} (hi : 10 < nL) (hp : zlong a9 = false) (hd : decode cc pc = .ok (.istore 10, 2)) (hn : pc + 2 = n) (kk : zVV G γ w k n (a0 :: a1 :: a2 :: a3 :: a4 :: a5 :: a6 :: a7 :: a8 :: a9 :: some (zi x) :: ll) st M) : zVV G γ w k pc (a0 :: a1 :: a2 :: a3 :: a4 :: a5 :: a6 :: a7 :: a8 :: a9 :: b :: ll) (zi x :: st) M := v_istore_g ok hi (fun j hj => by have e : j = 9 := (by omega); subst e; exact hp) hd hn kk
theorem v_lload_10 (ok : zOK G γ own cc nL fr lo) {a0 a1 a2 a3 a4 a5 a6 a7 a8 a9 : Option zV} {ll : zL} {x : Int} (hd : decode cc pc = .ok (.lload 10, 2)) (hn : pc + 2 = n) (kk : zVV G γ w k n (a0 :: a1 :: a2 :: a3 :: a4 :: a5 :: a6 :: a7 :: a8 :: a9 :: some (zj x) :: ll) (zj x :: st) M) : zVV G γ w k pc (a0 :: a1 :: a2 :: a3 :: a4 :: a5 :: a6 :: a7 :: a8 :: a9 :: some (zj x) :: ll) st M := v_lload_g ok rfl hd hn kk
theorem v_lstore_10 (ok : zOK G γ own cc nL fr lo) {a0 a1 a2 a3 a4 a5 a6 a7 a8 a9 : Option zV} {b b2 : Option zV} {ll : zL} {x : Int} (hi : 10 + 1 < nL) (hp : zlong a9 = false) (hd : decode cc pc = .ok (.lstore 10, 2)) (hn : pc + 2 = n) (kk : zVV G γ w k n (a0 :: a1 :: a2 :: a3 :: a4 :: a5 :: a6 :: a7 :: a8 :: a9 :: some (zj x) :: none :: ll) st M) : zVV G γ w k pc (a0 :: a1 :: a2 :: a3 :: a4 :: a5 :: a6 :: a7 :: a8 :: a9 :: b :: b2 :: ll) (zj x :: st) M := v_lstore_g ok hi (fun j hj => by have e : j = 9 := (by omega); subst e; exact hp) hd hn kk
theorem v_aload_10 (ok : zOK G γ own cc nL fr lo) {a0 a1 a2 a3 a4 a5 a6 a7 a8 a9 : Option zV} {ll : zL} {x : Int} (hd : decode cc pc = .ok (.aload 10, 2)) (hn : pc + 2 = n) (kk : zVV G γ w k n (a0 :: a1 :: a2 :: a3 :: a4 :: a5 :: a6 :: a7 :: a8 :: a9 :: some (zr x) :: ll) (zr x :: st) M) : zVV G γ w k pc (a0 :: a1 :: a2 :: a3 :: a4 :: a5 :: a6 :: a7 :: a8 :: a9 :: some (zr x) :: ll) st M := v_aload_g ok rfl hd hn kk
theorem v_astore_10 (ok : zOK G γ own cc nL fr lo) {a0 a1 a2 a3 a4 a5 a6 a7 a8 a9 : Option zV} {b : Option zV} {ll : zL} {x : Int} (hi : 10 < nL) (hp : zlong a9 = false) (hd : decode cc pc = .ok (.astore 10, 2)) (hn : pc + 2 = n) (kk : zVV G γ w k n (a0 :: a1 :: a2 :: a3 :: a4 :: a5 :: a6 :: a7 :: a8 :: a9 :: some (zr x) :: ll) st M) : zVV G γ w k pc (a0 :: a1 :: a2 :: a3 :: a4 :: a5 :: a6 :: a7 :: a8 :: a9 :: b :: ll) (zr x :: st) M := v_astore_g ok hi (fun j hj => by have e : j = 9 := (by omega); subst e; exact hp) hd hn kk
theorem v_iinc_10 (ok : zOK G γ own cc nL fr lo) {a0 a1 a2 a3 a4 a5 a6 a7 a8 a9 : Option zV} {ll : zL} {x c : Int} (hi : 10 < nL) (hp : zlong a9 = false) (hd : decode cc pc = .ok (.iinc 10 c, 3)) (hn : pc + 3 = n) (kk : zVV G γ w k n (a0 :: a1 :: a2 :: a3 :: a4 :: a5 :: a6 :: a7 :: a8 :: a9 :: some (zi (x + c)) :: ll) st M) : zVV G γ w k pc (a0 :: a1 :: a2 :: a3 :: a4 :: a5 :: a6 :: a7 :: a8 :: a9 :: some (zi x) :: ll) st M := v_iinc_g ok hi rfl (fun j hj => by have e : j = 9 := (by omega); subst e; exact hp) hd hn kk
theorem v_iload_11 (ok : zOK G γ own cc nL fr lo) {a0 a1 a2 a3 a4 a5 a6 a7 a8 a9 a10 : Option zV} {ll : zL} {x : Int} (hd : decode cc pc = .ok (.iload 11, 2)) (hn : pc + 2 = n) (kk : zVV G γ w k n (a0 :: a1 :: a2 :: a3 :: a4 :: a5 :: a6 :: a7 :: a8 :: a9 :: a10 :: some (zi x) :: ll) (zi x :: st) M) : zVV G γ w k pc (a0 :: a1 :: a2 :: a3 :: a4 :: a5 :: a6 :: a7 :: a8 :: a9 :: a10 :: some (zi x) :: ll) st M := v_iload_g ok rfl hd hn kk
theorem v_istore_11 (ok : zOK G γ own cc nL fr lo) {a0 a1 a2 a3 a4 a5 a6 a7 a8 a9 a10 : Option zV} {b : Option zV} {ll : zL} {x : Int} (hi : 11 < nL) (hp : zlong a10 = false) (hd : decode cc pc = .ok (.istore 11, 2)) (hn : pc + 2 = n) (kk : zVV G γ w k n (a0 :: a1 :: a2 :: a3 :: a4 :: a5 :: a6 :: a7 :: a8 :: a9 :: a10 :: some (zi x) :: ll) st M) : zVV G γ w k pc (a0 :: a1 :: a2 :: a3 :: a4 :: a5 :: a6 :: a7 :: a8 :: a9 :: a10 :: b :: ll) (zi x :: st) M := v_istore_g ok hi (fun j hj => by have e : j = 10 := (by omega); subst e; exact hp) hd hn kk
theorem v_lload_11 (ok : zOK G γ own cc nL fr lo) {a0 a1 a2 a3 a4 a5 a6 a7 a8 a9 a10 : Option zV} {ll : zL} {x : Int} (hd : decode cc pc = .ok (.lload 11, 2)) (hn : pc + 2 = n) (kk : zVV G γ w k n (a0 :: a1 :: a2 :: a3 :: a4 :: a5 :: a6 :: a7 :: a8 :: a9 :: a10 :: some (zj x) :: ll) (zj x :: st) M) : zVV G γ w k pc (a0 :: a1 :: a2 :: a3 :: a4 :: a5 :: a6 :: a7 :: a8 :: a9 :: a10 :: some (zj x) :: ll) st M := v_lload_g ok rfl hd hn kk
theorem v_lstore_11 (ok : zOK G γ own cc nL fr lo) {a0 a1 a2 a3 a4 a5 a6 a7 a8 a9 a10 : Option zV} {b b2 : Option zV} {ll : zL} {x : Int} (hi : 11 + 1 < nL) (hp : zlong a10 = false) (hd : decode cc pc = .ok (.lstore 11, 2)) (hn : pc + 2 = n) (kk : zVV G γ w k n (a0 :: a1 :: a2 :: a3 :: a4 :: a5 :: a6 :: a7 :: a8 :: a9 :: a10 :: some (zj x) :: none :: ll) st M) : zVV G γ w k pc (a0 :: a1 :: a2 :: a3 :: a4 :: a5 :: a6 :: a7 :: a8 :: a9 :: a10 :: b :: b2 :: ll) (zj x :: st) M := v_lstore_g ok hi (fun j hj => by have e : j = 10 := (by omega); subst e; exact hp) hd hn kk
theorem v_aload_11 (ok : zOK G γ own cc nL fr lo) {a0 a1 a2 a3 a4 a5 a6 a7 a8 a9 a10 : Option zV} {ll : zL} {x : Int} (hd : decode cc pc = .ok (.aload 11, 2)) (hn : pc + 2 = n) (kk : zVV G γ w k n (a0 :: a1 :: a2 :: a3 :: a4 :: a5 :: a6 :: a7 :: a8 :: a9 :: a10 :: some (zr x) :: ll) (zr x :: st) M) : zVV G γ w k pc (a0 :: a1 :: a2 :: a3 :: a4 :: a5 :: a6 :: a7 :: a8 :: a9 :: a10 :: some (zr x) :: ll) st M := v_aload_g ok rfl hd hn kk
theorem v_astore_11 (ok : zOK G γ own cc nL fr lo) {a0 a1 a2 a3 a4 a5 a6 a7 a8 a9 a10 : Option zV} {b : Option zV} {ll : zL} {x : Int} (hi : 11 < nL) (hp : zlong a10 = false) (hd : decode cc pc = .ok (.astore 11, 2)) (hn : pc + 2 = n) (kk : zVV G γ w k n (a0 :: a1 :: a2 :: a3 :: a4 :: a5 :: a6 :: a7 :: a8 :: a9 :: a10 :: some (zr x) :: ll) st M) : zVV G γ w k pc (a0 :: a1 :: a2 :: a3 :: a4 :: a5 :: a6 :: a7 :: a8 :: a9 :: a10 :: b :: ll) (zr x :: st) M := v_astore_g ok hi (fun j hj => by have e : j = 10 := (by omega); subst e; exact hp) hd hn kk
theorem v_iinc_11 (ok : zOK G γ own cc nL fr lo) {a0 a1 a2 a3 a4 a5 a6 a7 a8 a9 a10 : Option zV} {ll : zL} {x c : Int} (hi : 11 < nL) (hp : zlong a10 = false) (hd : decode cc pc = .ok (.iinc 11 c, 3)) (hn : pc + 3 = n) (kk : zVV G γ w k n (a0 :: a1 :: a2 :: a3 :: a4 :: a5 :: a6 :: a7 :: a8 :: a9 :: a10 :: some (zi (x + c)) :: ll) st M) : zVV G γ w k pc (a0 :: a1 :: a2 :: a3 :: a4 :: a5 :: a6 :: a7 :: a8 :: a9 :: a10 :: some (zi x) :: ll) st M := v_iinc_g ok hi rfl (fun j hj => by have e : j = 10 := (by omega); subst e; exact hp) hd hn kk
end ZOPS
end
section
/-! the heap: reads, writes -/
def zset (M : zM) (r i x : Int) : zM := fun r' j => if r' = r ∧ j = i then x else M r' j
theorem zset_o {M : zM} {r i x r' : Int} (h : r' ≠ r) : zset M r i x r' = M r' := by
  funext j
  unfold zset
  rw [if_neg (fun q => h q.1)]
theorem zset_s {M : zM} {r i x : Int} : zset M r i x r i = x := if_pos ⟨rfl, rfl⟩
theorem zset_n {M : zM} {r i x j : Int} (h : j ≠ i) : zset M r i x r j = M r j := if_neg fun q => h q.2
theorem zset_a {M : zM} {r i x r' j : Int} : zset M r i x r' j = if r' = r ∧ j = i then x else M r' j := rfl
theorem zce_congr {G : zG} {w : zW} {M M' : zM} {r : Int} (h : M r = M' r) : zce G w M r = zce G w M' r := by
  unfold zce zct zfv
  rw [h]
theorem zi_nat {i : Int} (h : 0 ≤ i) : ((i.toNat : Nat) : Int) = i := Int.toNat_of_nonneg h
section ZH
variable {G : zG} {w : zW} {M : zM} {H : Heap}
theorem zHo_arr {r b : Int} {t m : Nat} (hH : zHo G w M H) (hr : w.2.1 r = true) (hl : zlay r = (t, m, b)) (ht : t < 6) : H[w.1 r]? = some (vp_cell (zGc G t) (m, zct w M r t b)) := by
  have h := (hH.2.2.1 r ⟨hr, by rw [hl]; exact Nat.le_of_lt ht⟩).2
  have e : zce G w M r = .inl (zGc G t, m, zct w M r t b) := by
    unfold zce
    rw [hl]
    exact if_neg (by show ¬ t = 6; omega)
  rw [e] at h
  exact h
theorem zHo_obj {r b : Int} {c : Nat} {q : vw_C} (hH : zHo G w M H) (hr : w.2.1 r = true) (hl : zlay r = (6, c, b)) (hc : zcl[c]? = some q) :
    t_OB (w.1 r) ((zGD G).1 c) q.2.2 ((zGD G).2 c) H (vp_V ((List.range (znf c)).map (fun k => zfv w M r c k))) := by
  have h := (hH.2.2.1 r ⟨hr, by rw [hl]; exact Nat.le_refl _⟩).2
  have e : zce G w M r = .inr (c, (List.range (znf c)).map (fun k => zfv w M r c k)) := by
    unfold zce
    rw [hl]
    exact if_pos rfl
  rw [e] at h
  obtain ⟨q', h1, h2⟩ := h
  cases hc.symm.trans h1
  exact h2
theorem zHo_put {M' : zM} {H1 : Heap} {r : Int} (hH : zHo G w M H) (hr : zlv w r) (ho : ∀ r', r' ≠ r → M' r' = M r') (z : H1.size = H.size) (oq : ∀ q : Nat, q ≠ w.1 r → H1[q]? = H[q]?) (hc : va_at (zGD G) zcl (w.1 r, zce G w M' r) H1) : zHo G w M' H1 := by
  obtain ⟨a1, a2, a3, a4, a5⟩ := hH
  refine ⟨by rw [z]; exact a1, fun q hq => ?_, fun r' hr' => ?_, a4, a5⟩
  · have := (a3 r hr).1
    rw [oq q (by omega)]
    exact a2 q hq
  · by_cases e : r' = r
    · rw [e]
      exact ⟨(a3 r hr).1, hc⟩
    · refine ⟨(a3 r' hr').1, ?_⟩
      rw [zce_congr (ho r' e)]
      exact (a3 r' hr').2.kept (oq _ (fun z => e (a4 r' r hr' hr z)))
theorem zKn_arr {s : State} (h : zKn G s) {t : Nat} (ht : t < 6) : ArrOfT s (zGc G t) (zty t) ∧ va_RA s (zGc G t) (zty t) := by
  have e : (ztys G)[t]? = some (zGc G t, zty t) := by
    unfold ztys
    rw [List.getElem?_map, List.getElem?_range ht]
    rfl
  exact h.1.2 t _ e
theorem zfv_0 {r : Int} {c k : Nat} (h : zft c k = 0) : zfv w M r c k = .int (Int32.ofInt (M r k)) := if_pos h
theorem zfv_1 {r : Int} {c k : Nat} (h : zft c k = 1) : zfv w M r c k = .long (Int64.ofInt (M r k)) := by
  unfold zfv
  rw [if_neg (by omega), if_pos h]
theorem zfv_2 {r : Int} {c k : Nat} (h : zft c k = 2) (hs : w.2.2 r k = true) : zfv w M r c k = .ref (w.1 (zrf r k)) := by
  unfold zfv
  rw [if_neg (by omega), if_neg (by omega), if_pos hs]
theorem zvp {c k : Nat} {f : Nat → Value} (hk : k < znf c) : vp_V ((List.range (znf c)).map f) k = f k := by
  unfold vp_V
  rw [List.getD_eq_getElem?_getD, List.getElem?_map, List.getElem?_range hk]
  rfl
end ZH
/-- a pool entry of a class is the field k of class c -/
def zFd (own : String) (idx c k : Nat) : Prop := ∃ (C : String) (T : u_T) (N : Nat) (ty : Nat → FieldType), zcl[c]? = some (C, T, N) ∧ N = znf c ∧ k < N ∧ Cond.fieldLink own idx (T k).1 (T k).2.1 (T k).2.2.1 ∈ zTb ∧ (∀ w ∈ u_ws C T N, w ∈ zTb) ∧
  (∀ k, k < N → parseFieldDescriptor (T k).2.2.1 = some (ty k)) ∧ (∀ a, a < N → ∀ b, b < N → a ≠ b → (T a).2.1 ≠ (T b).2.1)
/-- .. and may be written outside of a constructor; of the type ty -/
def zFw (own : String) (idx c k : Nat) (ty : FieldType) : Prop := zFd own idx c k ∧ ∃ q : vw_C, zcl[c]? = some q ∧ (q.2.1 k).2.2.2 = false ∧ parseFieldDescriptor (q.2.1 k).2.2.1 = some ty
/-- a pool entry is the table k of the class -/
def zSd (own : String) (idx : Nat) (k : Int) : Prop := 300 ≤ k ∧ k < 306 ∧ (Cond.fieldLink own idx RX7 (zsn k) "[I" ∈ zTb ∨ Cond.fieldLinkNest own idx RX7 (zsn k) "[I" RX7 ∈ zNs)
section ZHOPS
variable {G : zG} {γ : zF} {w : zW} {k : Nat × Nat} {own : String} {cc : ByteArray} {nL fr lo pc n : Nat} {ls : zL} {st : List zV} {M : zM}
theorem zget (ok : zOK G γ own cc nL fr lo) {idx c j : Nat} {r b : Int} (hf : zFd own idx c j) (hl : zlay r = (6, c, b)) (ha : w.2.1 r = true) {v : zV} (hv : zfv w M r c j = zc w.1 v) (hd : decode cc pc = .ok (.getfield idx, 3)) (hn : pc + 3 = n) (kk : zVV G γ w k n ls (v :: st) M) : zVV G γ w k pc ls (zr r :: st) M := by
  subst hn
  intro H locs cls h1 h2 h3
  obtain ⟨C, T, N, ty, hc, hN, hk, hlk, hin, hty, hnm⟩ := hf
  obtain ⟨cell, q1, q2, q3, q4⟩ := zHo_obj h1 ha hl hc
  obtain ⟨hS, hfc, kC, hkC, hkind⟩ := ok.2.2.2.2.2.1.1.1 c _ hc
  obtain ⟨cf, kf, fi, f, hi, hsl⟩ := hS j hk
  refine W.getf ok.1 ok.2.1 ok.2.2.2.1 (ok.2.2.2.2.1 _ hlk) hi (u_facts hfc hkC (u_lays ok.2.2.2.2.1 hin hk) hi).1 q1 (by rw [q3]; exact fun h => by cases h) (v := zc w.1 v) ?_ rfl rfl hd (kk H locs cls h1 h2 h3)
  rw [hsl, q4 j hk, zvp (by omega), hv]
theorem v_getI (ok : zOK G γ own cc nL fr lo) {idx c j : Nat} {r b jI : Int} (hf : zFd own idx c j) (hl : zlay r = (6, c, b)) (ha : w.2.1 r = true) (hz : zft c j = 0) (hj : (j : Int) = jI) (hd : decode cc pc = .ok (.getfield idx, 3)) (hn : pc + 3 = n) (kk : zVV G γ w k n ls (zi (M r jI) :: st) M) : zVV G γ w k pc ls (zr r :: st) M := by
  subst hj
  exact zget ok hf hl ha (v := zi (M r j)) (zfv_0 hz) hd hn kk
theorem v_getJ (ok : zOK G γ own cc nL fr lo) {idx c j : Nat} {r b jI : Int} (hf : zFd own idx c j) (hl : zlay r = (6, c, b)) (ha : w.2.1 r = true) (hz : zft c j = 1) (hj : (j : Int) = jI) (hd : decode cc pc = .ok (.getfield idx, 3)) (hn : pc + 3 = n) (kk : zVV G γ w k n ls (zj (M r jI) :: st) M) : zVV G γ w k pc ls (zr r :: st) M := by
  subst hj
  exact zget ok hf hl ha (v := zj (M r j)) (zfv_1 hz) hd hn kk
theorem v_getR (ok : zOK G γ own cc nL fr lo) {idx c j : Nat} {r b r' : Int} (hf : zFd own idx c j) (hl : zlay r = (6, c, b)) (ha : w.2.1 r = true) (hz : zft c j = 2) (hs : w.2.2 r j = true) (hr : zrf r j = r') (hd : decode cc pc = .ok (.getfield idx, 3)) (hn : pc + 3 = n) (kk : zVV G γ w k n ls (zr r' :: st) M) : zVV G γ w k pc ls (zr r :: st) M := by
  subst hr
  exact zget ok hf hl ha (v := zr (zrf r j)) (zfv_2 hz hs) hd hn kk
theorem zput (ok : zOK G γ own cc nL fr lo) {idx c j : Nat} {r b : Int} {ty : FieldType} (hf : zFw own idx c j ty) (hl : zlay r = (6, c, b)) (ha : w.2.1 r = true) {v : zV} {x : Int} (hv : zfv w (zset M r j x) r c j = zc w.1 v) (hnr : narrow ty (zc w.1 v) = zc w.1 v) (hft : fits ty (zc w.1 v) = true) (hd : decode cc pc = .ok (.putfield idx, 3)) (hn : pc + 3 = n) (kk : zVV G γ w k n ls st (zset M r j x)) : zVV G γ w k pc ls (v :: zr r :: st) M := by
  subst hn
  intro H locs cls h1 h2 h3
  obtain ⟨⟨C, T, N, ty0, hc, hN, hk, hlk, hin, hty, hnm⟩, q0, hq0, hfin, hpd⟩ := hf
  cases hc.symm.trans hq0
  obtain ⟨cell, q1, q2, q3, q4⟩ := zHo_obj h1 ha hl hc
  have hK := ok.2.2.2.2.2.1.1
  obtain ⟨hS, hfc, kC, hkC, hkind⟩ := hK.1 c _ hc
  obtain ⟨cf, kf, fi, f, hi, hsl⟩ := hS j hk
  have hap := va_apart (own := own) ok.2.2.2.2.1 hin ty0 hty hnm hK hc
  have hlay := ok.2.2.2.2.1 _ (hin _ (u_in_lay hk))
  unfold u_lay at hlay
  rw [if_neg (by rw [hfin]; decide)] at hlay
  have hst := (u_facts hfc hkC (u_lays ok.2.2.2.2.1 hin hk) hi).1
  have h6 := u_store hfc hkC hkind hlay hi hpd hnr hft
  refine W.putK ok.1 ok.2.1 (f := f) ⟨ok.2.2.2.1, ok.2.2.2.2.1 _ hlk, ⟨_, _, _, hi⟩, hst⟩ (by rw [q2]; exact h6) q1 q3 (by rw [hsl]; exact k2_hasslot (q4 j hk)) rfl rfl hd fun H' e1 e2 e3 => ?_
  rw [hsl] at e1
  have hlv : zlv w r := ⟨ha, by rw [hl]; exact Nat.le_refl _⟩
  refine kk H' _ cls (zHo_put (M' := zset M r j x) h1 hlv (fun r' hr' => zset_o hr') e2 e3 ?_) (h2.put e2 e3 (h1.2.2.1 r hlv).1) h3
  have e : zce G w (zset M r j x) r = .inr (c, (List.range (znf c)).map (fun i => zfv w (zset M r j x) r c i)) := by
    unfold zce
    rw [hl]
    exact if_pos rfl
  rw [e]
  refine ⟨_, hc, t_OB.to (V := updV (vp_V ((List.range (znf c)).map (fun i => zfv w M r c i))) j (zc w.1 v)) ⟨_, e1, q2, q3, t_set q4 hap hk _⟩ (fun i hi2 => ?_)⟩
  have hi3 : i < znf c := by
    have : i < N := hi2
    omega
  rw [zvp hi3]
  unfold updV
  by_cases hij : i = j
  · rw [if_pos hij, hij, hv]
  · rw [if_neg hij, zvp hi3]
    have e9 : zset M r j x r i = M r i := zset_n (by omega)
    unfold zfv
    rw [e9]
theorem v_putI (ok : zOK G γ own cc nL fr lo) {idx c j : Nat} {r b jI x : Int} (hf : zFw own idx c j .int) (hl : zlay r = (6, c, b)) (ha : w.2.1 r = true) (hz : zft c j = 0) (hj : (j : Int) = jI) (hd : decode cc pc = .ok (.putfield idx, 3)) (hn : pc + 3 = n) (kk : zVV G γ w k n ls st (zset M r jI x)) : zVV G γ w k pc ls (zi x :: zr r :: st) M := by
  subst hj
  exact zput ok hf hl ha (v := zi x) (by rw [zfv_0 hz, zset_s]; rfl) rfl rfl hd hn kk
theorem v_putZ (ok : zOK G γ own cc nL fr lo) {idx c j : Nat} {r b jI x : Int} (hf : zFw own idx c j .boolean) (hx : x = 0 ∨ x = 1) (hl : zlay r = (6, c, b)) (ha : w.2.1 r = true) (hz : zft c j = 0) (hj : (j : Int) = jI) (hd : decode cc pc = .ok (.putfield idx, 3)) (hn : pc + 3 = n) (kk : zVV G γ w k n ls st (zset M r jI x)) : zVV G γ w k pc ls (zi x :: zr r :: st) M := by
  subst hj
  exact zput ok hf hl ha (v := zi x) (by rw [zfv_0 hz, zset_s]; rfl) (by rcases hx with rfl | rfl <;> rfl) (by rcases hx with rfl | rfl <;> rfl) hd hn kk
theorem v_putJ (ok : zOK G γ own cc nL fr lo) {idx c j : Nat} {r b jI x : Int} (hf : zFw own idx c j .long) (hl : zlay r = (6, c, b)) (ha : w.2.1 r = true) (hz : zft c j = 1) (hj : (j : Int) = jI) (hd : decode cc pc = .ok (.putfield idx, 3)) (hn : pc + 3 = n) (kk : zVV G γ w k n ls st (zset M r jI x)) : zVV G γ w k pc ls (zj x :: zr r :: st) M := by
  subst hj
  exact zput ok hf hl ha (v := zj x) (by rw [zfv_1 hz, zset_s]; rfl) rfl rfl hd hn kk
/-! arrays -/
theorem v_iald (ok : zOK G γ own cc nL fr lo) {m : Nat} {r b i : Int} (hl : zlay r = (0, m, b)) (ha : w.2.1 r = true) (hi : 0 ≤ i ∧ i < (m : Int)) (hm : m ≤ 2147483647) (hd : decode cc pc = .ok (.iaload, 1)) (hn : pc + 1 = n) (kk : zVV G γ w k n ls (zi (M r i) :: st) M) : zVV G γ w k pc ls (zi i :: zr r :: st) M := by
  subst hn
  intro H locs cls h1 h2 h3
  refine W.iald (v := .int (Int32.ofInt (M r i))) ok.1 ok.2.1 (zHo_arr h1 ha hl (by omega)) ((zKn_arr ok.2.2.2.2.2.1 (t := 0) (by omega)).1 m (fun j => .int (Int32.ofInt (M r j)))) (fun q => by cases q) ?_ ?_ rfl rfl hd (kk H locs cls h1 h2 h3)
  · show ¬ (_ ∨ (arrV _ m _).slots.size ≤ _)
    rw [arrV_size]
    exact zn_in hi hm
  · show (arrV (zGc G 0) m (fun j => .int (Int32.ofInt (M r j)))).slots[_]? = _
    rw [zn_clamp (by omega), arrV_read _ _ (by omega), zi_nat hi.1]
theorem v_zald (ok : zOK G γ own cc nL fr lo) {m : Nat} {r b i : Int} (hl : zlay r = (1, m, b)) (ha : w.2.1 r = true) (hi : 0 ≤ i ∧ i < (m : Int)) (hm : m ≤ 2147483647) (hd : decode cc pc = .ok (.baload, 1)) (hn : pc + 1 = n) (kk : zVV G γ w k n ls (zi (M r i) :: st) M) : zVV G γ w k pc ls (zi i :: zr r :: st) M := by
  subst hn
  intro H locs cls h1 h2 h3
  refine W.zald (v := .int (Int32.ofInt (M r i))) ok.1 ok.2.1 (zHo_arr h1 ha hl (by omega)) ((zKn_arr ok.2.2.2.2.2.1 (t := 1) (by omega)).1 m (fun j => .int (Int32.ofInt (M r j)))) (fun q => by cases q) ?_ ?_ rfl rfl hd (kk H locs cls h1 h2 h3)
  · show ¬ (_ ∨ (arrV _ m _).slots.size ≤ _)
    rw [arrV_size]
    exact zn_in hi hm
  · show (arrV (zGc G 1) m (fun j => .int (Int32.ofInt (M r j)))).slots[_]? = _
    rw [zn_clamp (by omega), arrV_read _ _ (by omega), zi_nat hi.1]
theorem v_lald (ok : zOK G γ own cc nL fr lo) {m : Nat} {r b i : Int} (hl : zlay r = (2, m, b)) (ha : w.2.1 r = true) (hi : 0 ≤ i ∧ i < (m : Int)) (hm : m ≤ 2147483647) (hd : decode cc pc = .ok (.laload, 1)) (hn : pc + 1 = n) (kk : zVV G γ w k n ls (zj (M r i) :: st) M) : zVV G γ w k pc ls (zi i :: zr r :: st) M := by
  subst hn
  intro H locs cls h1 h2 h3
  refine W.lald (v := .long (Int64.ofInt (M r i))) ok.1 ok.2.1 (zHo_arr h1 ha hl (by omega)) ((zKn_arr ok.2.2.2.2.2.1 (t := 2) (by omega)).1 m (fun j => .long (Int64.ofInt (M r j)))) (fun q => by cases q) ?_ ?_ rfl rfl hd (kk H locs cls h1 h2 h3)
  · show ¬ (_ ∨ (arrV _ m _).slots.size ≤ _)
    rw [arrV_size]
    exact zn_in hi hm
  · show (arrV (zGc G 2) m (fun j => .long (Int64.ofInt (M r j)))).slots[_]? = _
    rw [zn_clamp (by omega), arrV_read _ _ (by omega), zi_nat hi.1]
theorem v_aald (ok : zOK G γ own cc nL fr lo) {t m : Nat} {r b i : Int} (hl : zlay r = (t, m, b)) (ht : 3 ≤ t ∧ t < 6) (ha : w.2.1 r = true) (hi : 0 ≤ i ∧ i < (m : Int)) (hm : m ≤ 2147483647) (hs : w.2.2 r i.toNat = true) (hd : decode cc pc = .ok (.aaload, 1)) (hn : pc + 1 = n) (kk : zVV G γ w k n ls (zr (b + i) :: st) M) : zVV G γ w k pc ls (zi i :: zr r :: st) M := by
  subst hn
  intro H locs cls h1 h2 h3
  have e : zct w M r t b = .inr (.inr (.inr (.inr (fun j => if w.2.2 r j = true then some (w.1 (b + j)) else none)))) := by
    unfold zct
    rw [if_neg (by omega), if_neg (by omega)]
  have hc := zHo_arr h1 ha hl ht.2
  rw [e] at hc
  refine W.aald (v := .ref (w.1 (b + i))) (ty := zty t) ok.1 ok.2.1 hc ((zKn_arr ok.2.2.2.2.2.1 ht.2).1 m (fun j => va_rf (if w.2.2 r j = true then some (w.1 (b + j)) else none))) ?_ (fun q => by cases q) ?_ ?_ rfl rfl hd (kk H locs cls h1 h2 h3)
  · obtain ⟨a, b⟩ := ht
    match t, a, b with
    | 3, _, _ => rfl
    | 4, _, _ => rfl
    | 5, _, _ => rfl
  · show ¬ (_ ∨ (arrV _ m _).slots.size ≤ _)
    rw [arrV_size]
    exact zn_in hi hm
  · show (arrV (zGc G t) m (fun j => va_rf (if w.2.2 r j = true then some (w.1 (b + j)) else none))).slots[_]? = _
    rw [zn_clamp (by omega), arrV_read _ _ (by omega), if_pos hs, zi_nat hi.1]
    rfl
theorem v_alen (ok : zOK G γ own cc nL fr lo) {m : Nat} {r b mI : Int} {t : Nat} (hl : zlay r = (t, m, b)) (ht : t < 3) (ha : w.2.1 r = true) (hm : (m : Int) = mI) (hd : decode cc pc = .ok (.arraylength, 1)) (hn : pc + 1 = n) (kk : zVV G γ w k n ls (zi mI :: st) M) : zVV G γ w k pc ls (zr r :: st) M := by
  subst hn
  subst hm
  intro H locs cls h1 h2 h3
  have hc := zHo_arr h1 ha hl (by omega)
  have e3 : (m.toInt32 : Int32) = Int32.ofInt m := rfl
  obtain hz | hz | hz : t = 0 ∨ t = 1 ∨ t = 2 := by omega
  · subst hz
    exact W.alen (n := Int32.ofInt m) ok.1 ok.2.1 hc ((zKn_arr ok.2.2.2.2.2.1 (t := 0) (by omega)).1 m (fun j => .int (Int32.ofInt (M r j)))) (by show (arrV _ m _).slots.size.toInt32 = _; rw [arrV_size]; exact e3) rfl rfl hd (kk H locs cls h1 h2 h3)
  · subst hz
    exact W.alen (n := Int32.ofInt m) ok.1 ok.2.1 hc ((zKn_arr ok.2.2.2.2.2.1 (t := 1) (by omega)).1 m (fun j => .int (Int32.ofInt (M r j)))) (by show (arrV _ m _).slots.size.toInt32 = _; rw [arrV_size]; exact e3) rfl rfl hd (kk H locs cls h1 h2 h3)
  · subst hz
    exact W.alen (n := Int32.ofInt m) ok.1 ok.2.1 hc ((zKn_arr ok.2.2.2.2.2.1 (t := 2) (by omega)).1 m (fun j => .long (Int64.ofInt (M r j)))) (by show (arrV _ m _).slots.size.toInt32 = _; rw [arrV_size]; exact e3) rfl rfl hd (kk H locs cls h1 h2 h3)
theorem zst_arr {H H1 : Heap} {m t : Nat} {r b i x : Int} {v : Value} (h1 : zHo G w M H) (hl : zlay r = (t, m, b)) (ht : t < 3) (ha : w.2.1 r = true) (hi : 0 ≤ i ∧ i < (m : Int)) (hv : v = if t ≤ 1 then .int (Int32.ofInt x) else .long (Int64.ofInt x))
    (e : H1[w.1 r]? = some ((vp_cell (zGc G t) (m, zct w M r t b)).setSlot i.toNat v)) (z : H1.size = H.size) (oq : ∀ q : Nat, q ≠ w.1 r → H1[q]? = H[q]?) : zHo G w (zset M r i x) H1 := by
  refine zHo_put h1 ⟨ha, by rw [hl]; show t ≤ 6; omega⟩ (fun r' hr' => zset_o hr') z oq ?_
  have e9 : zce G w (zset M r i x) r = .inl (zGc G t, m, zct w (zset M r i x) r t b) := by
    unfold zce
    rw [hl]
    exact if_neg (by show ¬ t = 6; omega)
  rw [e9]
  show H1[w.1 r]? = some (vp_cell _ _)
  rw [e]
  subst hv
  by_cases h : t ≤ 1
  · have e1 : ∀ M' : zM, zct w M' r t b = .inl (fun j => Int32.ofInt (M' r j)) := fun M' => by unfold zct; rw [if_pos h]
    rw [e1, e1, if_pos h, vp_cell_i, vp_cell_i, arrV_store]
    congr 2
    funext j
    unfold updV zset
    by_cases hj : j = i.toNat
    · rw [if_pos hj, if_pos ⟨rfl, by omega⟩]
    · rw [if_neg hj, if_neg (fun q => hj (by omega))]
  · have e1 : ∀ M' : zM, zct w M' r t b = .inr (.inl (fun j => Int64.ofInt (M' r j))) := fun M' => by unfold zct; rw [if_neg h, if_pos (by omega)]
    rw [e1, e1, if_neg h, vp_cell_l, vp_cell_l, arrV_store]
    congr 2
    funext j
    unfold updV zset
    by_cases hj : j = i.toNat
    · rw [if_pos hj, if_pos ⟨rfl, by omega⟩]
    · rw [if_neg hj, if_neg (fun q => hj (by omega))]
theorem v_iast (ok : zOK G γ own cc nL fr lo) {m : Nat} {r b i x : Int} (hl : zlay r = (0, m, b)) (ha : w.2.1 r = true) (hi : 0 ≤ i ∧ i < (m : Int)) (hm : m ≤ 2147483647) (hd : decode cc pc = .ok (.iastore, 1)) (hn : pc + 1 = n) (kk : zVV G γ w k n ls st (zset M r i x)) : zVV G γ w k pc ls (zi x :: zi i :: zr r :: st) M := by
  subst hn
  intro H locs cls h1 h2 h3
  refine W.iast (x := Int32.ofInt x) ok.1 ok.2.1 (zHo_arr h1 ha hl (by omega)) ((zKn_arr ok.2.2.2.2.2.1 (t := 0) (by omega)).1 m (fun j => .int (Int32.ofInt (M r j)))) (fun q => by cases q) ?_ rfl rfl hd fun H1 e z oq => ?_
  · show ¬ (_ ∨ (arrV _ m _).slots.size ≤ _)
    rw [arrV_size]
    exact zn_in hi hm
  · rw [zn_clamp (by omega)] at e
    exact kk H1 _ cls (zst_arr h1 hl (by omega) ha hi rfl e z oq) (h2.put z oq (h1.2.2.1 r ⟨ha, by rw [hl]; show 0 ≤ 6; omega⟩).1) h3
theorem v_zast (ok : zOK G γ own cc nL fr lo) {m : Nat} {r b i x : Int} (hx : x = 0 ∨ x = 1) (hl : zlay r = (1, m, b)) (ha : w.2.1 r = true) (hi : 0 ≤ i ∧ i < (m : Int)) (hm : m ≤ 2147483647) (hd : decode cc pc = .ok (.bastore, 1)) (hn : pc + 1 = n) (kk : zVV G γ w k n ls st (zset M r i x)) : zVV G γ w k pc ls (zi x :: zi i :: zr r :: st) M := by
  subst hn
  intro H locs cls h1 h2 h3
  refine W.zast (x := Int32.ofInt x) ok.1 ok.2.1 (zHo_arr h1 ha hl (by omega)) ((zKn_arr ok.2.2.2.2.2.1 (t := 1) (by omega)).1 m (fun j => .int (Int32.ofInt (M r j)))) (fun q => by cases q) ?_ rfl rfl hd fun H1 e z oq => ?_
  · show ¬ (_ ∨ (arrV _ m _).slots.size ≤ _)
    rw [arrV_size]
    exact zn_in hi hm
  · rw [zn_clamp (by omega), show narrow .boolean (.int (Int32.ofInt x)) = .int (Int32.ofInt x) by rcases hx with rfl | rfl <;> rfl] at e
    exact kk H1 _ cls (zst_arr h1 hl (by omega) ha hi rfl e z oq) (h2.put z oq (h1.2.2.1 r ⟨ha, by rw [hl]; show 1 ≤ 6; omega⟩).1) h3
theorem v_last (ok : zOK G γ own cc nL fr lo) {m : Nat} {r b i x : Int} (hl : zlay r = (2, m, b)) (ha : w.2.1 r = true) (hi : 0 ≤ i ∧ i < (m : Int)) (hm : m ≤ 2147483647) (hd : decode cc pc = .ok (.lastore, 1)) (hn : pc + 1 = n) (kk : zVV G γ w k n ls st (zset M r i x)) : zVV G γ w k pc ls (zj x :: zi i :: zr r :: st) M := by
  subst hn
  intro H locs cls h1 h2 h3
  refine W.last (x := Int64.ofInt x) ok.1 ok.2.1 (zHo_arr h1 ha hl (by omega)) ((zKn_arr ok.2.2.2.2.2.1 (t := 2) (by omega)).1 m (fun j => .long (Int64.ofInt (M r j)))) (fun q => by cases q) ?_ rfl rfl hd fun H1 e z oq => ?_
  · show ¬ (_ ∨ (arrV _ m _).slots.size ≤ _)
    rw [arrV_size]
    exact zn_in hi hm
  · rw [zn_clamp (by omega)] at e
    exact kk H1 _ cls (zst_arr h1 hl (by omega) ha hi rfl e z oq) (h2.put z oq (h1.2.2.1 r ⟨ha, by rw [hl]; show 2 ≤ 6; omega⟩).1) h3
/-! the class's tables -/
theorem v_gets (ok : zOK G γ own cc nL fr lo) {idx : Nat} {q : Int} (hf : zSd own idx q) (hd : decode cc pc = .ok (.getstatic idx, 3)) (hn : pc + 3 = n) (kk : zVV G γ w k n ls (zr q :: st) M) : zVV G γ w k pc ls st M := by
  subst hn
  intro H locs cls h1 h2 h3
  obtain ⟨hq1, hq2, hlk⟩ := hf
  obtain ⟨cf, kf, fi, f, a, cell, z1, z2, z3, z4, z5, z6, z7, z8⟩ := ok.2.2.2.2.2.1.2.1 q hq1 hq2
  have hc : H[a]? = some cell := by rw [h1.2.1 a (Nat.not_le.mp z8)]; exact z5
  have h := kk H locs cls h1 h2 h3
  have e : zc w.1 (zr q) = .ref (zGa G q) := congrArg Value.ref (h1.2.2.2.2 q hq1)
  rw [List.map_cons, e] at h
  rcases hlk with hlk | hlk
  · exact W.gets ok.1 ok.2.1 ok.2.2.2.1 (ok.2.2.2.2.1 _ hlk) z1 z2 z3 z4 hc (fun y => by rw [y] at z6; cases z6) z7 rfl hd h
  · exact va_WgetsN ok.1 ok.2.1 ok.2.2.2.1 (va_Nw.use rfl (ok.2.2.2.2.2.1.2.2.2.1 _ hlk)) z1 z2 z3 z4 hc (fun y => by rw [y] at z6; cases z6) z7 rfl hd h
theorem v_tald (ok : zOK G γ own cc nL fr lo) {q i : Int} (hq : 300 ≤ q ∧ q < 306) (hi : 0 ≤ i ∧ i < (ztl q : Int)) (hd : decode cc pc = .ok (.iaload, 1)) (hn : pc + 1 = n) (kk : zVV G γ w k n ls (zi (ztab q i) :: st) M) : zVV G γ w k pc ls (zi i :: zr q :: st) M := by
  subst hn
  intro H locs cls h1 h2 h3
  obtain ⟨cell, y1, y2, y3, y4, y5, y6, y7⟩ := ok.2.2.2.2.2.1.2.2.1 q hq.1 (by omega)
  obtain ⟨t1, t2⟩ := ok.2.2.2.2.2.1.2.2.2.2.2 q hq.1 hq.2
  have hz : ztl q ≤ 4 := by
    unfold ztl
    split
    · decide
    · split <;> decide
  have hc : H[w.1 q]? = some cell := by rw [h1.2.2.2.2 q hq.1, h1.2.1 _ (Nat.not_le.mp y7)]; exact y1
  rw [t1] at y4 y6
  refine W.iald (v := .int (Int32.ofInt (ztab q i))) ok.1 ok.2.1 hc y2 y3 ?_ ?_ rfl rfl hd (kk H locs cls h1 h2 h3)
  · have := zn_in hi (by omega)
    exact fun q => this (q.imp id (fun y => by omega))
  · rw [zn_clamp (by omega), y6 _ (by omega), t2]
    show some (Value.int (Int32.ofInt (ztab q ((i.toNat : Nat) : Int)))) = _
    rw [zi_nat hi.1]
end ZHOPS
end
section
/-! contracts, calls, ends -/
/-- a method: name, code, locals, what it returns, frames and locals that it needs -/
abbrev zMI : Type := MethodName × ByteArray × Nat × Option FieldType × Nat × Nat
def zws (mi : zMI) : List Cond := Cond.code mi.1 mi.2.1 mi.2.2.1 mi.2.2.2.1 :: zTb
def zrm (mi : zMI) : Room := { frames := mi.2.2.2.2.1, cells := 0, slots := 0, locals := mi.2.2.2.2.2 }
def zPre (G : zG) (w : zW) (M : zM) (U : State) : Prop := zHo G w M U.heap ∧ zKn G U
/-- called with args over M, the method returns an int, and Q holds of it and of the memory then -/
def zTI (G : zG) (w : zW) (mi : zMI) (args : List zV) (M : zM) (Q : Int → zM → Prop) : Prop :=
  Met (zGl G) mi.1 (zws mi) (zrm mi) (va_Pc (args.map (zc w.1)) (zPre G w M)) (va_Qi (fun r u => ∃ x, r = Int32.ofInt x ∧ Q x u) (fun (u : zM) t => zHo G w u t.heap) (zA G)) 0 0 (zA G)
def zTV (G : zG) (w : zW) (mi : zMI) (args : List zV) (M : zM) (Q : zM → Prop) : Prop :=
  Met (zGl G) mi.1 (zws mi) (zrm mi) (va_Pc (args.map (zc w.1)) (zPre G w M)) (va_Qv Q (fun (u : zM) t => zHo G w u t.heap) (zA G)) 0 0 (zA G)
theorem zTI.weaken {G : zG} {w : zW} {mi : zMI} {args : List zV} {M : zM} {Q Q' : Int → zM → Prop} (h : zTI G w mi args M Q) (hQ : ∀ x u, Q x u → Q' x u) : zTI G w mi args M Q' := by
  intro p e ha hc hk s m a below hf hs hP hK
  obtain ⟨t, o, h1, h2, h3, ⟨⟨r, u, q1, ⟨x, q2, q3⟩, q4⟩, q5⟩, h6⟩ := h p e ha hc hk s m a below hf hs hP hK
  exact ⟨t, o, h1, h2, h3, ⟨⟨r, u, q1, ⟨x, q2, hQ _ _ q3⟩, q4⟩, q5⟩, h6⟩
theorem zTV.weaken {G : zG} {w : zW} {mi : zMI} {args : List zV} {M : zM} {Q Q' : zM → Prop} (h : zTV G w mi args M Q) (hQ : ∀ u, Q u → Q' u) : zTV G w mi args M Q' := by
  intro p e ha hc hk s m a below hf hs hP hK
  obtain ⟨t, o, h1, h2, h3, ⟨⟨u, q1, q3, q4⟩, q5⟩, h6⟩ := h p e ha hc hk s m a below hf hs hP hK
  exact ⟨t, o, h1, h2, h3, ⟨⟨u, q1, hQ _ q3, q4⟩, q5⟩, h6⟩
/-- locals at the entry -/
def zen (args : List zV) (n : Nat) : zL := (args.flatMap (fun v => if zlong (some v) = true then [some v, none] else [some v])) ++ List.replicate (n - ((args.flatMap (fun v => if zlong (some v) = true then [some v, none] else [some v])).length)) none
theorem zen_mem (ad : Int → Nat) : ∀ (args : List zV) (o i : Nat) (v : zV), (args.flatMap (fun v => if zlong (some v) = true then [some v, none] else [some v]))[i]? = some (some v) → (o + i, zc ad v) ∈ lv_args o (args.map (zc ad)) := by
  intro args
  induction args with
  | nil => intro o i v h; simp at h
  | cons a l ih =>
    intro o i v h
    rw [List.flatMap_cons] at h
    rw [List.map_cons]
    unfold lv_args
    by_cases hl : zlong (some a) = true
    · rw [if_pos hl] at h
      have hcat : (zc ad a).category = 2 := by rw [zc_cat, if_pos hl]
      rw [if_pos hcat]
      match i, h with
      | 0, h => simp at h; subst h; exact List.mem_cons_self
      | 1, h => simp at h
      | i + 2, h =>
        have := ih (o + 2) i v (by simpa using h)
        rw [show o + (i + 2) = o + 2 + i by omega]
        exact List.mem_cons_of_mem _ this
    · rw [if_neg hl] at h
      have hcat : ¬ (zc ad a).category = 2 := by rw [zc_cat, if_neg hl]; decide
      rw [if_neg hcat]
      match i, h with
      | 0, h => simp at h; subst h; exact List.mem_cons_self
      | i + 1, h =>
        have := ih (o + 1) i v (by simpa using h)
        rw [show o + (i + 1) = o + 1 + i by omega]
        exact List.mem_cons_of_mem _ this
theorem zen_len (ad : Int → Nat) (args : List zV) : (lg_sl (args.map (zc ad))).length = (args.flatMap (fun v => if zlong (some v) = true then [some v, none] else [some v])).length := by
  induction args with
  | nil => rfl
  | cons a l ih =>
    unfold lg_sl at ih ⊢
    rw [List.map_cons, List.flatMap_cons, List.flatMap_cons, List.length_append, List.length_append, ih]
    congr 1
    by_cases hl : zlong (some a) = true
    · rw [if_pos hl, if_pos (by rw [zc_cat, if_pos hl])]; rfl
    · rw [if_neg hl, if_neg (by rw [zc_cat, if_neg hl]; decide)]; rfl
/-- the end of a method with an int, the end of one with nothing -/
def zRI (G : zG) (γ : zF) (w : zW) (cc : ByteArray) (Q : Int → zM → Prop) : Prop :=
  ∀ (pc : Nat) (H : Heap) (locs : List Loc) (cls : Array Slot) (M : zM) (x : Int), decode cc pc = .ok (.ireturn, 1) → zHo G w M H → va_S (zA G) (zFs γ).heap H locs → Q x M → zWW G γ (0, 0) H locs (F0 (zFm γ) pc cls [.int (Int32.ofInt x)])
/-- the same of a boolean -/
def zRZ (G : zG) (γ : zF) (w : zW) (cc : ByteArray) (Q : Int → zM → Prop) : Prop :=
  ∀ (pc : Nat) (H : Heap) (locs : List Loc) (cls : Array Slot) (M : zM) (x : Int), decode cc pc = .ok (.ireturn, 1) → (x = 0 ∨ x = 1) → zHo G w M H → va_S (zA G) (zFs γ).heap H locs → Q x M → zWW G γ (0, 0) H locs (F0 (zFm γ) pc cls [.int (Int32.ofInt x)])
def zRV (G : zG) (γ : zF) (w : zW) (cc : ByteArray) (Q : zM → Prop) : Prop :=
  ∀ (pc : Nat) (H : Heap) (locs : List Loc) (cls : Array Slot) (M : zM), decode cc pc = .ok (.return_, 1) → zHo G w M H → va_S (zA G) (zFs γ).heap H locs → Q M → zWW G γ (0, 0) H locs (F0 (zFm γ) pc cls [])
theorem v_iret {G : zG} {γ : zF} {w : zW} {cc : ByteArray} {pc : Nat} {ls : zL} {M : zM} {Q : Int → zM → Prop} {x : Int} (rt : zRI G γ w cc Q) (hd : decode cc pc = .ok (.ireturn, 1)) (hq : Q x M) : zVV G γ w (0, 0) pc ls [zi x] M :=
  fun H locs cls h1 h2 _ => rt pc H locs cls M x hd h1 h2 hq
theorem v_zret {G : zG} {γ : zF} {w : zW} {cc : ByteArray} {pc : Nat} {ls : zL} {M : zM} {Q : Int → zM → Prop} {x : Int} (rt : zRZ G γ w cc Q) (hd : decode cc pc = .ok (.ireturn, 1)) (hx : x = 0 ∨ x = 1) (hq : Q x M) : zVV G γ w (0, 0) pc ls [zi x] M :=
  fun H locs cls h1 h2 _ => rt pc H locs cls M x hd hx h1 h2 hq
theorem v_vret {G : zG} {γ : zF} {w : zW} {cc : ByteArray} {pc : Nat} {ls : zL} {M : zM} {Q : zM → Prop} (rt : zRV G γ w cc Q) (hd : decode cc pc = .ok (.return_, 1)) (hq : Q M) : zVV G γ w (0, 0) pc ls [] M :=
  fun H locs cls h1 h2 _ => rt pc H locs cls M hd h1 h2 hq
section ZMET
variable {G : zG} {w : zW} {y : MethodName} {cc : ByteArray} {nL fr lo : Nat} {args : List zV} {M : zM} {ls : zL}
theorem zentry {own : String} {ret : Option FieldType} {p : Program} {e : Env} {s : State} {m : MethodId} {a : Array Value} {below : List Frame} {meth : Method} {c : Code} {s₁ : State} {Qf : State → Prop} (hy : y.cls = own) (hls : zen args nL = ls) (hlen : ls.length ≤ nL)
    (B : BodyLoose p (zGl G) y (headSpec (zws (y, cc, nL, ret, fr, lo)) (zrm (y, cc, nL, ret, fr, lo))) cc nL ret e s m a below meth c s₁) (hml : c.maxLocals = nL) (hP : va_Pc (args.map (zc w.1)) (zPre G w M) a s)
    (body : ∀ γ : zF, γ = (p, e, zrm (y, cc, nL, ret, fr, lo), s, m, a, below, meth, c, Qf) → zOK G γ own cc nL fr lo → zVV G γ w (0, 0) 0 ls [] M) :
    W p (zGl G) e (headSpec (zws (y, cc, nL, ret, fr, lo)) (zrm (y, cc, nL, ret, fr, lo))).room s m a below meth c s.heap [] 0 0 Qf (entryFrame m a nL) := by
  obtain ⟨rfl, hH, hKn⟩ := hP
  have hts := atoms_spec (ws := zws (y, cc, nL, ret, fr, lo)) B.pre
  have ok : zOK G (p, e, zrm (y, cc, nL, ret, fr, lo), s, m, (args.map (zc w.1)).toArray, below, meth, c, Qf) own cc nL fr lo :=
    ⟨B.exec, B.bytes, hml, hy ▸ findClass_of_methodNamed B.named, fun x hx => hts x (List.mem_cons_of_mem _ hx), hKn, Nat.le_refl _, Nat.le_refl _⟩
  have hb := body _ rfl ok
  have hle : (lg_sl (args.map (zc w.1))).length ≤ nL := by
    rw [zen_len]
    rw [← hls] at hlen
    unfold zen at hlen
    rw [List.length_append] at hlen
    omega
  have hl := lv_entry (args.map (zc w.1)) (n := nL) hle
  rw [lg_entry_eq]
  refine hb s.heap [] _ hH va_S.rf ?_
  show zlh w.1 _ c.maxLocals ls
  rw [hml]
  refine zlh_sub hl fun i v hv => ?_
  rw [← hls] at hv
  unfold zen at hv
  by_cases hi : i < (args.flatMap (fun v => if zlong (some v) = true then [some v, none] else [some v])).length
  · rw [List.getElem?_append_left hi] at hv
    have := zen_mem w.1 args 0 i v hv
    rw [Nat.zero_add] at this
    exact this
  · rw [List.getElem?_append_right (by omega)] at hv
    rw [List.getElem?_replicate] at hv
    split at hv <;> cases hv
theorem zTI.of {Q : Int → zM → Prop} {own : String} (hy : plainName y.cls = true) (hown : y.cls = own) (hls : zen args nL = ls) (hlen : ls.length ≤ nL) (body : ∀ γ : zF, zOK G γ own cc nL fr lo → zRI G γ w cc Q → zVV G γ w (0, 0) 0 ls [] M) : zTI G w (y, cc, nL, some .int, fr, lo) args M Q := by
  refine Met.ofW (cc := cc) (maxL := nL) (ret := some .int) hy rfl ?_
  intro p e s m a below meth c s₁ B hml hP
  refine zentry hown hls hlen B hml hP fun γ hγ ok => body γ ok ?_
  subst hγ
  intro pc H locs cls M' x hd hH hS hq
  have hlocks := B.notSynchronized
  exact W.iret B.exec B.bytes B.returns (fun t ht hW => ⟨⟨_, M', rfl, ⟨x, rfl, hq⟩, by show zHo G w M' t.heap; rw [ht]; exact hH⟩, hS.F ht⟩) hS.2.2 hd
theorem zTI.ofZ {Q : Int → zM → Prop} {own : String} (hy : plainName y.cls = true) (hown : y.cls = own) (hls : zen args nL = ls) (hlen : ls.length ≤ nL) (body : ∀ γ : zF, zOK G γ own cc nL fr lo → zRZ G γ w cc Q → zVV G γ w (0, 0) 0 ls [] M) : zTI G w (y, cc, nL, some .boolean, fr, lo) args M Q := by
  refine Met.ofW (cc := cc) (maxL := nL) (ret := some .boolean) hy rfl ?_
  intro p e s m a below meth c s₁ B hml hP
  refine zentry hown hls hlen B hml hP fun γ hγ ok => body γ ok ?_
  subst hγ
  intro pc H locs cls M' x hd hx hH hS hq
  have hlocks := B.notSynchronized
  exact W.zret B.exec B.bytes B.returns (by rcases hx with rfl | rfl <;> rfl) (fun t ht hW => ⟨⟨_, M', rfl, ⟨x, rfl, hq⟩, by show zHo G w M' t.heap; rw [ht]; exact hH⟩, hS.F ht⟩) hS.2.2 hd
theorem zTV.of {Q : zM → Prop} {own : String} (hy : plainName y.cls = true) (hown : y.cls = own) (hls : zen args nL = ls) (hlen : ls.length ≤ nL) (body : ∀ γ : zF, zOK G γ own cc nL fr lo → zRV G γ w cc Q → zVV G γ w (0, 0) 0 ls [] M) : zTV G w (y, cc, nL, none, fr, lo) args M Q := by
  refine Met.ofW (cc := cc) (maxL := nL) (ret := none) hy rfl ?_
  intro p e s m a below meth c s₁ B hml hP
  refine zentry hown hls hlen B hml hP fun γ hγ ok => body γ ok ?_
  subst hγ
  intro pc H locs cls M' hd hH hS hq
  have hlocks := B.notSynchronized
  exact W.vret B.exec B.bytes B.returns (fun t ht hW => ⟨⟨M', rfl, hq, by show zHo G w M' t.heap; rw [ht]; exact hH⟩, hS.F ht⟩) hS.2.2 hd
end ZMET
/-! calls -/
def zMc (mi : zMI) (n : Nat) : Prop := Cond.code mi.1 mi.2.1 mi.2.2.1 mi.2.2.2.1 ∈ zTb ∧ mi.1.cls ≠ "java/lang/invoke/MethodHandle" ∧ mi.1.cls ≠ "java/lang/invoke/VarHandle" ∧ (parseMethodDescriptor mi.1.desc).map (fun d => d.parameters.length) = some n
def zCv (own : String) (idx : Nat) (y : MethodName) : Prop := Cond.methodLink own idx y ∈ zTb ∧ Cond.instanceMethod y ∈ zTb ∧ Cond.selects y.cls y y ∈ zTb ∧ Cond.initialized y.cls ∈ zTb
def zCs (own : String) (idx : Nat) (y : MethodName) : Prop := (Cond.methodLink own idx y ∈ zTb ∨ Cond.methodLinkNest own idx y RX7 ∈ zNs) ∧ Cond.static y ∈ zTb ∧ Cond.initialized y.cls ∈ zTb
theorem zTb_good : ∀ w ∈ zTb, (w.onTables && w.keeps) = true ∨ ∃ ty, w = .arrayClass ty := fun _ hw => good_of_word (List.mem_filter.mp hw).2
theorem zPre_blind {G : zG} {w : zW} {M : zM} {av : List Value} : FrameBlind (va_Pc av (zPre G w M)) := fun _ U g mk h => ⟨h.1, h.2.1, zKn_same (s := U) rfl h.2.2⟩
def zcs (st : List zV) : Nat := (st.map (fun v => if zlong (some v) = true then 2 else 1)).sum
theorem zcs_eq (ad : Int → Nat) (st : List zV) : ((st.map (zc ad)).map (fun v => v.category)).sum = zcs st := by
  unfold zcs
  rw [List.map_map]
  congr 1
  apply List.map_congr_left
  intro v _
  exact zc_cat ad v
section ZCALL
variable {G : zG} {γ : zF} {w : zW} {k : Nat × Nat} {own : String} {cc : ByteArray} {nL fr lo pc n idx : Nat} {ls : zL} {st : List zV} {M : zM} {mi : zMI} {args : List zV}
theorem zcallB (ok : zOK G γ own cc nL fr lo) {na : Nat} (hm : zMc mi na) (hi : Cond.initialized mi.1.cls ∈ zTb) (hf : mi.2.2.2.2.1 + 1 ≤ fr ∧ 8 + (mi.2.2.1 + 11) + mi.2.2.2.2.2 ≤ lo) :
    (zrm mi).cells = 0 ∧ (zrm mi).slots = 0 ∧ (zrm mi).frames + 1 ≤ (zFR γ).frames ∧ 8 + (mi.2.2.1 + 11) + (zrm mi).locals ≤ (zFR γ).locals ∧ (∀ w ∈ zws mi, ∀ (a' : Array Value) (U : State), (zFs γ).WarmedH U.vm → w.before a' U = true) ∧ Cond.code mi.1 mi.2.1 mi.2.2.1 mi.2.2.2.1 ∈ zws mi ∧
      (Cond.code mi.1 mi.2.1 mi.2.2.1 mi.2.2.2.1).before (zFa γ) (zFs γ) = true ∧ (Cond.initialized mi.1.cls).before (zFa γ) (zFs γ) = true ∧ (mi.1.cls ≠ "java/lang/invoke/MethodHandle" ∧ mi.1.cls ≠ "java/lang/invoke/VarHandle") ∧ (∀ sig, parseMethodDescriptor mi.1.desc = some sig → na = sig.parameters.length) := by
  obtain ⟨hc, hd1, hd2, hd3⟩ := hm
  refine ⟨rfl, rfl, Nat.le_trans hf.1 ok.2.2.2.2.2.2.1, Nat.le_trans hf.2 ok.2.2.2.2.2.2.2, fun x hx a' U hW => ?_, List.mem_cons_self, ok.2.2.2.2.1 _ hc, ok.2.2.2.2.1 _ hi, ⟨hd1, hd2⟩, fun sig h => ?_⟩
  · rcases List.mem_cons.mp hx with rfl | hx
    · exact word_at hW (zTb_good _ hc) (ok.2.2.2.2.1 _ hc)
    · exact word_at hW (zTb_good _ hx) (ok.2.2.2.2.1 _ hx)
  · rw [h] at hd3
    exact (Option.some.inj hd3).symm
theorem zrunS (ok : zOK G γ own cc nL fr lo) {na : Nat} {H : Heap} {locs : List Loc} {cls : Array Slot} {Qc : Array Value → State → Outcome → State → Prop} (hM : Met (zGl G) mi.1 (zws mi) (zrm mi) (va_Pc (args.map (zc w.1)) (zPre G w M)) Qc 0 0 (zA G)) (hm : zMc mi na) (hs : zCs own idx mi.1) (hf : mi.2.2.2.2.1 + 1 ≤ fr ∧ 8 + (mi.2.2.1 + 11) + mi.2.2.2.2.2 ≤ lo) (hna : args.length = na) (hst : zcs st ≤ 8) (hk : k.1 ≤ (zFR γ).cells ∧ k.2 ≤ (zFR γ).slots)
    (hd : decode cc pc = .ok (.invokestatic idx, 3)) (h1 : zHo G w M H) (h3 : zlh w.1 cls (zFc γ).maxLocals ls) :
    va_Run γ.1 (zGl G) γ.2.1 (zFR γ) (zFs γ) (zFm γ) (zFa γ) γ.2.2.2.2.2.2.1 (zFt γ) (zFc γ) H locs k.1 k.2 0 0 (F0 (zFm γ) pc cls ((args.reverse ++ st).map (zc w.1))) (st.map (zc w.1)) (Qc (args.map (zc w.1)).toArray) (zA G) := by
  have hB := zcallB ok hm hs.2.2 hf
  have S : CallFix γ.1 (zFm γ) (zFc γ) cc nL (zFs γ) (zFa γ) zTb own := ⟨ok.1, ok.2.1, ok.2.2.1, ok.2.2.2.1, ok.2.2.2.2.1⟩
  have hp : PreS (zFs γ) H (va_Pc (args.map (zc w.1)) (zPre G w M)) (args.map (zc w.1)) := ⟨zPre_blind, fun U hU hW => ⟨rfl, by rw [hU]; exact h1, zKn_warm hW ok.2.2.2.2.2.1⟩⟩
  have hW : 2 * (F0 (zFm γ) pc cls ((args.reverse ++ st).map (zc w.1))).monitorRoom + ((st.map (zc w.1)).map fun v => v.category).sum ≤ 8 := lv_room (by rw [zcs_eq]; exact hst)
  rcases hs.1 with hl | hl
  · exact va_runS S hM ⟨⟨hB.1, hB.2.1, hB.2.2.1, hB.2.2.2.1, hB.2.2.2.2.1, hB.2.2.2.2.2.1, hB.2.2.2.2.2.2.1, hB.2.2.2.2.2.2.2.1, hB.2.2.2.2.2.2.2.2.1, hB.2.2.2.2.2.2.2.2.2, ok.2.2.2.2.1 _ hl⟩, ok.2.2.2.2.1 _ hs.2.1⟩ hp rfl (by rw [List.length_map]; exact hna) (h3.1.trans ok.2.2.1) (by show ((args.reverse ++ st).map (zc w.1)) = _; rw [List.map_append, List.map_reverse]) hW hd hk
  · exact va_runSN S hM ⟨⟨⟨hB.1, hB.2.1, hB.2.2.1, hB.2.2.2.1, hB.2.2.2.2.1, hB.2.2.2.2.2.1⟩, hB.2.2.2.2.2.2.1, hB.2.2.2.2.2.2.2.1, hB.2.2.2.2.2.2.2.2.1, hB.2.2.2.2.2.2.2.2.2, va_Nw.use rfl (ok.2.2.2.2.2.1.2.2.2.1 _ hl)⟩, ok.2.2.2.2.1 _ hs.2.1, trivial⟩ hp rfl (by rw [List.length_map]; exact hna) (h3.1.trans ok.2.2.1) (by show ((args.reverse ++ st).map (zc w.1)) = _; rw [List.map_append, List.map_reverse]) hW hd hk
theorem zrunV (ok : zOK G γ own cc nL fr lo) {na : Nat} {H : Heap} {locs : List Loc} {cls : Array Slot} {r b : Int} {c : Nat} {q : vw_C} {Qc : Array Value → State → Outcome → State → Prop} (hM : Met (zGl G) mi.1 (zws mi) (zrm mi) (va_Pc ((zr r :: args).map (zc w.1)) (zPre G w M)) Qc 0 0 (zA G)) (hm : zMc mi na) (hs : zCv own idx mi.1) (hl : zlay r = (6, c, b)) (ha : w.2.1 r = true) (hc : zcl[c]? = some q) (hq : q.1 = mi.1.cls) (hf : mi.2.2.2.2.1 + 1 ≤ fr ∧ 8 + (mi.2.2.1 + 11) + mi.2.2.2.2.2 ≤ lo) (hna : args.length = na) (hst : zcs st ≤ 8) (hk : k.1 ≤ (zFR γ).cells ∧ k.2 ≤ (zFR γ).slots)
    (hd : decode cc pc = .ok (.invokevirtual idx, 3)) (h1 : zHo G w M H) (h3 : zlh w.1 cls (zFc γ).maxLocals ls) :
    va_Run γ.1 (zGl G) γ.2.1 (zFR γ) (zFs γ) (zFm γ) (zFa γ) γ.2.2.2.2.2.2.1 (zFt γ) (zFc γ) H locs k.1 k.2 0 0 (F0 (zFm γ) pc cls ((args.reverse ++ zr r :: st).map (zc w.1))) (st.map (zc w.1)) (Qc ((zr r :: args).map (zc w.1)).toArray) (zA G) := by
  have hB := zcallB ok hm hs.2.2.2 hf
  have S : CallFix γ.1 (zFm γ) (zFc γ) cc nL (zFs γ) (zFa γ) zTb own := ⟨ok.1, ok.2.1, ok.2.2.1, ok.2.2.2.1, ok.2.2.2.2.1⟩
  obtain ⟨cell, q1, q2, q3, q4⟩ := zHo_obj h1 ha hl hc
  have hcl := (ok.2.2.2.2.2.1.1.1 c _ hc).2.1
  have hp : PreV (zFs γ) H mi.1.cls (w.1 r) (va_Pc ((zr r :: args).map (zc w.1)) (zPre G w M)) (args.map (zc w.1)) := ⟨zPre_blind, ⟨cell, q1, by rw [q3]; rfl, by rw [q2, ← hq]; exact hcl⟩, fun U hU hW => ⟨rfl, by rw [hU]; exact h1, zKn_warm hW ok.2.2.2.2.2.1⟩⟩
  have hW : 2 * (F0 (zFm γ) pc cls ((args.reverse ++ zr r :: st).map (zc w.1))).monitorRoom + ((st.map (zc w.1)).map fun v => v.category).sum ≤ 8 := lv_room (by rw [zcs_eq]; exact hst)
  exact va_runV S hM ⟨⟨hB.1, hB.2.1, hB.2.2.1, hB.2.2.2.1, hB.2.2.2.2.1, hB.2.2.2.2.2.1, hB.2.2.2.2.2.2.1, hB.2.2.2.2.2.2.2.1, hB.2.2.2.2.2.2.2.2.1, hB.2.2.2.2.2.2.2.2.2, ok.2.2.2.2.1 _ hs.1⟩, ok.2.2.2.2.1 _ hs.2.1, ok.2.2.2.2.1 _ hs.2.2.1⟩ hp rfl (by rw [List.length_map]; exact hna) (h3.1.trans ok.2.2.1) (by show ((args.reverse ++ zr r :: st).map (zc w.1)) = _; rw [List.map_append, List.map_reverse]; rfl) hW hd hk
theorem v_callSI (ok : zOK G γ own cc nL fr lo) {na : Nat} {Q : Int → zM → Prop} (hm : zMc mi na) (hs : zCs own idx mi.1) (hf : mi.2.2.2.2.1 + 1 ≤ fr ∧ 8 + (mi.2.2.1 + 11) + mi.2.2.2.2.2 ≤ lo) (hk : k.1 ≤ (zFR γ).cells ∧ k.2 ≤ (zFR γ).slots) (hd : decode cc pc = .ok (.invokestatic idx, 3)) (hn : pc + 3 = n) {st0 : List zV} (hst0 : args.reverse ++ st = st0) (hna : args.length = na) (hst : zcs st ≤ 8) (hT : zTI G w mi args M Q) (kk : ∀ x M', Q x M' → zVV G γ w k n ls (zi x :: st) M') : zVV G γ w k pc ls st0 M := by
  subst hn
  subst hst0
  intro H locs cls h1 h2 h3
  refine va_calli (zrunS (st := st) ok hT hm hs hf hna hst hk hd h1 h3) h2 (fun q _ hq => hq) (fun q hq => hq) ?_
  rintro r u t H1 locs1 ht hvm ⟨x, rfl, hq⟩ hB hz hk1 hS
  exact kk x u hq H1 locs1 cls (by rw [← ht]; exact hB) hS h3
theorem v_callSV (ok : zOK G γ own cc nL fr lo) {na : Nat} {Q : zM → Prop} (hm : zMc mi na) (hs : zCs own idx mi.1) (hf : mi.2.2.2.2.1 + 1 ≤ fr ∧ 8 + (mi.2.2.1 + 11) + mi.2.2.2.2.2 ≤ lo) (hk : k.1 ≤ (zFR γ).cells ∧ k.2 ≤ (zFR γ).slots) (hd : decode cc pc = .ok (.invokestatic idx, 3)) (hn : pc + 3 = n) {st0 : List zV} (hst0 : args.reverse ++ st = st0) (hna : args.length = na) (hst : zcs st ≤ 8) (hT : zTV G w mi args M Q) (kk : ∀ M', Q M' → zVV G γ w k n ls st M') : zVV G γ w k pc ls st0 M := by
  subst hn
  subst hst0
  intro H locs cls h1 h2 h3
  refine va_callv (zrunS (st := st) ok hT hm hs hf hna hst hk hd h1 h3) h2 (fun q _ hq => hq) (fun q hq => hq) ?_
  rintro u t H1 locs1 ht hvm hq hB hz hk1 hS
  exact kk u hq H1 locs1 cls (by rw [← ht]; exact hB) hS h3
theorem v_callVI (ok : zOK G γ own cc nL fr lo) {na : Nat} {r b : Int} {c : Nat} {q : vw_C} {Q : Int → zM → Prop} (hm : zMc mi na) (hs : zCv own idx mi.1) (hl : zlay r = (6, c, b)) (ha : w.2.1 r = true) (hc : zcl[c]? = some q) (hq : q.1 = mi.1.cls) (hf : mi.2.2.2.2.1 + 1 ≤ fr ∧ 8 + (mi.2.2.1 + 11) + mi.2.2.2.2.2 ≤ lo) (hk : k.1 ≤ (zFR γ).cells ∧ k.2 ≤ (zFR γ).slots) (hd : decode cc pc = .ok (.invokevirtual idx, 3)) (hn : pc + 3 = n) {st0 : List zV} (hst0 : args.reverse ++ zr r :: st = st0) (hna : args.length = na) (hst : zcs st ≤ 8) (hT : zTI G w mi (zr r :: args) M Q) (kk : ∀ x M', Q x M' → zVV G γ w k n ls (zi x :: st) M') : zVV G γ w k pc ls st0 M := by
  subst hn
  subst hst0
  intro H locs cls h1 h2 h3
  refine va_calli (zrunV (st := st) ok hT hm hs hl ha hc hq hf hna hst hk hd h1 h3) h2 (fun q _ hq => hq) (fun q hq => hq) ?_
  rintro r u t H1 locs1 ht hvm ⟨x, rfl, hq⟩ hB hz hk1 hS
  exact kk x u hq H1 locs1 cls (by rw [← ht]; exact hB) hS h3
theorem v_callVV (ok : zOK G γ own cc nL fr lo) {na : Nat} {r b : Int} {c : Nat} {q : vw_C} {Q : zM → Prop} (hm : zMc mi na) (hs : zCv own idx mi.1) (hl : zlay r = (6, c, b)) (ha : w.2.1 r = true) (hc : zcl[c]? = some q) (hq : q.1 = mi.1.cls) (hf : mi.2.2.2.2.1 + 1 ≤ fr ∧ 8 + (mi.2.2.1 + 11) + mi.2.2.2.2.2 ≤ lo) (hk : k.1 ≤ (zFR γ).cells ∧ k.2 ≤ (zFR γ).slots) (hd : decode cc pc = .ok (.invokevirtual idx, 3)) (hn : pc + 3 = n) {st0 : List zV} (hst0 : args.reverse ++ zr r :: st = st0) (hna : args.length = na) (hst : zcs st ≤ 8) (hT : zTV G w mi (zr r :: args) M Q) (kk : ∀ M', Q M' → zVV G γ w k n ls st M') : zVV G γ w k pc ls st0 M := by
  subst hn
  subst hst0
  intro H locs cls h1 h2 h3
  refine va_callv (zrunV (st := st) ok hT hm hs hl ha hc hq hf hna hst hk hd h1 h3) h2 (fun q _ hq => hq) (fun q hq => hq) ?_
  rintro u t H1 locs1 ht hvm hq hB hz hk1 hS
  exact kk u hq H1 locs1 cls (by rw [← ht]; exact hB) hS h3
/-! Math.max, Math.min, System.arraycopy -/
def zmax (x y : Int) : Int := if x < y then y else x
def zmin (x y : Int) : Int := if y < x then y else x
def zmm (own : String) (idx : Nat) (y : MethodName) (b : ByteArray) : Prop := Cond.methodLink own idx y ∈ zTb ∧ Cond.static y ∈ zTb ∧ Cond.initialized "java/lang/Math" ∈ zTb ∧ Cond.code y b 2 (some .int) ∈ zTb
theorem v_max (ok : zOK G γ own cc nL fr lo) {x y : Int} (hs : zmm own idx Lib.Math.max.name Lib.Math.max.code) (hf : 1 ≤ fr ∧ zcs st + 13 ≤ lo) (hk : k.1 ≤ (zFR γ).cells ∧ k.2 ≤ (zFR γ).slots) (hx : -2147483648 ≤ x ∧ x ≤ 2147483647) (hy : -2147483648 ≤ y ∧ y ≤ 2147483647) (hd : decode cc pc = .ok (.invokestatic idx, 3)) (hn : pc + 3 = n) (kk : zVV G γ w k n ls (zi (zmax x y) :: st) M) : zVV G γ w k pc ls (zi y :: zi x :: st) M := by
  subst hn
  intro H locs cls h1 h2 h3
  have h := kk H locs cls h1 h2 h3
  have e : zc w.1 (zi (zmax x y)) = .int (if Int32.ofInt x < Int32.ofInt y then Int32.ofInt y else Int32.ofInt x) := by
    refine congrArg Value.int ?_
    unfold zmax
    by_cases c : x < y
    · rw [if_pos c, if_pos ((zn_lt hx hy).mpr c)]
    · rw [if_neg c, if_neg (fun q => c ((zn_lt hx hy).mp q))]
  rw [List.map_cons, e] at h
  exact va_mmax ok.1 ok.2.1 h3.1.symm ok.2.2.2.1 (ok.2.2.2.2.1 _ hs.1) (ok.2.2.2.2.1 _ hs.2.1) (ok.2.2.2.2.1 _ hs.2.2.1) (ok.2.2.2.2.1 _ hs.2.2.2) (Nat.le_trans hf.1 ok.2.2.2.2.2.2.1) (by rw [zcs_eq]; exact Nat.le_trans hf.2 ok.2.2.2.2.2.2.2) hk.1 hk.2 hd h
theorem v_min (ok : zOK G γ own cc nL fr lo) {x y : Int} (hs : zmm own idx Lib.Math.min.name Lib.Math.min.code) (hf : 1 ≤ fr ∧ zcs st + 13 ≤ lo) (hk : k.1 ≤ (zFR γ).cells ∧ k.2 ≤ (zFR γ).slots) (hx : -2147483648 ≤ x ∧ x ≤ 2147483647) (hy : -2147483648 ≤ y ∧ y ≤ 2147483647) (hd : decode cc pc = .ok (.invokestatic idx, 3)) (hn : pc + 3 = n) (kk : zVV G γ w k n ls (zi (zmin x y) :: st) M) : zVV G γ w k pc ls (zi y :: zi x :: st) M := by
  subst hn
  intro H locs cls h1 h2 h3
  have h := kk H locs cls h1 h2 h3
  have e : zc w.1 (zi (zmin x y)) = .int (if Int32.ofInt y < Int32.ofInt x then Int32.ofInt y else Int32.ofInt x) := by
    refine congrArg Value.int ?_
    unfold zmin
    by_cases c : y < x
    · rw [if_pos c, if_pos ((zn_lt hy hx).mpr c)]
    · rw [if_neg c, if_neg (fun q => c ((zn_lt hy hx).mp q))]
  rw [List.map_cons, e] at h
  exact va_mmin ok.1 ok.2.1 h3.1.symm ok.2.2.2.1 (ok.2.2.2.2.1 _ hs.1) (ok.2.2.2.2.1 _ hs.2.1) (ok.2.2.2.2.1 _ hs.2.2.1) (ok.2.2.2.2.1 _ hs.2.2.2) (Nat.le_trans hf.1 ok.2.2.2.2.2.2.1) (by rw [zcs_eq]; exact Nat.le_trans hf.2 ok.2.2.2.2.2.2.2) hk.1 hk.2 hd h
def zcpy (M : zM) (rs sp rd dp n : Int) : zM := fun r j => if r = rd ∧ dp ≤ j ∧ j < dp + n then M rs (sp + (j - dp)) else M r j
def zac (own : String) (idx : Nat) : Prop := Cond.methodLink own idx arraycopyName ∈ zTb ∧ Cond.native arraycopyName ∈ zTb ∧ Cond.static arraycopyName ∈ zTb ∧ Cond.initialized "java/lang/System" ∈ zTb
theorem v_copy (ok : zOK G γ own cc nL fr lo) {m0 m1 : Nat} {r0 r1 b0 b1 sp dp c : Int} (hs : zac own idx) (hf : 1 ≤ fr ∧ zcs st + (nativeFrameWords "java/lang/System" "arraycopy" 5 + 11) ≤ lo) (hl0 : zlay r0 = (0, m0, b0)) (ha0 : w.2.1 r0 = true) (hl1 : zlay r1 = (0, m1, b1)) (ha1 : w.2.1 r1 = true) (hm : m0 ≤ 2147483647 ∧ m1 ≤ 2147483647)
    (hsp : 0 ≤ sp ∧ sp + c ≤ (m0 : Int)) (hdp : 0 ≤ dp ∧ dp + c ≤ (m1 : Int)) (hc : 0 ≤ c) (hd : decode cc pc = .ok (.invokestatic idx, 3)) (hn : pc + 3 = n) (kk : zVV G γ w k n ls st (zcpy M r0 sp r1 dp c)) : zVV G γ w k pc ls (zi c :: zi dp :: zr r1 :: zi sp :: zr r0 :: st) M := by
  subst hn
  intro H locs cls h1 h2 h3
  have hc0 := zHo_arr h1 ha0 hl0 (by omega)
  have hc1 := zHo_arr h1 ha1 hl1 (by omega)
  have e0 : zct w M r0 0 b0 = .inl (fun j => Int32.ofInt (M r0 j)) := rfl
  have e1 : zct w M r1 0 b1 = .inl (fun j => Int32.ofInt (M r1 j)) := rfl
  rw [e0] at hc0
  rw [e1] at hc1
  have lv0 : zlv w r0 := ⟨ha0, by rw [hl0]; show 0 ≤ 6; omega⟩
  have lv1 : zlv w r1 := ⟨ha1, by rw [hl1]; show 0 ≤ 6; omega⟩
  have hA0 := (h1.2.2.1 r0 lv0).1
  have hA1 := (h1.2.2.1 r1 lv1).1
  have hkn := ok.2.2.2.2.2.1
  have n1 := zn_neg (x := sp) (by omega)
  have n2 := zn_neg (x := dp) (by omega)
  have n3 := zn_neg (x := c) (by omega)
  have k1 := zn_clamp (x := sp) (by omega)
  have k2 := zn_clamp (x := dp) (by omega)
  have k3 := zn_clamp (x := c) (by omega)
  have fin : ∀ (H1 : Heap) (locs1 : List Loc), H1.size = H.size → (∀ q : Nat, q ≠ w.1 r1 → H1[q]? = H[q]?) → H1[w.1 r1]? = some (vp_cell (zGc G 0) (m1, .inl (va_cpy (fun j : Nat => Int32.ofInt (M r0 j)) (fun j : Nat => Int32.ofInt (M r1 j)) sp.toNat dp.toNat c.toNat))) → va_S (zA G) (zFs γ).heap H1 locs1 → zWW G γ k H1 locs1 (F0 (zFm γ) (pc + 3) cls (st.map (zc w.1))) := by
    intro H1 locs1 z oq e hS
    refine kk H1 locs1 cls (zHo_put h1 lv1 (fun r' hr' => ?_) z oq ?_) hS h3
    · funext j
      unfold zcpy
      rw [if_neg (fun q => hr' q.1)]
    · have e9 : zce G w (zcpy M r0 sp r1 dp c) r1 = .inl (zGc G 0, m1, .inl (fun j => Int32.ofInt (zcpy M r0 sp r1 dp c r1 j))) := by
        unfold zce
        rw [hl1]
        rfl
      rw [e9]
      show H1[w.1 r1]? = some (vp_cell _ _)
      rw [e]
      congr 4
      funext j
      unfold va_cpy zcpy
      by_cases hj : dp.toNat ≤ j ∧ j < dp.toNat + c.toNat
      · rw [if_pos hj, if_pos ⟨rfl, by omega, by omega⟩]
        have e7 : ((sp.toNat + (j - dp.toNat) : Nat) : Int) = sp + ((j : Int) - dp) := by omega
        show Int32.ofInt (M r0 ((sp.toNat + (j - dp.toNat) : Nat) : Int)) = _
        rw [e7]
      · rw [if_neg hj, if_neg (fun q => hj (by omega))]
  have key : zWW G γ k H locs (F0 (zFm γ) pc cls ((zi c :: zi dp :: zr r1 :: zi sp :: zr r0 :: st).map (zc w.1))) := by
    intro T hT X
    have nn : ∀ z : Int, (0 ≤ z ∧ z ≤ 2147483647) → (Int32.ofInt z).toInt = ((Int32.ofInt z).toNatClampNeg : Int) := fun z hz => by rw [zn_clamp hz, zn_toI (by omega)]; omega
    obtain ⟨-, x0, y0, cm0, kk0⟩ := (zKn_arr hkn (t := 0) (by omega)).1 m0 (fun j => .int (Int32.ofInt (M r0 j)))
    obtain ⟨-, x1, y1, cm1, kk1⟩ := (zKn_arr hkn (t := 0) (by omega)).1 m1 (fun j => .int (Int32.ofInt (M r1 j)))
    obtain ⟨vm', X', step⟩ := X.arraycopy ok.1 ok.2.2.2.1 (ok.2.2.2.2.1 _ hs.1) (ok.2.2.2.2.1 _ hs.2.1) (ok.2.2.2.2.1 _ hs.2.2.1) (ok.2.2.2.2.1 _ hs.2.2.2) (src := w.1 r0) (dst := w.1 r1) (cs := vp_cell (zGc G 0) (m0, .inl (fun j => Int32.ofInt (M r0 j)))) (cd := vp_cell (zGc G 0) (m1, .inl (fun j => Int32.ofInt (M r1 j)))) (srcPos := Int32.ofInt sp) (destPos := Int32.ofInt dp) (n := Int32.ofInt c) (by rw [hT]; exact hc0) (by rw [hT]; exact hc1)
      (fun _ h => by cases h) (fun _ h => by cases h) (fun h => by cases h) (fun h => by cases h) y0 y1 kk0 kk1 (by rfl) n1 n2 n3
      (by rw [nn sp (by omega), nn c (by omega), k1, k3]; show ¬ _ > ((arrV (zGc G 0) m0 (fun j => .int (Int32.ofInt (M r0 j)))).slots.size : Int); rw [arrV_size]; omega)
      (by rw [nn dp (by omega), nn c (by omega), k2, k3]; show ¬ _ > ((arrV (zGc G 0) m1 (fun j => .int (Int32.ofInt (M r1 j)))).slots.size : Int); rw [arrV_size]; omega)
      (fun vm₁ _ i hi => by
        rw [k3] at hi
        rw [k1]
        have e : (vp_cell (zGc G 0) (m0, .inl (fun j => Int32.ofInt (M r0 j)))).slots.getD (sp.toNat + i) .null = .int (Int32.ofInt (M r0 ((sp.toNat + i : Nat) : Int))) := by
          show (arrV (zGc G 0) m0 (fun j => .int (Int32.ofInt (M r0 j)))).slots.getD _ _ = _
          rw [Array.getD_eq_getD_getElem?, arrV_read _ _ (by omega)]
          rfl
        refine ⟨?_, ?_⟩
        · rw [e]
          rfl
        · rw [e]
          exact trivial)
      (g := F0 (zFm γ) pc cls ((zi c :: zi dp :: zr r1 :: zi sp :: zr r0 :: st).map (zc w.1))) rfl h3.1 (rest := st.map (zc w.1)) rfl (by rw [ok.2.1]; exact hd) (Nat.le_trans hf.1 ok.2.2.2.2.2.2.1) (by show 2 * 0 + _ + _ ≤ _; rw [zcs_eq]; have := ok.2.2.2.2.2.2.2; omega)
    have e1 : copied (vp_cell (zGc G 0) (m0, .inl (fun j => Int32.ofInt (M r0 j)))) (vp_cell (zGc G 0) (m1, .inl (fun j => Int32.ofInt (M r1 j)))) (Int32.ofInt sp) (Int32.ofInt dp) (Int32.ofInt c) = vp_cell (zGc G 0) (m1, .inl (va_cpy (fun j : Nat => Int32.ofInt (M r0 j)) (fun j : Nat => Int32.ofInt (M r1 j)) sp.toNat dp.toNat c.toNat)) := by
      have := va_copied (fun z => .int z) (zGc G 0) (zGc G 0) (n0 := m0) (n1 := m1) (sp := sp.toNat) (dp := dp.toNat) (n := c.toNat) (fun j : Nat => Int32.ofInt (M r0 j)) (fun j : Nat => Int32.ofInt (M r1 j)) (by omega)
      unfold copied
      rw [k1, k2, k3]
      exact this
    rw [e1] at X' step
    have hl : w.1 r1 < H.size := (Array.getElem?_eq_some_iff.mp hc1).1
    have oq : ∀ q : Nat, q ≠ w.1 r1 → (H.setIfInBounds (w.1 r1) (vp_cell (zGc G 0) (m1, .inl (va_cpy (fun j : Nat => Int32.ofInt (M r0 j)) (fun j : Nat => Int32.ofInt (M r1 j)) sp.toNat dp.toNat c.toNat))))[q]? = H[q]? := fun q hq => by simp [Array.getElem?_setIfInBounds, Ne.symm hq]
    have hh : ((T.setVm vm').setCell (w.1 r1) (vp_cell (zGc G 0) (m1, .inl (va_cpy (fun j : Nat => Int32.ofInt (M r0 j)) (fun j : Nat => Int32.ofInt (M r1 j)) sp.toNat dp.toNat c.toNat)))).heap = H.setIfInBounds (w.1 r1) (vp_cell (zGc G 0) (m1, .inl (va_cpy (fun j : Nat => Int32.ofInt (M r0 j)) (fun j : Nat => Int32.ofInt (M r1 j)) sp.toNat dp.toNat c.toNat))) := by rw [← hT]; rfl
    obtain ⟨t, a1, b1⟩ := fin _ _ (by simp) oq (by simp [Array.getElem?_setIfInBounds, hl]) ⟨by simp; exact h2.1, fun q g1 g2 => by
        rw [oq q (fun e => g2 (by rw [e]; exact hA1))]
        exact h2.2.1 q g1 g2, fun q hq => by
        rcases List.mem_append.mp hq with h | h
        · exact h2.2.2 q h
        · obtain ⟨z, -, hz⟩ := List.mem_map.mp h
          rw [← hz]
          exact hA1⟩ _ hh X'
    exact ⟨t, step t a1, b1⟩
  exact key
end ZCALL
end
section
/-! methods and pool entries, by program -/
theorem zt {w : Cond} (i : Nat) (h : tables_1[i]? = some w) (hg : goodWord w = true) : w ∈ zTb := List.mem_filter.mpr ⟨List.mem_append_right _ (List.mem_of_getElem? h), hg⟩
theorem ztn {w : Cond} (i : Nat) (h : tables_1[i]? = some w) (hg : zisN w = true) : w ∈ zNs := List.mem_filter.mpr ⟨List.mem_of_getElem? h, hg⟩
theorem zt_sel {q : MethodName × Nat} (h : q ∈ lw_privs) (hg : goodWord (Cond.selects q.1.cls q.1 q.1) = true) : Cond.selects q.1.cls q.1 q.1 ∈ zTb := List.mem_filter.mpr ⟨List.mem_append_left _ (List.mem_map.mpr ⟨q, h, rfl⟩), hg⟩
theorem ztu {C : String} {T : u_T} {N : Nat} (ps : List Nat) (hp : (u_ws C T N).map some = ps.map (fun i => tables_1[i]?)) (hg : (u_ws C T N).all goodWord = true) : ∀ w ∈ u_ws C T N, w ∈ zTb := by
  intro w hw
  have h1 : some w ∈ ps.map (fun i => tables_1[i]?) := by rw [← hp]; exact List.mem_map.mpr ⟨w, hw, rfl⟩
  obtain ⟨i, -, hi⟩ := List.mem_map.mp h1
  exact zt i hi (List.all_eq_true.mp hg w hw)
set_option maxRecDepth 20000 in
theorem inz_0 : ∀ w ∈ u_ws RX0 TX0 3, w ∈ zTb := ztu [128, 130, 132] (by decide +kernel) (by decide +kernel)
set_option maxRecDepth 20000 in
theorem inz_1 : ∀ w ∈ u_ws RX1 TX1 5, w ∈ zTb := ztu [46, 48, 50, 52, 54] (by decide +kernel) (by decide +kernel)
set_option maxRecDepth 20000 in
theorem inz_2 : ∀ w ∈ u_ws RX2 TX2 6, w ∈ zTb := ztu [149, 151, 153, 155, 157, 159] (by decide +kernel) (by decide +kernel)
set_option maxRecDepth 20000 in
theorem inz_3 : ∀ w ∈ u_ws RX3 TX3 4, w ∈ zTb := ztu [177, 179, 181, 183] (by decide +kernel) (by decide +kernel)
set_option maxRecDepth 20000 in
theorem inz_4 : ∀ w ∈ u_ws RX4 TX4 4, w ∈ zTb := ztu [71, 73, 75, 77] (by decide +kernel) (by decide +kernel)
set_option maxRecDepth 20000 in
theorem inz_5 : ∀ w ∈ u_ws RX5 TX5 2, w ∈ zTb := ztu [113, 115] (by decide +kernel) (by decide +kernel)
set_option maxRecDepth 20000 in
theorem inz_6 : ∀ w ∈ u_ws RX6 TX6 4, w ∈ zTb := ztu [94, 96, 98, 100] (by decide +kernel) (by decide +kernel)
set_option maxRecDepth 20000 in
theorem inz_7 : ∀ w ∈ u_ws RX7 TX7 9, w ∈ zTb := ztu [195, 197, 199, 201, 203, 205, 207, 209, 211] (by decide +kernel) (by decide +kernel)
set_option maxRecDepth 20000 in
theorem inz_8 : ∀ w ∈ u_ws RX8 TX8 32, w ∈ zTb := ztu [642, 644, 646, 648, 650, 652, 654, 656, 658, 660, 662, 664, 666, 668, 670, 672, 674, 676, 678, 680, 682, 684, 686, 688, 690, 692, 694, 696, 698, 700, 702, 704] (by decide +kernel) (by decide +kernel)
abbrev mi_X0_init : zMI := (yX0_init, cX0_init, 1, none, 1, 20)
abbrev mi_X0_find : zMI := (yX0_find, cX0_find, 8, none, 2, 52)
theorem mc_X0_find : zMc mi_X0_find 5 := ⟨(zt 508 (by decide +kernel) (by decide +kernel)), by decide +kernel, by decide +kernel, by decide +kernel⟩
abbrev mi_X0_howMany : zMI := (yX0_howMany, cX0_howMany, 1, some .int, 0, 0)
theorem mc_X0_howMany : zMc mi_X0_howMany 0 := ⟨(zt 526 (by decide +kernel) (by decide +kernel)), by decide +kernel, by decide +kernel, by decide +kernel⟩
abbrev mi_X0_countRows : zMI := (yX0_countRows, cX0_countRows, 6, none, 1, 20)
theorem mc_X0_countRows : zMc mi_X0_countRows 1 := ⟨(zt 513 (by decide +kernel) (by decide +kernel)), by decide +kernel, by decide +kernel, by decide +kernel⟩
abbrev mi_X0_takeFirst : zMI := (yX0_takeFirst, cX0_takeFirst, 4, none, 1, 24)
theorem mc_X0_takeFirst : zMc mi_X0_takeFirst 1 := ⟨(zt 518 (by decide +kernel) (by decide +kernel)), by decide +kernel, by decide +kernel, by decide +kernel⟩
abbrev mi_X0_firstFor : zMI := (yX0_firstFor, cX0_firstFor, 5, some .int, 0, 0)
theorem mc_X0_firstFor : zMc mi_X0_firstFor 3 := ⟨(zt 522 (by decide +kernel) (by decide +kernel)), by decide +kernel, by decide +kernel, by decide +kernel⟩
abbrev mi_X1_init : zMI := (yX1_init, cX1_init, 1, none, 1, 20)
abbrev mi_X1_takeBrides : zMI := (yX1_takeBrides, cX1_takeBrides, 4, none, 1, 30)
theorem mc_X1_takeBrides : zMc mi_X1_takeBrides 2 := ⟨(zt 351 (by decide +kernel) (by decide +kernel)), by decide +kernel, by decide +kernel, by decide +kernel⟩
abbrev mi_X1_takeShoes : zMI := (yX1_takeShoes, cX1_takeShoes, 4, none, 1, 30)
theorem mc_X1_takeShoes : zMc mi_X1_takeShoes 2 := ⟨(zt 372 (by decide +kernel) (by decide +kernel)), by decide +kernel, by decide +kernel, by decide +kernel⟩
abbrev mi_X1_takeAll : zMI := (yX1_takeAll, cX1_takeAll, 2, none, 2, 53)
theorem mc_X1_takeAll : zMc mi_X1_takeAll 1 := ⟨(zt 484 (by decide +kernel) (by decide +kernel)), by decide +kernel, by decide +kernel, by decide +kernel⟩
abbrev mi_X1_footAt : zMI := (yX1_footAt, cX1_footAt, 5, some .int, 0, 0)
theorem mc_X1_footAt : zMc mi_X1_footAt 3 := ⟨(zt 276 (by decide +kernel) (by decide +kernel)), by decide +kernel, by decide +kernel, by decide +kernel⟩
abbrev mi_X1_looseFor : zMI := (yX1_looseFor, cX1_looseFor, 2, some .int, 0, 0)
theorem mc_X1_looseFor : zMc mi_X1_looseFor 1 := ⟨(zt 299 (by decide +kernel) (by decide +kernel)), by decide +kernel, by decide +kernel, by decide +kernel⟩
abbrev mi_X1_leastOut : zMI := (yX1_leastOut, cX1_leastOut, 10, some .int, 1, 24)
theorem mc_X1_leastOut : zMc mi_X1_leastOut 3 := ⟨(zt 284 (by decide +kernel) (by decide +kernel)), by decide +kernel, by decide +kernel, by decide +kernel⟩
abbrev mi_X1_limpOf : zMI := (yX1_limpOf, cX1_limpOf, 9, some .int, 1, 24)
theorem mc_X1_limpOf : zMc mi_X1_limpOf 3 := ⟨(zt 449 (by decide +kernel) (by decide +kernel)), by decide +kernel, by decide +kernel, by decide +kernel⟩
abbrev mi_X1_isThere : zMI := (yX1_isThere, cX1_isThere, 3, some .boolean, 0, 0)
theorem mc_X1_isThere : zMc mi_X1_isThere 2 := ⟨(zt 384 (by decide +kernel) (by decide +kernel)), by decide +kernel, by decide +kernel, by decide +kernel⟩
abbrev mi_X1_shoesThere : zMI := (yX1_shoesThere, cX1_shoesThere, 4, some .int, 1, 22)
theorem mc_X1_shoesThere : zMc mi_X1_shoesThere 1 := ⟨(zt 380 (by decide +kernel) (by decide +kernel)), by decide +kernel, by decide +kernel, by decide +kernel⟩
abbrev mi_X2_init : zMI := (yX2_init, cX2_init, 1, none, 1, 20)
abbrev mi_X2_read : zMI := (yX2_read, cX2_read, 5, some .boolean, 2, 49)
theorem mc_X2_read : zMc mi_X2_read 3 := ⟨(zt 537 (by decide +kernel) (by decide +kernel)), by decide +kernel, by decide +kernel, by decide +kernel⟩
abbrev mi_X2_readPairs : zMI := (yX2_readPairs, cX2_readPairs, 2, some .boolean, 2, 49)
theorem mc_X2_readPairs : zMc mi_X2_readPairs 1 := ⟨(zt 569 (by decide +kernel) (by decide +kernel)), by decide +kernel, by decide +kernel, by decide +kernel⟩
abbrev mi_X2_readRow : zMI := (yX2_readRow, cX2_readRow, 8, some .boolean, 1, 22)
theorem mc_X2_readRow : zMc mi_X2_readRow 4 := ⟨(zt 541 (by decide +kernel) (by decide +kernel)), by decide +kernel, by decide +kernel, by decide +kernel⟩
abbrev mi_X2_pairByBrides : zMI := (yX2_pairByBrides, cX2_pairByBrides, 3, none, 2, 46)
theorem mc_X2_pairByBrides : zMc mi_X2_pairByBrides 0 := ⟨(zt 546 (by decide +kernel) (by decide +kernel)), by decide +kernel, by decide +kernel, by decide +kernel⟩
abbrev mi_X2_firstAlone : zMI := (yX2_firstAlone, cX2_firstAlone, 2, some .int, 0, 0)
theorem mc_X2_firstAlone : zMc mi_X2_firstAlone 0 := ⟨(zt 553 (by decide +kernel) (by decide +kernel)), by decide +kernel, by decide +kernel, by decide +kernel⟩
abbrev mi_X2_askNext : zMI := (yX2_askNext, cX2_askNext, 4, none, 1, 23)
theorem mc_X2_askNext : zMc mi_X2_askNext 1 := ⟨(zt 557 (by decide +kernel) (by decide +kernel)), by decide +kernel, by decide +kernel, by decide +kernel⟩
abbrev mi_X2_groomLikesMore : zMI := (yX2_groomLikesMore, cX2_groomLikesMore, 4, some .boolean, 0, 0)
theorem mc_X2_groomLikesMore : zMc mi_X2_groomLikesMore 3 := ⟨(zt 561 (by decide +kernel) (by decide +kernel)), by decide +kernel, by decide +kernel, by decide +kernel⟩
abbrev mi_X2_wouldLeave : zMI := (yX2_wouldLeave, cX2_wouldLeave, 3, some .boolean, 1, 23)
theorem mc_X2_wouldLeave : zMc mi_X2_wouldLeave 2 := ⟨(zt 577 (by decide +kernel) (by decide +kernel)), by decide +kernel, by decide +kernel, by decide +kernel⟩
abbrev mi_X2_firstToLeave : zMI := (yX2_firstToLeave, cX2_firstToLeave, 3, some .int, 2, 45)
theorem mc_X2_firstToLeave : zMc mi_X2_firstToLeave 0 := ⟨(zt 573 (by decide +kernel) (by decide +kernel)), by decide +kernel, by decide +kernel, by decide +kernel⟩
abbrev mi_X3_init : zMI := (yX3_init, cX3_init, 1, none, 1, 20)
abbrev mi_X3_renew : zMI := (yX3_renew, cX3_renew, 3, none, 1, 23)
theorem mc_X3_renew : zMc mi_X3_renew 2 := ⟨(zt 585 (by decide +kernel) (by decide +kernel)), by decide +kernel, by decide +kernel, by decide +kernel⟩
abbrev mi_X3_refusal : zMI := (yX3_refusal, cX3_refusal, 4, some .int, 0, 0)
theorem mc_X3_refusal : zMc mi_X3_refusal 3 := ⟨(zt 504 (by decide +kernel) (by decide +kernel)), by decide +kernel, by decide +kernel, by decide +kernel⟩
abbrev mi_X3_cut : zMI := (yX3_cut, cX3_cut, 2, some .int, 0, 0)
theorem mc_X3_cut : zMc mi_X3_cut 2 := ⟨(zt 597 (by decide +kernel) (by decide +kernel)), by decide +kernel, by decide +kernel, by decide +kernel⟩
abbrev mi_X4_init : zMI := (yX4_init, cX4_init, 1, none, 1, 20)
abbrev mi_X4_isTypable : zMI := (yX4_isTypable, cX4_isTypable, 4, some .boolean, 1, 22)
theorem mc_X4_isTypable : zMc mi_X4_isTypable 2 := ⟨(zt 310 (by decide +kernel) (by decide +kernel)), by decide +kernel, by decide +kernel, by decide +kernel⟩
abbrev mi_X4_append : zMI := (yX4_append, cX4_append, 5, none, 0, 0)
theorem mc_X4_append : zMc mi_X4_append 2 := ⟨(zt 315 (by decide +kernel) (by decide +kernel)), by decide +kernel, by decide +kernel, by decide +kernel⟩
abbrev mi_X4_readBrides : zMI := (yX4_readBrides, cX4_readBrides, 2, some .int, 4, 86)
theorem mc_X4_readBrides : zMc mi_X4_readBrides 0 := ⟨(zt 323 (by decide +kernel) (by decide +kernel)), by decide +kernel, by decide +kernel, by decide +kernel⟩
abbrev mi_X4_readHeap : zMI := (yX4_readHeap, cX4_readHeap, 2, some .int, 3, 69)
theorem mc_X4_readHeap : zMc mi_X4_readHeap 0 := ⟨(zt 362 (by decide +kernel) (by decide +kernel)), by decide +kernel, by decide +kernel, by decide +kernel⟩
abbrev mi_X4_readBride : zMI := (yX4_readBride, cX4_readBride, 2, some .boolean, 3, 65)
theorem mc_X4_readBride : zMc mi_X4_readBride 1 := ⟨(zt 327 (by decide +kernel) (by decide +kernel)), by decide +kernel, by decide +kernel, by decide +kernel⟩
abbrev mi_X4_readSwell : zMI := (yX4_readSwell, cX4_readSwell, 3, some .boolean, 2, 43)
theorem mc_X4_readSwell : zMc mi_X4_readSwell 1 := ⟨(zt 346 (by decide +kernel) (by decide +kernel)), by decide +kernel, by decide +kernel, by decide +kernel⟩
abbrev mi_X4_readShoe : zMI := (yX4_readShoe, cX4_readShoe, 2, some .boolean, 2, 48)
theorem mc_X4_readShoe : zMc mi_X4_readShoe 1 := ⟨(zt 366 (by decide +kernel) (by decide +kernel)), by decide +kernel, by decide +kernel, by decide +kernel⟩
abbrev mi_X4_next : zMI := (yX4_next, cX4_next, 1, some .int, 0, 0)
theorem mc_X4_next : zMc mi_X4_next 0 := ⟨(zt 337 (by decide +kernel) (by decide +kernel)), by decide +kernel, by decide +kernel, by decide +kernel⟩
abbrev mi_X4_isPassed : zMI := (yX4_isPassed, cX4_isPassed, 2, some .boolean, 1, 20)
theorem mc_X4_isPassed : zMc mi_X4_isPassed 1 := ⟨(zt 342 (by decide +kernel) (by decide +kernel)), by decide +kernel, by decide +kernel, by decide +kernel⟩
abbrev mi_X4_readNumber : zMI := (yX4_readNumber, cX4_readNumber, 7, some .boolean, 1, 22)
theorem mc_X4_readNumber : zMc mi_X4_readNumber 4 := ⟨(zt 333 (by decide +kernel) (by decide +kernel)), by decide +kernel, by decide +kernel, by decide +kernel⟩
abbrev mi_X5_init : zMI := (yX5_init, cX5_init, 1, none, 1, 20)
abbrev mi_X5_findFewest : zMI := (yX5_findFewest, cX5_findFewest, 9, none, 3, 68)
theorem mc_X5_findFewest : zMc mi_X5_findFewest 4 := ⟨(zt 457 (by decide +kernel) (by decide +kernel)), by decide +kernel, by decide +kernel, by decide +kernel⟩
abbrev mi_X5_fewestOf : zMI := (yX5_fewestOf, cX5_fewestOf, 5, some .int, 2, 44)
theorem mc_X5_fewestOf : zMc mi_X5_fewestOf 2 := ⟨(zt 462 (by decide +kernel) (by decide +kernel)), by decide +kernel, by decide +kernel, by decide +kernel⟩
abbrev mi_X5_fewestBy : zMI := (yX5_fewestBy, cX5_fewestBy, 4, some .int, 1, 21)
theorem mc_X5_fewestBy : zMc mi_X5_fewestBy 3 := ⟨(zt 466 (by decide +kernel) (by decide +kernel)), by decide +kernel, by decide +kernel, by decide +kernel⟩
abbrev mi_X5_fewestTries : zMI := (yX5_fewestTries, cX5_fewestTries, 4, some .int, 0, 0)
theorem mc_X5_fewestTries : zMc mi_X5_fewestTries 2 := ⟨(zt 472 (by decide +kernel) (by decide +kernel)), by decide +kernel, by decide +kernel, by decide +kernel⟩
abbrev mi_X5_firstTried : zMI := (yX5_firstTried, cX5_firstTried, 7, some .int, 2, 44)
theorem mc_X5_firstTried : zMc mi_X5_firstTried 2 := ⟨(zt 476 (by decide +kernel) (by decide +kernel)), by decide +kernel, by decide +kernel, by decide +kernel⟩
abbrev mi_X6_init : zMI := (yX6_init, cX6_init, 1, none, 1, 20)
abbrev mi_X6_findForAll : zMI := (yX6_findForAll, cX6_findForAll, 6, some .boolean, 3, 78)
theorem mc_X6_findForAll : zMc mi_X6_findForAll 2 := ⟨(zt 392 (by decide +kernel) (by decide +kernel)), by decide +kernel, by decide +kernel, by decide +kernel⟩
abbrev mi_X6_findMost : zMI := (yX6_findMost, cX6_findMost, 5, some .int, 3, 78)
theorem mc_X6_findMost : zMc mi_X6_findMost 2 := ⟨(zt 421 (by decide +kernel) (by decide +kernel)), by decide +kernel, by decide +kernel, by decide +kernel⟩
abbrev mi_X6_findChain : zMI := (yX6_findChain, cX6_findChain, 5, some .int, 2, 48)
theorem mc_X6_findChain : zMc mi_X6_findChain 2 := ⟨(zt 440 (by decide +kernel) (by decide +kernel)), by decide +kernel, by decide +kernel, by decide +kernel⟩
abbrev mi_X6_isWorn : zMI := (yX6_isWorn, cX6_isWorn, 4, some .boolean, 0, 0)
theorem mc_X6_isWorn : zMc mi_X6_isWorn 2 := ⟨(zt 436 (by decide +kernel) (by decide +kernel)), by decide +kernel, by decide +kernel, by decide +kernel⟩
abbrev mi_X6_shiftOf : zMI := (yX6_shiftOf, cX6_shiftOf, 1, some .int, 0, 0)
theorem mc_X6_shiftOf : zMc mi_X6_shiftOf 1 := ⟨(zt 402 (by decide +kernel) (by decide +kernel)), by decide +kernel, by decide +kernel, by decide +kernel⟩
abbrev mi_X6_priceAsked : zMI := (yX6_priceAsked, cX6_priceAsked, 6, none, 2, 53)
theorem mc_X6_priceAsked : zMc mi_X6_priceAsked 2 := ⟨(zt 396 (by decide +kernel) (by decide +kernel)), by decide +kernel, by decide +kernel, by decide +kernel⟩
abbrev mi_X6_addShoes : zMI := (yX6_addShoes, cX6_addShoes, 3, none, 1, 26)
theorem mc_X6_addShoes : zMc mi_X6_addShoes 1 := ⟨(zt 406 (by decide +kernel) (by decide +kernel)), by decide +kernel, by decide +kernel, by decide +kernel⟩
abbrev mi_X6_addShoe : zMI := (yX6_addShoe, cX6_addShoe, 7, none, 0, 0)
theorem mc_X6_addShoe : zMc mi_X6_addShoe 2 := ⟨(zt 413 (by decide +kernel) (by decide +kernel)), by decide +kernel, by decide +kernel, by decide +kernel⟩
abbrev mi_X7_init : zMI := (yX7_init, cX7_init, 2, none, 2, 40)
abbrev mi_X7_bride : zMI := (yX7_bride, cX7_bride, 6, some .int, 2, 43)
theorem mc_X7_bride : zMc mi_X7_bride 4 := ⟨(zt 217 (by decide +kernel) (by decide +kernel)), by decide +kernel, by decide +kernel, by decide +kernel⟩
abbrev mi_X7_make : zMI := (yX7_make, cX7_make, 5, some .int, 2, 43)
theorem mc_X7_make : zMc mi_X7_make 3 := ⟨(zt 231 (by decide +kernel) (by decide +kernel)), by decide +kernel, by decide +kernel, by decide +kernel⟩
abbrev mi_X7_shoe : zMI := (yX7_shoe, cX7_shoe, 5, some .int, 2, 43)
theorem mc_X7_shoe : zMc mi_X7_shoe 3 := ⟨(zt 239 (by decide +kernel) (by decide +kernel)), by decide +kernel, by decide +kernel, by decide +kernel⟩
abbrev mi_X7_told : zMI := (yX7_told, cX7_told, 3, some .int, 2, 43)
theorem mc_X7_told : zMc mi_X7_told 2 := ⟨(zt 250 (by decide +kernel) (by decide +kernel)), by decide +kernel, by decide +kernel, by decide +kernel⟩
abbrev mi_X7_lose : zMI := (yX7_lose, cX7_lose, 4, some .int, 2, 43)
theorem mc_X7_lose : zMc mi_X7_lose 2 := ⟨(zt 258 (by decide +kernel) (by decide +kernel)), by decide +kernel, by decide +kernel, by decide +kernel⟩
abbrev mi_X7_set : zMI := (yX7_set, cX7_set, 4, some .int, 1, 22)
theorem mc_X7_set : zMc mi_X7_set 2 := ⟨(zt 262 (by decide +kernel) (by decide +kernel)), by decide +kernel, by decide +kernel, by decide +kernel⟩
abbrev mi_X7_foot : zMI := (yX7_foot, cX7_foot, 4, some .int, 2, 43)
theorem mc_X7_foot : zMc mi_X7_foot 3 := ⟨(zt 266 (by decide +kernel) (by decide +kernel)), by decide +kernel, by decide +kernel, by decide +kernel⟩
abbrev mi_X7_asked : zMI := (yX7_asked, cX7_asked, 4, some .int, 2, 53)
theorem mc_X7_asked : zMc mi_X7_asked 3 := ⟨(zt 280 (by decide +kernel) (by decide +kernel)), by decide +kernel, by decide +kernel, by decide +kernel⟩
abbrev mi_X7_whose : zMI := (yX7_whose, cX7_whose, 5, some .int, 2, 53)
theorem mc_X7_whose : zMc mi_X7_whose 2 := ⟨(zt 303 (by decide +kernel) (by decide +kernel)), by decide +kernel, by decide +kernel, by decide +kernel⟩
abbrev mi_X7_type : zMI := (yX7_type, cX7_type, 4, some .int, 2, 45)
theorem mc_X7_type : zMc mi_X7_type 2 := ⟨(zt 307 (by decide +kernel) (by decide +kernel)), by decide +kernel, by decide +kernel, by decide +kernel⟩
abbrev mi_X7_brides : zMI := (yX7_brides, cX7_brides, 2, some .int, 5, 107)
theorem mc_X7_brides : zMc mi_X7_brides 0 := ⟨(zt 319 (by decide +kernel) (by decide +kernel)), by decide +kernel, by decide +kernel, by decide +kernel⟩
abbrev mi_X7_heap : zMI := (yX7_heap, cX7_heap, 2, some .int, 4, 90)
theorem mc_X7_heap : zMc mi_X7_heap 0 := ⟨(zt 358 (by decide +kernel) (by decide +kernel)), by decide +kernel, by decide +kernel, by decide +kernel⟩
abbrev mi_X7_count : zMI := (yX7_count, cX7_count, 2, some .int, 2, 45)
theorem mc_X7_count : zMc mi_X7_count 1 := ⟨(zt 376 (by decide +kernel) (by decide +kernel)), by decide +kernel, by decide +kernel, by decide +kernel⟩
abbrev mi_X7_shod : zMI := (yX7_shod, cX7_shod, 3, some .int, 4, 103)
theorem mc_X7_shod : zMc mi_X7_shod 2 := ⟨(zt 388 (by decide +kernel) (by decide +kernel)), by decide +kernel, by decide +kernel, by decide +kernel⟩
abbrev mi_X7_most : zMI := (yX7_most, cX7_most, 2, some .int, 4, 102)
theorem mc_X7_most : zMc mi_X7_most 1 := ⟨(zt 417 (by decide +kernel) (by decide +kernel)), by decide +kernel, by decide +kernel, by decide +kernel⟩
abbrev mi_X7_chain : zMI := (yX7_chain, cX7_chain, 2, some .int, 4, 103)
theorem mc_X7_chain : zMc mi_X7_chain 1 := ⟨(zt 432 (by decide +kernel) (by decide +kernel)), by decide +kernel, by decide +kernel, by decide +kernel⟩
abbrev mi_X7_limps : zMI := (yX7_limps, cX7_limps, 4, some .int, 2, 52)
theorem mc_X7_limps : zMc mi_X7_limps 3 := ⟨(zt 444 (by decide +kernel) (by decide +kernel)), by decide +kernel, by decide +kernel, by decide +kernel⟩
abbrev mi_X7_tries : zMI := (yX7_tries, cX7_tries, 5, some .int, 4, 96)
theorem mc_X7_tries : zMc mi_X7_tries 4 := ⟨(zt 453 (by decide +kernel) (by decide +kernel)), by decide +kernel, by decide +kernel, by decide +kernel⟩
abbrev mi_X7_image : zMI := (yX7_image, cX7_image, 1, some .int, 3, 74)
theorem mc_X7_image : zMc mi_X7_image 0 := ⟨(zt 480 (by decide +kernel) (by decide +kernel)), by decide +kernel, by decide +kernel, by decide +kernel⟩
abbrev mi_X7_restore : zMI := (yX7_restore, cX7_restore, 1, some .int, 3, 74)
theorem mc_X7_restore : zMc mi_X7_restore 0 := ⟨(zt 490 (by decide +kernel) (by decide +kernel)), by decide +kernel, by decide +kernel, by decide +kernel⟩
abbrev mi_X7_changed : zMI := (yX7_changed, cX7_changed, 8, some .int, 4, 103)
theorem mc_X7_changed : zMc mi_X7_changed 6 := ⟨(zt 494 (by decide +kernel) (by decide +kernel)), by decide +kernel, by decide +kernel, by decide +kernel⟩
abbrev mi_X7_firm : zMI := (yX7_firm, cX7_firm, 7, some .int, 3, 73)
theorem mc_X7_firm : zMc mi_X7_firm 5 := ⟨(zt 530 (by decide +kernel) (by decide +kernel)), by decide +kernel, by decide +kernel, by decide +kernel⟩
abbrev mi_X7_judged : zMI := (yX7_judged, cX7_judged, 7, some .int, 3, 73)
theorem mc_X7_judged : zMc mi_X7_judged 5 := ⟨(zt 565 (by decide +kernel) (by decide +kernel)), by decide +kernel, by decide +kernel, by decide +kernel⟩
abbrev mi_X7_sheet : zMI := (yX7_sheet, cX7_sheet, 4, some .int, 2, 45)
theorem mc_X7_sheet : zMc mi_X7_sheet 3 := ⟨(zt 581 (by decide +kernel) (by decide +kernel)), by decide +kernel, by decide +kernel, by decide +kernel⟩
abbrev mi_X7_drop : zMI := (yX7_drop, cX7_drop, 2, some .int, 2, 42)
theorem mc_X7_drop : zMc mi_X7_drop 1 := ⟨(zt 590 (by decide +kernel) (by decide +kernel)), by decide +kernel, by decide +kernel, by decide +kernel⟩
abbrev mi_X7_item : zMI := (yX7_item, cX7_item, 6, some .int, 2, 42)
theorem mc_X7_item : zMc mi_X7_item 4 := ⟨(zt 594 (by decide +kernel) (by decide +kernel)), by decide +kernel, by decide +kernel, by decide +kernel⟩
abbrev mi_X7_copy : zMI := (yX7_copy, cX7_copy, 7, some .int, 2, 42)
theorem mc_X7_copy : zMc mi_X7_copy 5 := ⟨(zt 601 (by decide +kernel) (by decide +kernel)), by decide +kernel, by decide +kernel, by decide +kernel⟩
abbrev mi_X7_isFrom : zMI := (yX7_isFrom, cX7_isFrom, 3, some .boolean, 0, 0)
theorem mc_X7_isFrom : zMc mi_X7_isFrom 3 := ⟨(zt 227 (by decide +kernel) (by decide +kernel)), by decide +kernel, by decide +kernel, by decide +kernel⟩
abbrev mi_X7_isOfBride : zMI := (yX7_isOfBride, cX7_isOfBride, 2, some .boolean, 1, 22)
theorem mc_X7_isOfBride : zMc mi_X7_isOfBride 2 := ⟨(zt 220 (by decide +kernel) (by decide +kernel)), by decide +kernel, by decide +kernel, by decide +kernel⟩
abbrev mi_X7_isOfShoe : zMI := (yX7_isOfShoe, cX7_isOfShoe, 2, some .boolean, 1, 22)
theorem mc_X7_isOfShoe : zMc mi_X7_isOfShoe 2 := ⟨(zt 242 (by decide +kernel) (by decide +kernel)), by decide +kernel, by decide +kernel, by decide +kernel⟩
abbrev mi_X7_isSide : zMI := (yX7_isSide, cX7_isSide, 1, some .boolean, 1, 22)
theorem mc_X7_isSide : zMc mi_X7_isSide 1 := ⟨(zt 269 (by decide +kernel) (by decide +kernel)), by decide +kernel, by decide +kernel, by decide +kernel⟩
abbrev mi_X7_isHour : zMI := (yX7_isHour, cX7_isHour, 1, some .boolean, 1, 22)
theorem mc_X7_isHour : zMc mi_X7_isHour 1 := ⟨(zt 272 (by decide +kernel) (by decide +kernel)), by decide +kernel, by decide +kernel, by decide +kernel⟩
abbrev mi_X7_isSheet : zMI := (yX7_isSheet, cX7_isSheet, 1, some .boolean, 1, 22)
theorem mc_X7_isSheet : zMc mi_X7_isSheet 1 := ⟨(zt 497 (by decide +kernel) (by decide +kernel)), by decide +kernel, by decide +kernel, by decide +kernel⟩
abbrev mi_X7_isLane : zMI := (yX7_isLane, cX7_isLane, 1, some .boolean, 1, 22)
theorem mc_X7_isLane : zMc mi_X7_isLane 1 := ⟨(zt 500 (by decide +kernel) (by decide +kernel)), by decide +kernel, by decide +kernel, by decide +kernel⟩
abbrev mi_X7_isRanked : zMI := (yX7_isRanked, cX7_isRanked, 1, some .boolean, 1, 22)
theorem mc_X7_isRanked : zMc mi_X7_isRanked 1 := ⟨(zt 533 (by decide +kernel) (by decide +kernel)), by decide +kernel, by decide +kernel, by decide +kernel⟩
abbrev mi_X7_isBride : zMI := (yX7_isBride, cX7_isBride, 2, some .boolean, 1, 22)
theorem mc_X7_isBride : zMc mi_X7_isBride 1 := ⟨(zt 235 (by decide +kernel) (by decide +kernel)), by decide +kernel, by decide +kernel, by decide +kernel⟩
abbrev mi_X7_isShoe : zMI := (yX7_isShoe, cX7_isShoe, 2, some .boolean, 1, 22)
theorem mc_X7_isShoe : zMc mi_X7_isShoe 1 := ⟨(zt 254 (by decide +kernel) (by decide +kernel)), by decide +kernel, by decide +kernel, by decide +kernel⟩
abbrev mi_X8_init : zMI := (yX8_init, cX8_init, 2, none, 1, 20)
abbrev mi_X8_in : zMI := (yX8_in, cX8_in, 6, some .boolean, 0, 0)
theorem mc_X8_in : zMc mi_X8_in 3 := ⟨(zt 719 (by decide +kernel) (by decide +kernel)), by decide +kernel, by decide +kernel, by decide +kernel⟩
abbrev mi_X8_isBride : zMI := (yX8_isBride, cX8_isBride, 2, some .boolean, 1, 25)
theorem mc_X8_isBride : zMc mi_X8_isBride 1 := ⟨(zt 729 (by decide +kernel) (by decide +kernel)), by decide +kernel, by decide +kernel, by decide +kernel⟩
abbrev mi_X8_isShoe : zMI := (yX8_isShoe, cX8_isShoe, 2, some .boolean, 1, 25)
theorem mc_X8_isShoe : zMc mi_X8_isShoe 1 := ⟨(zt 747 (by decide +kernel) (by decide +kernel)), by decide +kernel, by decide +kernel, by decide +kernel⟩
abbrev mi_X8_isHour : zMI := (yX8_isHour, cX8_isHour, 1, some .boolean, 1, 25)
theorem mc_X8_isHour : zMc mi_X8_isHour 1 := ⟨(zt 763 (by decide +kernel) (by decide +kernel)), by decide +kernel, by decide +kernel, by decide +kernel⟩
abbrev mi_X8_isOfBride : zMI := (yX8_isOfBride, cX8_isOfBride, 2, some .boolean, 1, 25)
theorem mc_X8_isOfBride : zMc mi_X8_isOfBride 2 := ⟨(zt 714 (by decide +kernel) (by decide +kernel)), by decide +kernel, by decide +kernel, by decide +kernel⟩
abbrev mi_X8_bride : zMI := (yX8_bride, cX8_bride, 5, some .int, 2, 46)
theorem mc_X8_bride : zMc mi_X8_bride 4 := ⟨(zt 711 (by decide +kernel) (by decide +kernel)), by decide +kernel, by decide +kernel, by decide +kernel⟩
abbrev mi_X8_make : zMI := (yX8_make, cX8_make, 5, some .int, 2, 46)
theorem mc_X8_make : zMc mi_X8_make 3 := ⟨(zt 725 (by decide +kernel) (by decide +kernel)), by decide +kernel, by decide +kernel, by decide +kernel⟩
abbrev mi_X8_addShoe : zMI := (yX8_addShoe, cX8_addShoe, 4, none, 0, 0)
theorem mc_X8_addShoe : zMc mi_X8_addShoe 3 := ⟨(zt 739 (by decide +kernel) (by decide +kernel)), by decide +kernel, by decide +kernel, by decide +kernel⟩
abbrev mi_X8_shoe : zMI := (yX8_shoe, cX8_shoe, 4, some .int, 1, 25)
theorem mc_X8_shoe : zMc mi_X8_shoe 3 := ⟨(zt 734 (by decide +kernel) (by decide +kernel)), by decide +kernel, by decide +kernel, by decide +kernel⟩
abbrev mi_X8_told : zMI := (yX8_told, cX8_told, 3, some .int, 2, 46)
theorem mc_X8_told : zMc mi_X8_told 2 := ⟨(zt 743 (by decide +kernel) (by decide +kernel)), by decide +kernel, by decide +kernel, by decide +kernel⟩
abbrev mi_X8_lose : zMI := (yX8_lose, cX8_lose, 4, some .int, 2, 46)
theorem mc_X8_lose : zMc mi_X8_lose 2 := ⟨(zt 751 (by decide +kernel) (by decide +kernel)), by decide +kernel, by decide +kernel, by decide +kernel⟩
abbrev mi_X8_set : zMI := (yX8_set, cX8_set, 4, some .int, 1, 25)
theorem mc_X8_set : zMc mi_X8_set 2 := ⟨(zt 755 (by decide +kernel) (by decide +kernel)), by decide +kernel, by decide +kernel, by decide +kernel⟩
abbrev mi_X8_footOf : zMI := (yX8_footOf, cX8_footOf, 4, some .int, 0, 0)
theorem mc_X8_footOf : zMc mi_X8_footOf 3 := ⟨(zt 767 (by decide +kernel) (by decide +kernel)), by decide +kernel, by decide +kernel, by decide +kernel⟩
abbrev mi_X8_givesOf : zMI := (yX8_givesOf, cX8_givesOf, 3, some .int, 0, 0)
theorem mc_X8_givesOf : zMc mi_X8_givesOf 1 := ⟨(zt 783 (by decide +kernel) (by decide +kernel)), by decide +kernel, by decide +kernel, by decide +kernel⟩
abbrev mi_X8_looseOf : zMI := (yX8_looseOf, cX8_looseOf, 2, some .int, 0, 0)
theorem mc_X8_looseOf : zMc mi_X8_looseOf 1 := ⟨(zt 787 (by decide +kernel) (by decide +kernel)), by decide +kernel, by decide +kernel, by decide +kernel⟩
abbrev mi_X8_outOf : zMI := (yX8_outOf, cX8_outOf, 3, some .int, 0, 0)
theorem mc_X8_outOf : zMc mi_X8_outOf 1 := ⟨(zt 779 (by decide +kernel) (by decide +kernel)), by decide +kernel, by decide +kernel, by decide +kernel⟩
abbrev mi_X8_askedOf : zMI := (yX8_askedOf, cX8_askedOf, 7, some .int, 1, 23)
theorem mc_X8_askedOf : zMc mi_X8_askedOf 3 := ⟨(zt 775 (by decide +kernel) (by decide +kernel)), by decide +kernel, by decide +kernel, by decide +kernel⟩
abbrev mi_X8_foot : zMI := (yX8_foot, cX8_foot, 4, some .int, 2, 46)
theorem mc_X8_foot : zMc mi_X8_foot 3 := ⟨(zt 760 (by decide +kernel) (by decide +kernel)), by decide +kernel, by decide +kernel, by decide +kernel⟩
abbrev mi_X8_asked : zMI := (yX8_asked, cX8_asked, 4, some .int, 2, 49)
theorem mc_X8_asked : zMc mi_X8_asked 3 := ⟨(zt 771 (by decide +kernel) (by decide +kernel)), by decide +kernel, by decide +kernel, by decide +kernel⟩
abbrev mi_X8_whose : zMI := (yX8_whose, cX8_whose, 5, some .int, 2, 49)
theorem mc_X8_whose : zMc mi_X8_whose 2 := ⟨(zt 791 (by decide +kernel) (by decide +kernel)), by decide +kernel, by decide +kernel, by decide +kernel⟩
abbrev mi_X8_count : zMI := (yX8_count, cX8_count, 6, some .int, 0, 0)
theorem mc_X8_count : zMc mi_X8_count 1 := ⟨(zt 795 (by decide +kernel) (by decide +kernel)), by decide +kernel, by decide +kernel, by decide +kernel⟩
abbrev mi_X8_type : zMI := (yX8_type, cX8_type, 5, some .int, 1, 25)
theorem mc_X8_type : zMc mi_X8_type 2 := ⟨(zt 799 (by decide +kernel) (by decide +kernel)), by decide +kernel, by decide +kernel, by decide +kernel⟩
abbrev mi_X8_nextByte : zMI := (yX8_nextByte, cX8_nextByte, 1, some .int, 0, 0)
theorem mc_X8_nextByte : zMc mi_X8_nextByte 0 := ⟨(zt 823 (by decide +kernel) (by decide +kernel)), by decide +kernel, by decide +kernel, by decide +kernel⟩
abbrev mi_X8_takes : zMI := (yX8_takes, cX8_takes, 3, some .boolean, 1, 20)
theorem mc_X8_takes : zMc mi_X8_takes 1 := ⟨(zt 829 (by decide +kernel) (by decide +kernel)), by decide +kernel, by decide +kernel, by decide +kernel⟩
abbrev mi_X8_readNumber : zMI := (yX8_readNumber, cX8_readNumber, 5, some .int, 1, 25)
theorem mc_X8_readNumber : zMc mi_X8_readNumber 2 := ⟨(zt 819 (by decide +kernel) (by decide +kernel)), by decide +kernel, by decide +kernel, by decide +kernel⟩
abbrev mi_X8_readDigit : zMI := (yX8_readDigit, cX8_readDigit, 3, some .int, 1, 25)
theorem mc_X8_readDigit : zMc mi_X8_readDigit 1 := ⟨(zt 833 (by decide +kernel) (by decide +kernel)), by decide +kernel, by decide +kernel, by decide +kernel⟩
abbrev mi_X8_readBride : zMI := (yX8_readBride, cX8_readBride, 2, some .boolean, 2, 49)
theorem mc_X8_readBride : zMc mi_X8_readBride 1 := ⟨(zt 815 (by decide +kernel) (by decide +kernel)), by decide +kernel, by decide +kernel, by decide +kernel⟩
abbrev mi_X8_readShoe : zMI := (yX8_readShoe, cX8_readShoe, 3, some .boolean, 2, 49)
theorem mc_X8_readShoe : zMc mi_X8_readShoe 1 := ⟨(zt 837 (by decide +kernel) (by decide +kernel)), by decide +kernel, by decide +kernel, by decide +kernel⟩
abbrev mi_X8_readAll : zMI := (yX8_readAll, cX8_readAll, 5, some .boolean, 3, 71)
theorem mc_X8_readAll : zMc mi_X8_readAll 1 := ⟨(zt 811 (by decide +kernel) (by decide +kernel)), by decide +kernel, by decide +kernel, by decide +kernel⟩
abbrev mi_X8_brides : zMI := (yX8_brides, cX8_brides, 3, some .int, 4, 95)
theorem mc_X8_brides : zMc mi_X8_brides 0 := ⟨(zt 807 (by decide +kernel) (by decide +kernel)), by decide +kernel, by decide +kernel, by decide +kernel⟩
abbrev mi_X8_heap : zMI := (yX8_heap, cX8_heap, 3, some .int, 4, 95)
theorem mc_X8_heap : zMc mi_X8_heap 0 := ⟨(zt 841 (by decide +kernel) (by decide +kernel)), by decide +kernel, by decide +kernel, by decide +kernel⟩
abbrev mi_X8_findSide : zMI := (yX8_findSide, cX8_findSide, 4, none, 2, 49)
theorem mc_X8_findSide : zMc mi_X8_findSide 1 := ⟨(zt 854 (by decide +kernel) (by decide +kernel)), by decide +kernel, by decide +kernel, by decide +kernel⟩
abbrev mi_X8_ones : zMI := (yX8_ones, cX8_ones, 3, some .int, 0, 0)
theorem mc_X8_ones : zMc mi_X8_ones 1 := ⟨(zt 861 (by decide +kernel) (by decide +kernel)), by decide +kernel, by decide +kernel, by decide +kernel⟩
abbrev mi_X8_findLeast : zMI := (yX8_findLeast, cX8_findLeast, 5, some .int, 1, 22)
theorem mc_X8_findLeast : zMc mi_X8_findLeast 0 := ⟨(zt 858 (by decide +kernel) (by decide +kernel)), by decide +kernel, by decide +kernel, by decide +kernel⟩
abbrev mi_X8_findWay : zMI := (yX8_findWay, cX8_findWay, 6, some .int, 3, 72)
theorem mc_X8_findWay : zMc mi_X8_findWay 1 := ⟨(zt 850 (by decide +kernel) (by decide +kernel)), by decide +kernel, by decide +kernel, by decide +kernel⟩
abbrev mi_X8_shod : zMI := (yX8_shod, cX8_shod, 4, some .int, 4, 97)
theorem mc_X8_shod : zMc mi_X8_shod 2 := ⟨(zt 845 (by decide +kernel) (by decide +kernel)), by decide +kernel, by decide +kernel, by decide +kernel⟩
abbrev mi_X8_most : zMI := (yX8_most, cX8_most, 5, some .int, 3, 72)
theorem mc_X8_most : zMc mi_X8_most 1 := ⟨(zt 866 (by decide +kernel) (by decide +kernel)), by decide +kernel, by decide +kernel, by decide +kernel⟩
abbrev mi_X8_chain : zMI := (yX8_chain, cX8_chain, 6, some .int, 4, 97)
theorem mc_X8_chain : zMc mi_X8_chain 1 := ⟨(zt 870 (by decide +kernel) (by decide +kernel)), by decide +kernel, by decide +kernel, by decide +kernel⟩
abbrev mi_X8_limpsOf : zMI := (yX8_limpsOf, cX8_limpsOf, 8, some .int, 1, 23)
theorem mc_X8_limpsOf : zMc mi_X8_limpsOf 3 := ⟨(zt 878 (by decide +kernel) (by decide +kernel)), by decide +kernel, by decide +kernel, by decide +kernel⟩
abbrev mi_X8_limps : zMI := (yX8_limps, cX8_limps, 4, some .int, 2, 50)
theorem mc_X8_limps : zMc mi_X8_limps 3 := ⟨(zt 874 (by decide +kernel) (by decide +kernel)), by decide +kernel, by decide +kernel, by decide +kernel⟩
abbrev mi_X8_triesOf : zMI := (yX8_triesOf, cX8_triesOf, 3, some .int, 0, 0)
theorem mc_X8_triesOf : zMc mi_X8_triesOf 2 := ⟨(zt 895 (by decide +kernel) (by decide +kernel)), by decide +kernel, by decide +kernel, by decide +kernel⟩
abbrev mi_X8_triesBy : zMI := (yX8_triesBy, cX8_triesBy, 6, some .int, 1, 22)
theorem mc_X8_triesBy : zMc mi_X8_triesBy 3 := ⟨(zt 891 (by decide +kernel) (by decide +kernel)), by decide +kernel, by decide +kernel, by decide +kernel⟩
abbrev mi_X8_findTries : zMI := (yX8_findTries, cX8_findTries, 7, none, 2, 47)
theorem mc_X8_findTries : zMc mi_X8_findTries 1 := ⟨(zt 887 (by decide +kernel) (by decide +kernel)), by decide +kernel, by decide +kernel, by decide +kernel⟩
abbrev mi_X8_tries : zMI := (yX8_tries, cX8_tries, 7, some .int, 3, 73)
theorem mc_X8_tries : zMc mi_X8_tries 4 := ⟨(zt 883 (by decide +kernel) (by decide +kernel)), by decide +kernel, by decide +kernel, by decide +kernel⟩
abbrev mi_X8_image : zMI := (yX8_image, cX8_image, 2, some .int, 0, 0)
theorem mc_X8_image : zMc mi_X8_image 0 := ⟨(zt 899 (by decide +kernel) (by decide +kernel)), by decide +kernel, by decide +kernel, by decide +kernel⟩
abbrev mi_X8_restore : zMI := (yX8_restore, cX8_restore, 2, some .int, 0, 0)
theorem mc_X8_restore : zMc mi_X8_restore 0 := ⟨(zt 903 (by decide +kernel) (by decide +kernel)), by decide +kernel, by decide +kernel, by decide +kernel⟩
abbrev mi_X8_isSheet : zMI := (yX8_isSheet, cX8_isSheet, 2, some .boolean, 1, 25)
theorem mc_X8_isSheet : zMc mi_X8_isSheet 2 := ⟨(zt 910 (by decide +kernel) (by decide +kernel)), by decide +kernel, by decide +kernel, by decide +kernel⟩
abbrev mi_X8_sheet : zMI := (yX8_sheet, cX8_sheet, 5, some .int, 2, 46)
theorem mc_X8_sheet : zMc mi_X8_sheet 3 := ⟨(zt 907 (by decide +kernel) (by decide +kernel)), by decide +kernel, by decide +kernel, by decide +kernel⟩
abbrev mi_X8_drop : zMI := (yX8_drop, cX8_drop, 2, some .int, 1, 25)
theorem mc_X8_drop : zMc mi_X8_drop 1 := ⟨(zt 915 (by decide +kernel) (by decide +kernel)), by decide +kernel, by decide +kernel, by decide +kernel⟩
abbrev mi_X8_lacksRow : zMI := (yX8_lacksRow, cX8_lacksRow, 5, some .int, 1, 25)
theorem mc_X8_lacksRow : zMc mi_X8_lacksRow 4 := ⟨(zt 923 (by decide +kernel) (by decide +kernel)), by decide +kernel, by decide +kernel, by decide +kernel⟩
abbrev mi_X8_item : zMI := (yX8_item, cX8_item, 6, some .int, 2, 49)
theorem mc_X8_item : zMc mi_X8_item 4 := ⟨(zt 919 (by decide +kernel) (by decide +kernel)), by decide +kernel, by decide +kernel, by decide +kernel⟩
abbrev mi_X8_copy : zMI := (yX8_copy, cX8_copy, 7, some .int, 1, 25)
theorem mc_X8_copy : zMc mi_X8_copy 5 := ⟨(zt 927 (by decide +kernel) (by decide +kernel)), by decide +kernel, by decide +kernel, by decide +kernel⟩
abbrev mi_X8_nextRow : zMI := (yX8_nextRow, cX8_nextRow, 7, some .boolean, 0, 0)
theorem mc_X8_nextRow : zMc mi_X8_nextRow 1 := ⟨(zt 939 (by decide +kernel) (by decide +kernel)), by decide +kernel, by decide +kernel, by decide +kernel⟩
abbrev mi_X8_limpSo : zMI := (yX8_limpSo, cX8_limpSo, 5, some .boolean, 2, 50)
theorem mc_X8_limpSo : zMc mi_X8_limpSo 2 := ⟨(zt 935 (by decide +kernel) (by decide +kernel)), by decide +kernel, by decide +kernel, by decide +kernel⟩
abbrev mi_X8_changed : zMI := (yX8_changed, cX8_changed, 11, some .int, 4, 97)
theorem mc_X8_changed : zMc mi_X8_changed 6 := ⟨(zt 931 (by decide +kernel) (by decide +kernel)), by decide +kernel, by decide +kernel, by decide +kernel⟩
abbrev mi_X8_isRow : zMI := (yX8_isRow, cX8_isRow, 5, some .boolean, 1, 25)
theorem mc_X8_isRow : zMc mi_X8_isRow 2 := ⟨(zt 952 (by decide +kernel) (by decide +kernel)), by decide +kernel, by decide +kernel, by decide +kernel⟩
abbrev mi_X8_findRanks : zMI := (yX8_findRanks, cX8_findRanks, 6, some .boolean, 2, 49)
theorem mc_X8_findRanks : zMc mi_X8_findRanks 2 := ⟨(zt 948 (by decide +kernel) (by decide +kernel)), by decide +kernel, by decide +kernel, by decide +kernel⟩
abbrev mi_X8_firm : zMI := (yX8_firm, cX8_firm, 12, some .int, 3, 74)
theorem mc_X8_firm : zMc mi_X8_firm 5 := ⟨(zt 943 (by decide +kernel) (by decide +kernel)), by decide +kernel, by decide +kernel, by decide +kernel⟩
abbrev mi_X8_judged : zMI := (yX8_judged, cX8_judged, 9, some .int, 3, 74)
theorem mc_X8_judged : zMc mi_X8_judged 5 := ⟨(zt 956 (by decide +kernel) (by decide +kernel)), by decide +kernel, by decide +kernel, by decide +kernel⟩
abbrev mi_J6_bitCount_0f7a4 : zMI := (yJ6_bitCount_0f7a4, cJ6_bitCount_0f7a4, 1, some .int, 0, 0)
theorem mc_J6_bitCount_0f7a4 : zMc mi_J6_bitCount_0f7a4 1 := ⟨(zt 424 (by decide +kernel) (by decide +kernel)), by decide +kernel, by decide +kernel, by decide +kernel⟩
abbrev mi_J7_fill_d0a16 : zMI := (yJ7_fill_d0a16, cJ7_fill_d0a16, 5, none, 0, 0)
theorem mc_J7_fill_d0a16 : zMc mi_J7_fill_d0a16 2 := ⟨(zt 409 (by decide +kernel) (by decide +kernel)), by decide +kernel, by decide +kernel, by decide +kernel⟩
abbrev mi_J7_fill_53178 : zMI := (yJ7_fill_53178, cJ7_fill_53178, 4, none, 0, 0)
theorem mc_J7_fill_53178 : zMc mi_J7_fill_53178 2 := ⟨(zt 549 (by decide +kernel) (by decide +kernel)), by decide +kernel, by decide +kernel, by decide +kernel⟩
theorem fd_X0_9 : zFd RX0 9 0 0 := ⟨RX0, TX0, 3, tyX0, rfl, rfl, by decide, (zt 124 (by decide +kernel) (by decide +kernel)), inz_0, tyX0_ok, nmX0⟩
theorem fd_X0_15 : zFd RX0 15 0 1 := ⟨RX0, TX0, 3, tyX0, rfl, rfl, by decide, (zt 125 (by decide +kernel) (by decide +kernel)), inz_0, tyX0_ok, nmX0⟩
theorem fd_X0_18 : zFd RX0 18 0 2 := ⟨RX0, TX0, 3, tyX0, rfl, rfl, by decide, (zt 126 (by decide +kernel) (by decide +kernel)), inz_0, tyX0_ok, nmX0⟩
theorem fd_X0_21 : zFd RX0 21 1 0 := ⟨RX1, TX1, 5, tyX1, rfl, rfl, by decide, (zt 31 (by decide +kernel) (by decide +kernel)), inz_1, tyX1_ok, nmX1⟩
theorem cv_X0_27 : zCv RX0 27 yX1_limpOf := ⟨(zt 509 (by decide +kernel) (by decide +kernel)), (zt 447 (by decide +kernel) (by decide +kernel)), (zt 448 (by decide +kernel) (by decide +kernel)), (zt 2 (by decide +kernel) (by decide +kernel))⟩
theorem cv_X0_31 : zCv RX0 31 yX0_countRows := ⟨(zt 510 (by decide +kernel) (by decide +kernel)), (zt 511 (by decide +kernel) (by decide +kernel)), (zt 512 (by decide +kernel) (by decide +kernel)), (zt 6 (by decide +kernel) (by decide +kernel))⟩
theorem cv_X0_35 : zCv RX0 35 yX0_takeFirst := ⟨(zt 515 (by decide +kernel) (by decide +kernel)), (zt 516 (by decide +kernel) (by decide +kernel)), (zt 517 (by decide +kernel) (by decide +kernel)), (zt 6 (by decide +kernel) (by decide +kernel))⟩
theorem cs_X0_38 : zCs RX0 38 yJ6_bitCount_0f7a4 := ⟨Or.inl (zt 514 (by decide +kernel) (by decide +kernel)), (zt 423 (by decide +kernel) (by decide +kernel)), (zt 13 (by decide +kernel) (by decide +kernel))⟩
theorem cv_X0_44 : zCv RX0 44 yX0_firstFor := ⟨(zt 519 (by decide +kernel) (by decide +kernel)), (zt 520 (by decide +kernel) (by decide +kernel)), (zt 521 (by decide +kernel) (by decide +kernel)), (zt 6 (by decide +kernel) (by decide +kernel))⟩
theorem fd_X1_11 : zFd RX1 11 1 0 := ⟨RX1, TX1, 5, tyX1, rfl, rfl, by decide, (zt 30 (by decide +kernel) (by decide +kernel)), inz_1, tyX1_ok, nmX1⟩
theorem fd_X1_16 : zFd RX1 16 1 1 := ⟨RX1, TX1, 5, tyX1, rfl, rfl, by decide, (zt 34 (by decide +kernel) (by decide +kernel)), inz_1, tyX1_ok, nmX1⟩
theorem fd_X1_19 : zFd RX1 19 1 2 := ⟨RX1, TX1, 5, tyX1, rfl, rfl, by decide, (zt 37 (by decide +kernel) (by decide +kernel)), inz_1, tyX1_ok, nmX1⟩
theorem fd_X1_23 : zFd RX1 23 1 3 := ⟨RX1, TX1, 5, tyX1, rfl, rfl, by decide, (zt 39 (by decide +kernel) (by decide +kernel)), inz_1, tyX1_ok, nmX1⟩
theorem fw_X1_23 : zFw RX1 23 1 3 .int := ⟨fd_X1_23, _, rfl, by decide +kernel, by decide +kernel⟩
theorem fd_X1_27 : zFd RX1 27 1 4 := ⟨RX1, TX1, 5, tyX1, rfl, rfl, by decide, (zt 42 (by decide +kernel) (by decide +kernel)), inz_1, tyX1_ok, nmX1⟩
theorem fw_X1_27 : zFw RX1 27 1 4 .int := ⟨fd_X1_27, _, rfl, by decide +kernel, by decide +kernel⟩
theorem ac_X1_30 : zac RX1 30 := ⟨(zt 352 (by decide +kernel) (by decide +kernel)), (zt 354 (by decide +kernel) (by decide +kernel)), (zt 353 (by decide +kernel) (by decide +kernel)), (zt 11 (by decide +kernel) (by decide +kernel))⟩
theorem cv_X1_36 : zCv RX1 36 yX1_takeBrides := ⟨(zt 485 (by decide +kernel) (by decide +kernel)), (zt 349 (by decide +kernel) (by decide +kernel)), (zt 350 (by decide +kernel) (by decide +kernel)), (zt 2 (by decide +kernel) (by decide +kernel))⟩
theorem cv_X1_40 : zCv RX1 40 yX1_takeShoes := ⟨(zt 486 (by decide +kernel) (by decide +kernel)), (zt 370 (by decide +kernel) (by decide +kernel)), (zt 371 (by decide +kernel) (by decide +kernel)), (zt 2 (by decide +kernel) (by decide +kernel))⟩
theorem cv_X1_43 : zCv RX1 43 yX1_footAt := ⟨(zt 285 (by decide +kernel) (by decide +kernel)), (zt 274 (by decide +kernel) (by decide +kernel)), (zt 275 (by decide +kernel) (by decide +kernel)), (zt 2 (by decide +kernel) (by decide +kernel))⟩
theorem sd_X1_47 : zSd RX1 47 304 := ⟨by decide, by decide, Or.inr (ztn 286 (by decide +kernel) (by decide +kernel))⟩
theorem mm_X1_50 : zmm RX1 50 Lib.Math.max.name Lib.Math.max.code := ⟨(zt 288 (by decide +kernel) (by decide +kernel)), (zt 289 (by decide +kernel) (by decide +kernel)), (zt 10 (by decide +kernel) (by decide +kernel)), (zt 290 (by decide +kernel) (by decide +kernel))⟩
theorem sd_X1_56 : zSd RX1 56 305 := ⟨by decide, by decide, Or.inr (ztn 291 (by decide +kernel) (by decide +kernel))⟩
theorem mm_X1_59 : zmm RX1 59 Lib.Math.min.name Lib.Math.min.code := ⟨(zt 293 (by decide +kernel) (by decide +kernel)), (zt 294 (by decide +kernel) (by decide +kernel)), (zt 10 (by decide +kernel) (by decide +kernel)), (zt 295 (by decide +kernel) (by decide +kernel))⟩
theorem cv_X1_62 : zCv RX1 62 yX1_looseFor := ⟨(zt 296 (by decide +kernel) (by decide +kernel)), (zt 297 (by decide +kernel) (by decide +kernel)), (zt 298 (by decide +kernel) (by decide +kernel)), (zt 2 (by decide +kernel) (by decide +kernel))⟩
theorem cv_X1_66 : zCv RX1 66 yX1_isThere := ⟨(zt 381 (by decide +kernel) (by decide +kernel)), (zt 382 (by decide +kernel) (by decide +kernel)), (zt 383 (by decide +kernel) (by decide +kernel)), (zt 2 (by decide +kernel) (by decide +kernel))⟩
theorem fd_X2_9 : zFd RX2 9 2 0 := ⟨RX2, TX2, 6, tyX2, rfl, rfl, by decide, (zt 142 (by decide +kernel) (by decide +kernel)), inz_2, tyX2_ok, nmX2⟩
theorem fw_X2_9 : zFw RX2 9 2 0 .int := ⟨fd_X2_9, _, rfl, by decide +kernel, by decide +kernel⟩
theorem fd_X2_17 : zFd RX2 17 2 1 := ⟨RX2, TX2, 6, tyX2, rfl, rfl, by decide, (zt 143 (by decide +kernel) (by decide +kernel)), inz_2, tyX2_ok, nmX2⟩
theorem fd_X2_20 : zFd RX2 20 2 2 := ⟨RX2, TX2, 6, tyX2, rfl, rfl, by decide, (zt 144 (by decide +kernel) (by decide +kernel)), inz_2, tyX2_ok, nmX2⟩
theorem fd_X2_23 : zFd RX2 23 2 3 := ⟨RX2, TX2, 6, tyX2, rfl, rfl, by decide, (zt 145 (by decide +kernel) (by decide +kernel)), inz_2, tyX2_ok, nmX2⟩
theorem fd_X2_27 : zFd RX2 27 2 4 := ⟨RX2, TX2, 6, tyX2, rfl, rfl, by decide, (zt 147 (by decide +kernel) (by decide +kernel)), inz_2, tyX2_ok, nmX2⟩
theorem fd_X2_30 : zFd RX2 30 2 5 := ⟨RX2, TX2, 6, tyX2, rfl, rfl, by decide, (zt 148 (by decide +kernel) (by decide +kernel)), inz_2, tyX2_ok, nmX2⟩
theorem cv_X2_33 : zCv RX2 33 yX2_readRow := ⟨(zt 538 (by decide +kernel) (by decide +kernel)), (zt 539 (by decide +kernel) (by decide +kernel)), (zt 540 (by decide +kernel) (by decide +kernel)), (zt 7 (by decide +kernel) (by decide +kernel))⟩
theorem cs_X2_37 : zCs RX2 37 yX7_isFrom := ⟨Or.inr (ztn 542 (by decide +kernel) (by decide +kernel)), (zt 226 (by decide +kernel) (by decide +kernel)), (zt 1 (by decide +kernel) (by decide +kernel))⟩
theorem cs_X2_41 : zCs RX2 41 yJ7_fill_53178 := ⟨Or.inl (zt 547 (by decide +kernel) (by decide +kernel)), (zt 548 (by decide +kernel) (by decide +kernel)), (zt 12 (by decide +kernel) (by decide +kernel))⟩
theorem cv_X2_47 : zCv RX2 47 yX2_firstAlone := ⟨(zt 550 (by decide +kernel) (by decide +kernel)), (zt 551 (by decide +kernel) (by decide +kernel)), (zt 552 (by decide +kernel) (by decide +kernel)), (zt 7 (by decide +kernel) (by decide +kernel))⟩
theorem cv_X2_51 : zCv RX2 51 yX2_askNext := ⟨(zt 554 (by decide +kernel) (by decide +kernel)), (zt 555 (by decide +kernel) (by decide +kernel)), (zt 556 (by decide +kernel) (by decide +kernel)), (zt 7 (by decide +kernel) (by decide +kernel))⟩
theorem cv_X2_55 : zCv RX2 55 yX2_groomLikesMore := ⟨(zt 558 (by decide +kernel) (by decide +kernel)), (zt 559 (by decide +kernel) (by decide +kernel)), (zt 560 (by decide +kernel) (by decide +kernel)), (zt 7 (by decide +kernel) (by decide +kernel))⟩
theorem cv_X2_58 : zCv RX2 58 yX2_wouldLeave := ⟨(zt 574 (by decide +kernel) (by decide +kernel)), (zt 575 (by decide +kernel) (by decide +kernel)), (zt 576 (by decide +kernel) (by decide +kernel)), (zt 7 (by decide +kernel) (by decide +kernel))⟩
theorem fd_X3_9 : zFd RX3 9 3 0 := ⟨RX3, TX3, 4, tyX3, rfl, rfl, by decide, (zt 169 (by decide +kernel) (by decide +kernel)), inz_3, tyX3_ok, nmX3⟩
theorem fd_X3_15 : zFd RX3 15 3 1 := ⟨RX3, TX3, 4, tyX3, rfl, rfl, by decide, (zt 171 (by decide +kernel) (by decide +kernel)), inz_3, tyX3_ok, nmX3⟩
theorem fw_X3_15 : zFw RX3 15 3 1 .boolean := ⟨fd_X3_15, _, rfl, by decide +kernel, by decide +kernel⟩
theorem fd_X3_19 : zFd RX3 19 3 2 := ⟨RX3, TX3, 4, tyX3, rfl, rfl, by decide, (zt 173 (by decide +kernel) (by decide +kernel)), inz_3, tyX3_ok, nmX3⟩
theorem fw_X3_19 : zFw RX3 19 3 2 .int := ⟨fd_X3_19, _, rfl, by decide +kernel, by decide +kernel⟩
theorem fd_X3_23 : zFd RX3 23 3 3 := ⟨RX3, TX3, 4, tyX3, rfl, rfl, by decide, (zt 175 (by decide +kernel) (by decide +kernel)), inz_3, tyX3_ok, nmX3⟩
theorem fw_X3_23 : zFw RX3 23 3 3 .int := ⟨fd_X3_23, _, rfl, by decide +kernel, by decide +kernel⟩
theorem cs_X3_26 : zCs RX3 26 yJ7_fill_53178 := ⟨Or.inl (zt 586 (by decide +kernel) (by decide +kernel)), (zt 548 (by decide +kernel) (by decide +kernel)), (zt 12 (by decide +kernel) (by decide +kernel))⟩
theorem fd_X4_9 : zFd RX4 9 4 0 := ⟨RX4, TX4, 4, tyX4, rfl, rfl, by decide, (zt 65 (by decide +kernel) (by decide +kernel)), inz_4, tyX4_ok, nmX4⟩
theorem fd_X4_17 : zFd RX4 17 4 1 := ⟨RX4, TX4, 4, tyX4, rfl, rfl, by decide, (zt 66 (by decide +kernel) (by decide +kernel)), inz_4, tyX4_ok, nmX4⟩
theorem fd_X4_20 : zFd RX4 20 4 2 := ⟨RX4, TX4, 4, tyX4, rfl, rfl, by decide, (zt 68 (by decide +kernel) (by decide +kernel)), inz_4, tyX4_ok, nmX4⟩
theorem fw_X4_20 : zFw RX4 20 4 2 .int := ⟨fd_X4_20, _, rfl, by decide +kernel, by decide +kernel⟩
theorem fd_X4_24 : zFd RX4 24 4 3 := ⟨RX4, TX4, 4, tyX4, rfl, rfl, by decide, (zt 70 (by decide +kernel) (by decide +kernel)), inz_4, tyX4_ok, nmX4⟩
theorem fw_X4_24 : zFw RX4 24 4 3 .int := ⟨fd_X4_24, _, rfl, by decide +kernel, by decide +kernel⟩
theorem cs_X4_27 : zCs RX4 27 yX7_isFrom := ⟨Or.inr (ztn 311 (by decide +kernel) (by decide +kernel)), (zt 226 (by decide +kernel) (by decide +kernel)), (zt 1 (by decide +kernel) (by decide +kernel))⟩
theorem cv_X4_31 : zCv RX4 31 yX4_readBride := ⟨(zt 324 (by decide +kernel) (by decide +kernel)), (zt 325 (by decide +kernel) (by decide +kernel)), (zt 326 (by decide +kernel) (by decide +kernel)), (zt 3 (by decide +kernel) (by decide +kernel))⟩
theorem cv_X4_35 : zCv RX4 35 yX4_next := ⟨(zt 334 (by decide +kernel) (by decide +kernel)), (zt 335 (by decide +kernel) (by decide +kernel)), (zt 336 (by decide +kernel) (by decide +kernel)), (zt 3 (by decide +kernel) (by decide +kernel))⟩
theorem cv_X4_39 : zCv RX4 39 yX4_isPassed := ⟨(zt 339 (by decide +kernel) (by decide +kernel)), (zt 340 (by decide +kernel) (by decide +kernel)), (zt 341 (by decide +kernel) (by decide +kernel)), (zt 3 (by decide +kernel) (by decide +kernel))⟩
theorem cv_X4_43 : zCv RX4 43 yX4_readShoe := ⟨(zt 363 (by decide +kernel) (by decide +kernel)), (zt 364 (by decide +kernel) (by decide +kernel)), (zt 365 (by decide +kernel) (by decide +kernel)), (zt 3 (by decide +kernel) (by decide +kernel))⟩
theorem sd_X4_46 : zSd RX4 46 300 := ⟨by decide, by decide, Or.inr (ztn 328 (by decide +kernel) (by decide +kernel))⟩
theorem sd_X4_49 : zSd RX4 49 301 := ⟨by decide, by decide, Or.inr (ztn 329 (by decide +kernel) (by decide +kernel))⟩
theorem cv_X4_52 : zCv RX4 52 yX4_readNumber := ⟨(zt 330 (by decide +kernel) (by decide +kernel)), (zt 331 (by decide +kernel) (by decide +kernel)), (zt 332 (by decide +kernel) (by decide +kernel)), (zt 3 (by decide +kernel) (by decide +kernel))⟩
theorem cv_X4_56 : zCv RX4 56 yX4_readSwell := ⟨(zt 343 (by decide +kernel) (by decide +kernel)), (zt 344 (by decide +kernel) (by decide +kernel)), (zt 345 (by decide +kernel) (by decide +kernel)), (zt 3 (by decide +kernel) (by decide +kernel))⟩
theorem cs_X4_59 : zCs RX4 59 yX7_isOfBride := ⟨Or.inr (ztn 347 (by decide +kernel) (by decide +kernel)), (zt 219 (by decide +kernel) (by decide +kernel)), (zt 1 (by decide +kernel) (by decide +kernel))⟩
theorem sd_X4_63 : zSd RX4 63 302 := ⟨by decide, by decide, Or.inr (ztn 367 (by decide +kernel) (by decide +kernel))⟩
theorem sd_X4_66 : zSd RX4 66 303 := ⟨by decide, by decide, Or.inr (ztn 368 (by decide +kernel) (by decide +kernel))⟩
theorem mm_X4_69 : zmm RX4 69 Lib.Math.min.name Lib.Math.min.code := ⟨(zt 338 (by decide +kernel) (by decide +kernel)), (zt 294 (by decide +kernel) (by decide +kernel)), (zt 10 (by decide +kernel) (by decide +kernel)), (zt 295 (by decide +kernel) (by decide +kernel))⟩
theorem fd_X5_13 : zFd RX5 13 5 0 := ⟨RX5, TX5, 2, tyX5, rfl, rfl, by decide, (zt 111 (by decide +kernel) (by decide +kernel)), inz_5, tyX5_ok, nmX5⟩
theorem fd_X5_16 : zFd RX5 16 5 1 := ⟨RX5, TX5, 2, tyX5, rfl, rfl, by decide, (zt 112 (by decide +kernel) (by decide +kernel)), inz_5, tyX5_ok, nmX5⟩
theorem fw_X5_16 : zFw RX5 16 5 1 .long := ⟨fd_X5_16, _, rfl, by decide +kernel, by decide +kernel⟩
theorem fd_X5_20 : zFd RX5 20 1 4 := ⟨RX1, TX1, 5, tyX1, rfl, rfl, by decide, (zt 43 (by decide +kernel) (by decide +kernel)), inz_1, tyX1_ok, nmX1⟩
theorem cv_X5_26 : zCv RX5 26 yX1_isThere := ⟨(zt 458 (by decide +kernel) (by decide +kernel)), (zt 382 (by decide +kernel) (by decide +kernel)), (zt 383 (by decide +kernel) (by decide +kernel)), (zt 2 (by decide +kernel) (by decide +kernel))⟩
theorem fd_X5_30 : zFd RX5 30 1 1 := ⟨RX1, TX1, 5, tyX1, rfl, rfl, by decide, (zt 35 (by decide +kernel) (by decide +kernel)), inz_1, tyX1_ok, nmX1⟩
theorem cv_X5_33 : zCv RX5 33 yX5_fewestOf := ⟨(zt 459 (by decide +kernel) (by decide +kernel)), (zt 460 (by decide +kernel) (by decide +kernel)), (zt 461 (by decide +kernel) (by decide +kernel)), (zt 5 (by decide +kernel) (by decide +kernel))⟩
theorem cv_X5_37 : zCv RX5 37 yX5_fewestBy := ⟨(zt 463 (by decide +kernel) (by decide +kernel)), (zt 464 (by decide +kernel) (by decide +kernel)), (zt 465 (by decide +kernel) (by decide +kernel)), (zt 5 (by decide +kernel) (by decide +kernel))⟩
theorem mm_X5_41 : zmm RX5 41 Lib.Math.min.name Lib.Math.min.code := ⟨(zt 468 (by decide +kernel) (by decide +kernel)), (zt 294 (by decide +kernel) (by decide +kernel)), (zt 10 (by decide +kernel) (by decide +kernel)), (zt 295 (by decide +kernel) (by decide +kernel))⟩
theorem mm_X5_46 : zmm RX5 46 Lib.Math.max.name Lib.Math.max.code := ⟨(zt 467 (by decide +kernel) (by decide +kernel)), (zt 289 (by decide +kernel) (by decide +kernel)), (zt 10 (by decide +kernel) (by decide +kernel)), (zt 290 (by decide +kernel) (by decide +kernel))⟩
theorem fd_X6_13 : zFd RX6 13 6 0 := ⟨RX6, TX6, 4, tyX6, rfl, rfl, by decide, (zt 88 (by decide +kernel) (by decide +kernel)), inz_6, tyX6_ok, nmX6⟩
theorem fd_X6_16 : zFd RX6 16 6 1 := ⟨RX6, TX6, 4, tyX6, rfl, rfl, by decide, (zt 89 (by decide +kernel) (by decide +kernel)), inz_6, tyX6_ok, nmX6⟩
theorem fd_X6_20 : zFd RX6 20 6 2 := ⟨RX6, TX6, 4, tyX6, rfl, rfl, by decide, (zt 90 (by decide +kernel) (by decide +kernel)), inz_6, tyX6_ok, nmX6⟩
theorem fd_X6_24 : zFd RX6 24 6 3 := ⟨RX6, TX6, 4, tyX6, rfl, rfl, by decide, (zt 92 (by decide +kernel) (by decide +kernel)), inz_6, tyX6_ok, nmX6⟩
theorem fw_X6_24 : zFw RX6 24 6 3 .int := ⟨fd_X6_24, _, rfl, by decide +kernel, by decide +kernel⟩
theorem cv_X6_28 : zCv RX6 28 yX6_priceAsked := ⟨(zt 393 (by decide +kernel) (by decide +kernel)), (zt 394 (by decide +kernel) (by decide +kernel)), (zt 395 (by decide +kernel) (by decide +kernel)), (zt 4 (by decide +kernel) (by decide +kernel))⟩
theorem cv_X6_32 : zCv RX6 32 yX6_addShoes := ⟨(zt 403 (by decide +kernel) (by decide +kernel)), (zt 404 (by decide +kernel) (by decide +kernel)), (zt 405 (by decide +kernel) (by decide +kernel)), (zt 4 (by decide +kernel) (by decide +kernel))⟩
theorem fd_X6_36 : zFd RX6 36 1 3 := ⟨RX1, TX1, 5, tyX1, rfl, rfl, by decide, (zt 40 (by decide +kernel) (by decide +kernel)), inz_1, tyX1_ok, nmX1⟩
theorem kc_X6_41 : Cond.constantLong RX6 41 (-1) ∈ zTb := (zt 399 (by decide +kernel) (by decide +kernel))
theorem cs_X6_43 : zCs RX6 43 yX6_shiftOf := ⟨Or.inl (zt 400 (by decide +kernel) (by decide +kernel)), (zt 401 (by decide +kernel) (by decide +kernel)), (zt 4 (by decide +kernel) (by decide +kernel))⟩
theorem cs_X6_47 : zCs RX6 47 yJ6_bitCount_0f7a4 := ⟨Or.inl (zt 422 (by decide +kernel) (by decide +kernel)), (zt 423 (by decide +kernel) (by decide +kernel)), (zt 13 (by decide +kernel) (by decide +kernel))⟩
theorem mm_X6_52 : zmm RX6 52 Lib.Math.max.name Lib.Math.max.code := ⟨(zt 428 (by decide +kernel) (by decide +kernel)), (zt 289 (by decide +kernel) (by decide +kernel)), (zt 10 (by decide +kernel) (by decide +kernel)), (zt 290 (by decide +kernel) (by decide +kernel))⟩
theorem fd_X6_58 : zFd RX6 58 1 4 := ⟨RX1, TX1, 5, tyX1, rfl, rfl, by decide, (zt 44 (by decide +kernel) (by decide +kernel)), inz_1, tyX1_ok, nmX1⟩
theorem cv_X6_61 : zCv RX6 61 yX1_isThere := ⟨(zt 397 (by decide +kernel) (by decide +kernel)), (zt 382 (by decide +kernel) (by decide +kernel)), (zt 383 (by decide +kernel) (by decide +kernel)), (zt 2 (by decide +kernel) (by decide +kernel))⟩
theorem fd_X6_65 : zFd RX6 65 1 0 := ⟨RX1, TX1, 5, tyX1, rfl, rfl, by decide, (zt 33 (by decide +kernel) (by decide +kernel)), inz_1, tyX1_ok, nmX1⟩
theorem cv_X6_69 : zCv RX6 69 yX1_leastOut := ⟨(zt 398 (by decide +kernel) (by decide +kernel)), (zt 282 (by decide +kernel) (by decide +kernel)), (zt 283 (by decide +kernel) (by decide +kernel)), (zt 2 (by decide +kernel) (by decide +kernel))⟩
theorem cs_X6_73 : zCs RX6 73 yJ7_fill_d0a16 := ⟨Or.inl (zt 407 (by decide +kernel) (by decide +kernel)), (zt 408 (by decide +kernel) (by decide +kernel)), (zt 12 (by decide +kernel) (by decide +kernel))⟩
theorem cv_X6_79 : zCv RX6 79 yX6_addShoe := ⟨(zt 410 (by decide +kernel) (by decide +kernel)), (zt 411 (by decide +kernel) (by decide +kernel)), (zt 412 (by decide +kernel) (by decide +kernel)), (zt 4 (by decide +kernel) (by decide +kernel))⟩
theorem fd_X7_10 : zFd RX7 10 7 0 := ⟨RX7, TX7, 9, tyX7, rfl, rfl, by decide, (zt 186 (by decide +kernel) (by decide +kernel)), inz_7, tyX7_ok, nmX7⟩
theorem fd_X7_16 : zFd RX7 16 7 1 := ⟨RX7, TX7, 9, tyX7, rfl, rfl, by decide, (zt 187 (by decide +kernel) (by decide +kernel)), inz_7, tyX7_ok, nmX7⟩
theorem fd_X7_19 : zFd RX7 19 7 2 := ⟨RX7, TX7, 9, tyX7, rfl, rfl, by decide, (zt 188 (by decide +kernel) (by decide +kernel)), inz_7, tyX7_ok, nmX7⟩
theorem fw_X7_19 : zFw RX7 19 7 2 .boolean := ⟨fd_X7_19, _, rfl, by decide +kernel, by decide +kernel⟩
theorem fd_X7_26 : zFd RX7 26 7 3 := ⟨RX7, TX7, 9, tyX7, rfl, rfl, by decide, (zt 189 (by decide +kernel) (by decide +kernel)), inz_7, tyX7_ok, nmX7⟩
theorem fd_X7_33 : zFd RX7 33 7 4 := ⟨RX7, TX7, 9, tyX7, rfl, rfl, by decide, (zt 190 (by decide +kernel) (by decide +kernel)), inz_7, tyX7_ok, nmX7⟩
theorem fd_X7_40 : zFd RX7 40 7 5 := ⟨RX7, TX7, 9, tyX7, rfl, rfl, by decide, (zt 191 (by decide +kernel) (by decide +kernel)), inz_7, tyX7_ok, nmX7⟩
theorem fd_X7_47 : zFd RX7 47 7 6 := ⟨RX7, TX7, 9, tyX7, rfl, rfl, by decide, (zt 192 (by decide +kernel) (by decide +kernel)), inz_7, tyX7_ok, nmX7⟩
theorem fd_X7_54 : zFd RX7 54 7 7 := ⟨RX7, TX7, 9, tyX7, rfl, rfl, by decide, (zt 193 (by decide +kernel) (by decide +kernel)), inz_7, tyX7_ok, nmX7⟩
theorem fd_X7_60 : zFd RX7 60 7 8 := ⟨RX7, TX7, 9, tyX7, rfl, rfl, by decide, (zt 194 (by decide +kernel) (by decide +kernel)), inz_7, tyX7_ok, nmX7⟩
theorem cs_X7_65 : zCs RX7 65 yX7_isOfBride := ⟨Or.inl (zt 218 (by decide +kernel) (by decide +kernel)), (zt 219 (by decide +kernel) (by decide +kernel)), (zt 1 (by decide +kernel) (by decide +kernel))⟩
theorem fd_X7_69 : zFd RX7 69 1 3 := ⟨RX1, TX1, 5, tyX1, rfl, rfl, by decide, (zt 41 (by decide +kernel) (by decide +kernel)), inz_1, tyX1_ok, nmX1⟩
theorem fd_X7_73 : zFd RX7 73 1 0 := ⟨RX1, TX1, 5, tyX1, rfl, rfl, by decide, (zt 32 (by decide +kernel) (by decide +kernel)), inz_1, tyX1_ok, nmX1⟩
theorem fw_X7_69 : zFw RX7 69 1 3 .int := ⟨fd_X7_69, _, rfl, by decide +kernel, by decide +kernel⟩
theorem cv_X7_77 : zCv RX7 77 yX7_isBride := ⟨(zt 232 (by decide +kernel) (by decide +kernel)), (zt 234 (by decide +kernel) (by decide +kernel)), (zt_sel (q := (yX7_isBride, 9)) (List.mem_of_getElem? (i := 0) (by decide +kernel)) (by decide +kernel)), (zt 1 (by decide +kernel) (by decide +kernel))⟩
theorem cs_X7_81 : zCs RX7 81 yX7_isFrom := ⟨Or.inl (zt 225 (by decide +kernel) (by decide +kernel)), (zt 226 (by decide +kernel) (by decide +kernel)), (zt 1 (by decide +kernel) (by decide +kernel))⟩
theorem cs_X7_85 : zCs RX7 85 yX7_isOfShoe := ⟨Or.inl (zt 240 (by decide +kernel) (by decide +kernel)), (zt 241 (by decide +kernel) (by decide +kernel)), (zt 1 (by decide +kernel) (by decide +kernel))⟩
theorem fd_X7_88 : zFd RX7 88 1 4 := ⟨RX1, TX1, 5, tyX1, rfl, rfl, by decide, (zt 45 (by decide +kernel) (by decide +kernel)), inz_1, tyX1_ok, nmX1⟩
theorem fd_X7_91 : zFd RX7 91 1 1 := ⟨RX1, TX1, 5, tyX1, rfl, rfl, by decide, (zt 36 (by decide +kernel) (by decide +kernel)), inz_1, tyX1_ok, nmX1⟩
theorem fw_X7_88 : zFw RX7 88 1 4 .int := ⟨fd_X7_88, _, rfl, by decide +kernel, by decide +kernel⟩
theorem cv_X7_94 : zCv RX7 94 yX7_isShoe := ⟨(zt 251 (by decide +kernel) (by decide +kernel)), (zt 253 (by decide +kernel) (by decide +kernel)), (zt_sel (q := (yX7_isShoe, 9)) (List.mem_of_getElem? (i := 1) (by decide +kernel)) (by decide +kernel)), (zt 1 (by decide +kernel) (by decide +kernel))⟩
theorem fd_X7_97 : zFd RX7 97 1 2 := ⟨RX1, TX1, 5, tyX1, rfl, rfl, by decide, (zt 38 (by decide +kernel) (by decide +kernel)), inz_1, tyX1_ok, nmX1⟩
theorem cs_X7_101 : zCs RX7 101 yX7_isSide := ⟨Or.inl (zt 267 (by decide +kernel) (by decide +kernel)), (zt 268 (by decide +kernel) (by decide +kernel)), (zt 1 (by decide +kernel) (by decide +kernel))⟩
theorem cs_X7_104 : zCs RX7 104 yX7_isHour := ⟨Or.inl (zt 270 (by decide +kernel) (by decide +kernel)), (zt 271 (by decide +kernel) (by decide +kernel)), (zt 1 (by decide +kernel) (by decide +kernel))⟩
theorem cv_X7_107 : zCv RX7 107 yX1_footAt := ⟨(zt 273 (by decide +kernel) (by decide +kernel)), (zt 274 (by decide +kernel) (by decide +kernel)), (zt 275 (by decide +kernel) (by decide +kernel)), (zt 2 (by decide +kernel) (by decide +kernel))⟩
theorem cv_X7_111 : zCv RX7 111 yX1_leastOut := ⟨(zt 281 (by decide +kernel) (by decide +kernel)), (zt 282 (by decide +kernel) (by decide +kernel)), (zt 283 (by decide +kernel) (by decide +kernel)), (zt 2 (by decide +kernel) (by decide +kernel))⟩
theorem cs_X7_114 : zCs RX7 114 yX4_isTypable := ⟨Or.inl (zt 308 (by decide +kernel) (by decide +kernel)), (zt 309 (by decide +kernel) (by decide +kernel)), (zt 3 (by decide +kernel) (by decide +kernel))⟩
theorem fd_X7_118 : zFd RX7 118 4 2 := ⟨RX4, TX4, 4, tyX4, rfl, rfl, by decide, (zt 69 (by decide +kernel) (by decide +kernel)), inz_4, tyX4_ok, nmX4⟩
theorem cv_X7_121 : zCv RX7 121 yX4_append := ⟨(zt 312 (by decide +kernel) (by decide +kernel)), (zt 313 (by decide +kernel) (by decide +kernel)), (zt 314 (by decide +kernel) (by decide +kernel)), (zt 3 (by decide +kernel) (by decide +kernel))⟩
theorem cv_X7_125 : zCv RX7 125 yX4_readBrides := ⟨(zt 320 (by decide +kernel) (by decide +kernel)), (zt 321 (by decide +kernel) (by decide +kernel)), (zt 322 (by decide +kernel) (by decide +kernel)), (zt 3 (by decide +kernel) (by decide +kernel))⟩
theorem fw_X7_118 : zFw RX7 118 4 2 .int := ⟨fd_X7_118, _, rfl, by decide +kernel, by decide +kernel⟩
theorem fd_X7_129 : zFd RX7 129 4 1 := ⟨RX4, TX4, 4, tyX4, rfl, rfl, by decide, (zt 67 (by decide +kernel) (by decide +kernel)), inz_4, tyX4_ok, nmX4⟩
theorem cv_X7_132 : zCv RX7 132 yX1_takeBrides := ⟨(zt 348 (by decide +kernel) (by decide +kernel)), (zt 349 (by decide +kernel) (by decide +kernel)), (zt 350 (by decide +kernel) (by decide +kernel)), (zt 2 (by decide +kernel) (by decide +kernel))⟩
theorem cv_X7_136 : zCv RX7 136 yX4_readHeap := ⟨(zt 359 (by decide +kernel) (by decide +kernel)), (zt 360 (by decide +kernel) (by decide +kernel)), (zt 361 (by decide +kernel) (by decide +kernel)), (zt 3 (by decide +kernel) (by decide +kernel))⟩
theorem cv_X7_139 : zCv RX7 139 yX1_takeShoes := ⟨(zt 369 (by decide +kernel) (by decide +kernel)), (zt 370 (by decide +kernel) (by decide +kernel)), (zt 371 (by decide +kernel) (by decide +kernel)), (zt 2 (by decide +kernel) (by decide +kernel))⟩
theorem cv_X7_142 : zCv RX7 142 yX1_shoesThere := ⟨(zt 377 (by decide +kernel) (by decide +kernel)), (zt 378 (by decide +kernel) (by decide +kernel)), (zt 379 (by decide +kernel) (by decide +kernel)), (zt 2 (by decide +kernel) (by decide +kernel))⟩
theorem cv_X7_146 : zCv RX7 146 yX6_findForAll := ⟨(zt 389 (by decide +kernel) (by decide +kernel)), (zt 390 (by decide +kernel) (by decide +kernel)), (zt 391 (by decide +kernel) (by decide +kernel)), (zt 4 (by decide +kernel) (by decide +kernel))⟩
theorem fd_X7_150 : zFd RX7 150 6 3 := ⟨RX6, TX6, 4, tyX6, rfl, rfl, by decide, (zt 93 (by decide +kernel) (by decide +kernel)), inz_6, tyX6_ok, nmX6⟩
theorem fd_X7_153 : zFd RX7 153 6 2 := ⟨RX6, TX6, 4, tyX6, rfl, rfl, by decide, (zt 91 (by decide +kernel) (by decide +kernel)), inz_6, tyX6_ok, nmX6⟩
theorem cv_X7_156 : zCv RX7 156 yX6_findMost := ⟨(zt 418 (by decide +kernel) (by decide +kernel)), (zt 419 (by decide +kernel) (by decide +kernel)), (zt 420 (by decide +kernel) (by decide +kernel)), (zt 4 (by decide +kernel) (by decide +kernel))⟩
theorem cv_X7_160 : zCv RX7 160 yX6_isWorn := ⟨(zt 433 (by decide +kernel) (by decide +kernel)), (zt 434 (by decide +kernel) (by decide +kernel)), (zt 435 (by decide +kernel) (by decide +kernel)), (zt 4 (by decide +kernel) (by decide +kernel))⟩
theorem cv_X7_163 : zCv RX7 163 yX6_findChain := ⟨(zt 437 (by decide +kernel) (by decide +kernel)), (zt 438 (by decide +kernel) (by decide +kernel)), (zt 439 (by decide +kernel) (by decide +kernel)), (zt 4 (by decide +kernel) (by decide +kernel))⟩
theorem kc_X7_166 : Cond.constant RX7 166 (-100001) ∈ zTb := (zt 445 (by decide +kernel) (by decide +kernel))
theorem cv_X7_167 : zCv RX7 167 yX1_limpOf := ⟨(zt 446 (by decide +kernel) (by decide +kernel)), (zt 447 (by decide +kernel) (by decide +kernel)), (zt 448 (by decide +kernel) (by decide +kernel)), (zt 2 (by decide +kernel) (by decide +kernel))⟩
theorem cv_X7_170 : zCv RX7 170 yX5_findFewest := ⟨(zt 454 (by decide +kernel) (by decide +kernel)), (zt 455 (by decide +kernel) (by decide +kernel)), (zt 456 (by decide +kernel) (by decide +kernel)), (zt 5 (by decide +kernel) (by decide +kernel))⟩
theorem cv_X7_174 : zCv RX7 174 yX5_fewestTries := ⟨(zt 469 (by decide +kernel) (by decide +kernel)), (zt 470 (by decide +kernel) (by decide +kernel)), (zt 471 (by decide +kernel) (by decide +kernel)), (zt 5 (by decide +kernel) (by decide +kernel))⟩
theorem cv_X7_178 : zCv RX7 178 yX5_firstTried := ⟨(zt 473 (by decide +kernel) (by decide +kernel)), (zt 474 (by decide +kernel) (by decide +kernel)), (zt 475 (by decide +kernel) (by decide +kernel)), (zt 5 (by decide +kernel) (by decide +kernel))⟩
theorem cv_X7_181 : zCv RX7 181 yX1_takeAll := ⟨(zt 481 (by decide +kernel) (by decide +kernel)), (zt 482 (by decide +kernel) (by decide +kernel)), (zt 483 (by decide +kernel) (by decide +kernel)), (zt 2 (by decide +kernel) (by decide +kernel))⟩
theorem cs_X7_185 : zCs RX7 185 yX7_isSheet := ⟨Or.inl (zt 495 (by decide +kernel) (by decide +kernel)), (zt 496 (by decide +kernel) (by decide +kernel)), (zt 1 (by decide +kernel) (by decide +kernel))⟩
theorem cs_X7_188 : zCs RX7 188 yX7_isLane := ⟨Or.inl (zt 498 (by decide +kernel) (by decide +kernel)), (zt 499 (by decide +kernel) (by decide +kernel)), (zt 1 (by decide +kernel) (by decide +kernel))⟩
theorem cv_X7_191 : zCv RX7 191 yX3_refusal := ⟨(zt 501 (by decide +kernel) (by decide +kernel)), (zt 502 (by decide +kernel) (by decide +kernel)), (zt 503 (by decide +kernel) (by decide +kernel)), (zt 8 (by decide +kernel) (by decide +kernel))⟩
theorem fd_X7_194 : zFd RX7 194 3 0 := ⟨RX3, TX3, 4, tyX3, rfl, rfl, by decide, (zt 170 (by decide +kernel) (by decide +kernel)), inz_3, tyX3_ok, nmX3⟩
theorem cv_X7_197 : zCv RX7 197 yX0_find := ⟨(zt 505 (by decide +kernel) (by decide +kernel)), (zt 506 (by decide +kernel) (by decide +kernel)), (zt 507 (by decide +kernel) (by decide +kernel)), (zt 6 (by decide +kernel) (by decide +kernel))⟩
theorem cv_X7_201 : zCv RX7 201 yX0_howMany := ⟨(zt 523 (by decide +kernel) (by decide +kernel)), (zt 524 (by decide +kernel) (by decide +kernel)), (zt 525 (by decide +kernel) (by decide +kernel)), (zt 6 (by decide +kernel) (by decide +kernel))⟩
theorem fd_X7_204 : zFd RX7 204 0 2 := ⟨RX0, TX0, 3, tyX0, rfl, rfl, by decide, (zt 127 (by decide +kernel) (by decide +kernel)), inz_0, tyX0_ok, nmX0⟩
theorem cs_X7_207 : zCs RX7 207 yX7_isRanked := ⟨Or.inl (zt 531 (by decide +kernel) (by decide +kernel)), (zt 532 (by decide +kernel) (by decide +kernel)), (zt 1 (by decide +kernel) (by decide +kernel))⟩
theorem cv_X7_210 : zCv RX7 210 yX2_read := ⟨(zt 534 (by decide +kernel) (by decide +kernel)), (zt 535 (by decide +kernel) (by decide +kernel)), (zt 536 (by decide +kernel) (by decide +kernel)), (zt 7 (by decide +kernel) (by decide +kernel))⟩
theorem cv_X7_214 : zCv RX7 214 yX2_pairByBrides := ⟨(zt 543 (by decide +kernel) (by decide +kernel)), (zt 544 (by decide +kernel) (by decide +kernel)), (zt 545 (by decide +kernel) (by decide +kernel)), (zt 7 (by decide +kernel) (by decide +kernel))⟩
theorem fd_X7_217 : zFd RX7 217 2 3 := ⟨RX2, TX2, 6, tyX2, rfl, rfl, by decide, (zt 146 (by decide +kernel) (by decide +kernel)), inz_2, tyX2_ok, nmX2⟩
theorem cv_X7_220 : zCv RX7 220 yX2_readPairs := ⟨(zt 566 (by decide +kernel) (by decide +kernel)), (zt 567 (by decide +kernel) (by decide +kernel)), (zt 568 (by decide +kernel) (by decide +kernel)), (zt 7 (by decide +kernel) (by decide +kernel))⟩
theorem cv_X7_224 : zCv RX7 224 yX2_firstToLeave := ⟨(zt 570 (by decide +kernel) (by decide +kernel)), (zt 571 (by decide +kernel) (by decide +kernel)), (zt 572 (by decide +kernel) (by decide +kernel)), (zt 7 (by decide +kernel) (by decide +kernel))⟩
theorem cv_X7_227 : zCv RX7 227 yX3_renew := ⟨(zt 582 (by decide +kernel) (by decide +kernel)), (zt 583 (by decide +kernel) (by decide +kernel)), (zt 584 (by decide +kernel) (by decide +kernel)), (zt 8 (by decide +kernel) (by decide +kernel))⟩
theorem fd_X7_231 : zFd RX7 231 3 1 := ⟨RX3, TX3, 4, tyX3, rfl, rfl, by decide, (zt 172 (by decide +kernel) (by decide +kernel)), inz_3, tyX3_ok, nmX3⟩
theorem fw_X7_231 : zFw RX7 231 3 1 .boolean := ⟨fd_X7_231, _, rfl, by decide +kernel, by decide +kernel⟩
theorem fd_X7_234 : zFd RX7 234 3 3 := ⟨RX3, TX3, 4, tyX3, rfl, rfl, by decide, (zt 176 (by decide +kernel) (by decide +kernel)), inz_3, tyX3_ok, nmX3⟩
theorem cs_X7_235 : zCs RX7 235 yX3_cut := ⟨Or.inl (zt 595 (by decide +kernel) (by decide +kernel)), (zt 596 (by decide +kernel) (by decide +kernel)), (zt 8 (by decide +kernel) (by decide +kernel))⟩
theorem fd_X7_238 : zFd RX7 238 3 2 := ⟨RX3, TX3, 4, tyX3, rfl, rfl, by decide, (zt 174 (by decide +kernel) (by decide +kernel)), inz_3, tyX3_ok, nmX3⟩
theorem ac_X7_241 : zac RX7 241 := ⟨(zt 602 (by decide +kernel) (by decide +kernel)), (zt 354 (by decide +kernel) (by decide +kernel)), (zt 353 (by decide +kernel) (by decide +kernel)), (zt 11 (by decide +kernel) (by decide +kernel))⟩
theorem sd_X7_247 : zSd RX7 247 300 := ⟨by decide, by decide, Or.inl (zt 221 (by decide +kernel) (by decide +kernel))⟩
theorem sd_X7_250 : zSd RX7 250 301 := ⟨by decide, by decide, Or.inl (zt 223 (by decide +kernel) (by decide +kernel))⟩
theorem sd_X7_253 : zSd RX7 253 302 := ⟨by decide, by decide, Or.inl (zt 243 (by decide +kernel) (by decide +kernel))⟩
theorem sd_X7_256 : zSd RX7 256 303 := ⟨by decide, by decide, Or.inl (zt 245 (by decide +kernel) (by decide +kernel))⟩
theorem fd_X8_7 : zFd RX8 7 8 0 := ⟨RX8, TX8, 32, tyX8, rfl, rfl, by decide, (zt 610 (by decide +kernel) (by decide +kernel)), inz_8, tyX8_ok, nmX8⟩
theorem fd_X8_13 : zFd RX8 13 8 1 := ⟨RX8, TX8, 32, tyX8, rfl, rfl, by decide, (zt 611 (by decide +kernel) (by decide +kernel)), inz_8, tyX8_ok, nmX8⟩
theorem fd_X8_16 : zFd RX8 16 8 4 := ⟨RX8, TX8, 32, tyX8, rfl, rfl, by decide, (zt 614 (by decide +kernel) (by decide +kernel)), inz_8, tyX8_ok, nmX8⟩
theorem fd_X8_19 : zFd RX8 19 8 5 := ⟨RX8, TX8, 32, tyX8, rfl, rfl, by decide, (zt 615 (by decide +kernel) (by decide +kernel)), inz_8, tyX8_ok, nmX8⟩
theorem fd_X8_22 : zFd RX8 22 8 9 := ⟨RX8, TX8, 32, tyX8, rfl, rfl, by decide, (zt 619 (by decide +kernel) (by decide +kernel)), inz_8, tyX8_ok, nmX8⟩
theorem fd_X8_25 : zFd RX8 25 8 10 := ⟨RX8, TX8, 32, tyX8, rfl, rfl, by decide, (zt 620 (by decide +kernel) (by decide +kernel)), inz_8, tyX8_ok, nmX8⟩
theorem fd_X8_28 : zFd RX8 28 8 12 := ⟨RX8, TX8, 32, tyX8, rfl, rfl, by decide, (zt 622 (by decide +kernel) (by decide +kernel)), inz_8, tyX8_ok, nmX8⟩
theorem kc_X8_31 : Cond.constant RX8 31 (65536) ∈ zTb := (zt 609 (by decide +kernel) (by decide +kernel))
theorem fd_X8_32 : zFd RX8 32 8 13 := ⟨RX8, TX8, 32, tyX8, rfl, rfl, by decide, (zt 623 (by decide +kernel) (by decide +kernel)), inz_8, tyX8_ok, nmX8⟩
theorem fd_X8_35 : zFd RX8 35 8 14 := ⟨RX8, TX8, 32, tyX8, rfl, rfl, by decide, (zt 624 (by decide +kernel) (by decide +kernel)), inz_8, tyX8_ok, nmX8⟩
theorem fd_X8_38 : zFd RX8 38 8 15 := ⟨RX8, TX8, 32, tyX8, rfl, rfl, by decide, (zt 625 (by decide +kernel) (by decide +kernel)), inz_8, tyX8_ok, nmX8⟩
theorem fd_X8_42 : zFd RX8 42 8 16 := ⟨RX8, TX8, 32, tyX8, rfl, rfl, by decide, (zt 626 (by decide +kernel) (by decide +kernel)), inz_8, tyX8_ok, nmX8⟩
theorem fd_X8_45 : zFd RX8 45 8 17 := ⟨RX8, TX8, 32, tyX8, rfl, rfl, by decide, (zt 627 (by decide +kernel) (by decide +kernel)), inz_8, tyX8_ok, nmX8⟩
theorem fd_X8_48 : zFd RX8 48 8 19 := ⟨RX8, TX8, 32, tyX8, rfl, rfl, by decide, (zt 629 (by decide +kernel) (by decide +kernel)), inz_8, tyX8_ok, nmX8⟩
theorem fd_X8_51 : zFd RX8 51 8 22 := ⟨RX8, TX8, 32, tyX8, rfl, rfl, by decide, (zt 632 (by decide +kernel) (by decide +kernel)), inz_8, tyX8_ok, nmX8⟩
theorem fd_X8_54 : zFd RX8 54 8 23 := ⟨RX8, TX8, 32, tyX8, rfl, rfl, by decide, (zt 633 (by decide +kernel) (by decide +kernel)), inz_8, tyX8_ok, nmX8⟩
theorem fd_X8_57 : zFd RX8 57 8 24 := ⟨RX8, TX8, 32, tyX8, rfl, rfl, by decide, (zt 634 (by decide +kernel) (by decide +kernel)), inz_8, tyX8_ok, nmX8⟩
theorem fd_X8_60 : zFd RX8 60 8 25 := ⟨RX8, TX8, 32, tyX8, rfl, rfl, by decide, (zt 635 (by decide +kernel) (by decide +kernel)), inz_8, tyX8_ok, nmX8⟩
theorem fd_X8_63 : zFd RX8 63 8 26 := ⟨RX8, TX8, 32, tyX8, rfl, rfl, by decide, (zt 636 (by decide +kernel) (by decide +kernel)), inz_8, tyX8_ok, nmX8⟩
theorem fd_X8_66 : zFd RX8 66 8 27 := ⟨RX8, TX8, 32, tyX8, rfl, rfl, by decide, (zt 637 (by decide +kernel) (by decide +kernel)), inz_8, tyX8_ok, nmX8⟩
theorem fd_X8_69 : zFd RX8 69 8 28 := ⟨RX8, TX8, 32, tyX8, rfl, rfl, by decide, (zt 638 (by decide +kernel) (by decide +kernel)), inz_8, tyX8_ok, nmX8⟩
theorem fd_X8_72 : zFd RX8 72 8 29 := ⟨RX8, TX8, 32, tyX8, rfl, rfl, by decide, (zt 639 (by decide +kernel) (by decide +kernel)), inz_8, tyX8_ok, nmX8⟩
theorem fd_X8_75 : zFd RX8 75 8 30 := ⟨RX8, TX8, 32, tyX8, rfl, rfl, by decide, (zt 640 (by decide +kernel) (by decide +kernel)), inz_8, tyX8_ok, nmX8⟩
theorem fd_X8_78 : zFd RX8 78 8 31 := ⟨RX8, TX8, 32, tyX8, rfl, rfl, by decide, (zt 641 (by decide +kernel) (by decide +kernel)), inz_8, tyX8_ok, nmX8⟩
theorem fd_X8_81 : zFd RX8 81 8 2 := ⟨RX8, TX8, 32, tyX8, rfl, rfl, by decide, (zt 612 (by decide +kernel) (by decide +kernel)), inz_8, tyX8_ok, nmX8⟩
theorem cs_X8_85 : zCs RX8 85 yX8_in := ⟨Or.inl (zt 717 (by decide +kernel) (by decide +kernel)), (zt 718 (by decide +kernel) (by decide +kernel)), (zt 9 (by decide +kernel) (by decide +kernel))⟩
theorem fd_X8_89 : zFd RX8 89 8 3 := ⟨RX8, TX8, 32, tyX8, rfl, rfl, by decide, (zt 613 (by decide +kernel) (by decide +kernel)), inz_8, tyX8_ok, nmX8⟩
theorem kc_X8_92 : Cond.constantLong RX8 92 (11) ∈ zTb := (zt 721 (by decide +kernel) (by decide +kernel))
theorem kc_X8_94 : Cond.constantLong RX8 94 (20) ∈ zTb := (zt 715 (by decide +kernel) (by decide +kernel))
theorem kc_X8_96 : Cond.constantLong RX8 96 (60) ∈ zTb := (zt 716 (by decide +kernel) (by decide +kernel))
theorem kc_X8_98 : Cond.constantLong RX8 98 (4) ∈ zTb := (zt 720 (by decide +kernel) (by decide +kernel))
theorem cs_X8_100 : zCs RX8 100 yX8_isOfBride := ⟨Or.inl (zt 712 (by decide +kernel) (by decide +kernel)), (zt 713 (by decide +kernel) (by decide +kernel)), (zt 9 (by decide +kernel) (by decide +kernel))⟩
theorem fw_X8_81 : zFw RX8 81 8 2 .int := ⟨fd_X8_81, _, rfl, by decide +kernel, by decide +kernel⟩
theorem cv_X8_104 : zCv RX8 104 yX8_isBride := ⟨(zt 726 (by decide +kernel) (by decide +kernel)), (zt 728 (by decide +kernel) (by decide +kernel)), (zt_sel (q := (yX8_isBride, 32)) (List.mem_of_getElem? (i := 2) (by decide +kernel)) (by decide +kernel)), (zt 9 (by decide +kernel) (by decide +kernel))⟩
theorem kc_X8_108 : Cond.constantLong RX8 108 (3) ∈ zTb := (zt 730 (by decide +kernel) (by decide +kernel))
theorem fw_X8_89 : zFw RX8 89 8 3 .int := ⟨fd_X8_89, _, rfl, by decide +kernel, by decide +kernel⟩
theorem kc_X8_110 : Cond.constantLong RX8 110 (70) ∈ zTb := (zt 735 (by decide +kernel) (by decide +kernel))
theorem cv_X8_112 : zCv RX8 112 yX8_addShoe := ⟨(zt 736 (by decide +kernel) (by decide +kernel)), (zt 738 (by decide +kernel) (by decide +kernel)), (zt_sel (q := (yX8_addShoe, 32)) (List.mem_of_getElem? (i := 3) (by decide +kernel)) (by decide +kernel)), (zt 9 (by decide +kernel) (by decide +kernel))⟩
theorem cv_X8_116 : zCv RX8 116 yX8_isShoe := ⟨(zt 744 (by decide +kernel) (by decide +kernel)), (zt 746 (by decide +kernel) (by decide +kernel)), (zt_sel (q := (yX8_isShoe, 32)) (List.mem_of_getElem? (i := 4) (by decide +kernel)) (by decide +kernel)), (zt 9 (by decide +kernel) (by decide +kernel))⟩
theorem kc_X8_119 : Cond.constantLong RX8 119 (6) ∈ zTb := (zt 756 (by decide +kernel) (by decide +kernel))
theorem cv_X8_121 : zCv RX8 121 yX8_footOf := ⟨(zt 764 (by decide +kernel) (by decide +kernel)), (zt 766 (by decide +kernel) (by decide +kernel)), (zt_sel (q := (yX8_footOf, 32)) (List.mem_of_getElem? (i := 5) (by decide +kernel)) (by decide +kernel)), (zt 9 (by decide +kernel) (by decide +kernel))⟩
theorem cv_X8_125 : zCv RX8 125 yX8_outOf := ⟨(zt 776 (by decide +kernel) (by decide +kernel)), (zt 778 (by decide +kernel) (by decide +kernel)), (zt_sel (q := (yX8_outOf, 32)) (List.mem_of_getElem? (i := 7) (by decide +kernel)) (by decide +kernel)), (zt 9 (by decide +kernel) (by decide +kernel))⟩
theorem cv_X8_129 : zCv RX8 129 yX8_givesOf := ⟨(zt 780 (by decide +kernel) (by decide +kernel)), (zt 782 (by decide +kernel) (by decide +kernel)), (zt_sel (q := (yX8_givesOf, 32)) (List.mem_of_getElem? (i := 8) (by decide +kernel)) (by decide +kernel)), (zt 9 (by decide +kernel) (by decide +kernel))⟩
theorem cv_X8_132 : zCv RX8 132 yX8_looseOf := ⟨(zt 784 (by decide +kernel) (by decide +kernel)), (zt 786 (by decide +kernel) (by decide +kernel)), (zt_sel (q := (yX8_looseOf, 32)) (List.mem_of_getElem? (i := 9) (by decide +kernel)) (by decide +kernel)), (zt 9 (by decide +kernel) (by decide +kernel))⟩
theorem cs_X8_135 : zCs RX8 135 yX8_isHour := ⟨Or.inl (zt 761 (by decide +kernel) (by decide +kernel)), (zt 762 (by decide +kernel) (by decide +kernel)), (zt 9 (by decide +kernel) (by decide +kernel))⟩
theorem cv_X8_138 : zCv RX8 138 yX8_askedOf := ⟨(zt 772 (by decide +kernel) (by decide +kernel)), (zt 774 (by decide +kernel) (by decide +kernel)), (zt_sel (q := (yX8_askedOf, 32)) (List.mem_of_getElem? (i := 6) (by decide +kernel)) (by decide +kernel)), (zt 9 (by decide +kernel) (by decide +kernel))⟩
theorem kc_X8_141 : Cond.constantLong RX8 141 (8) ∈ zTb := (zt 800 (by decide +kernel) (by decide +kernel))
theorem kc_X8_143 : Cond.constantLong RX8 143 (255) ∈ zTb := (zt 801 (by decide +kernel) (by decide +kernel))
theorem kc_X8_145 : Cond.constantLong RX8 145 (32) ∈ zTb := (zt 802 (by decide +kernel) (by decide +kernel))
theorem kc_X8_147 : Cond.constantLong RX8 147 (126) ∈ zTb := (zt 803 (by decide +kernel) (by decide +kernel))
theorem fd_X8_149 : zFd RX8 149 8 6 := ⟨RX8, TX8, 32, tyX8, rfl, rfl, by decide, (zt 616 (by decide +kernel) (by decide +kernel)), inz_8, tyX8_ok, nmX8⟩
theorem fw_X8_149 : zFw RX8 149 8 6 .int := ⟨fd_X8_149, _, rfl, by decide +kernel, by decide +kernel⟩
theorem fd_X8_152 : zFd RX8 152 8 7 := ⟨RX8, TX8, 32, tyX8, rfl, rfl, by decide, (zt 617 (by decide +kernel) (by decide +kernel)), inz_8, tyX8_ok, nmX8⟩
theorem fw_X8_152 : zFw RX8 152 8 7 .int := ⟨fd_X8_152, _, rfl, by decide +kernel, by decide +kernel⟩
theorem cv_X8_155 : zCv RX8 155 yX8_nextByte := ⟨(zt 820 (by decide +kernel) (by decide +kernel)), (zt 822 (by decide +kernel) (by decide +kernel)), (zt_sel (q := (yX8_nextByte, 32)) (List.mem_of_getElem? (i := 13) (by decide +kernel)) (by decide +kernel)), (zt 9 (by decide +kernel) (by decide +kernel))⟩
theorem kc_X8_159 : Cond.constantLong RX8 159 (48) ∈ zTb := (zt 824 (by decide +kernel) (by decide +kernel))
theorem kc_X8_161 : Cond.constantLong RX8 161 (57) ∈ zTb := (zt 825 (by decide +kernel) (by decide +kernel))
theorem cv_X8_163 : zCv RX8 163 yX8_readNumber := ⟨(zt 816 (by decide +kernel) (by decide +kernel)), (zt 818 (by decide +kernel) (by decide +kernel)), (zt_sel (q := (yX8_readNumber, 32)) (List.mem_of_getElem? (i := 12) (by decide +kernel)) (by decide +kernel)), (zt 9 (by decide +kernel) (by decide +kernel))⟩
theorem cv_X8_167 : zCv RX8 167 yX8_takes := ⟨(zt 826 (by decide +kernel) (by decide +kernel)), (zt 828 (by decide +kernel) (by decide +kernel)), (zt_sel (q := (yX8_takes, 32)) (List.mem_of_getElem? (i := 14) (by decide +kernel)) (by decide +kernel)), (zt 9 (by decide +kernel) (by decide +kernel))⟩
theorem cv_X8_170 : zCv RX8 170 yX8_readDigit := ⟨(zt 830 (by decide +kernel) (by decide +kernel)), (zt 832 (by decide +kernel) (by decide +kernel)), (zt_sel (q := (yX8_readDigit, 32)) (List.mem_of_getElem? (i := 15) (by decide +kernel)) (by decide +kernel)), (zt 9 (by decide +kernel) (by decide +kernel))⟩
theorem cv_X8_173 : zCv RX8 173 yX8_readBride := ⟨(zt 812 (by decide +kernel) (by decide +kernel)), (zt 814 (by decide +kernel) (by decide +kernel)), (zt_sel (q := (yX8_readBride, 32)) (List.mem_of_getElem? (i := 11) (by decide +kernel)) (by decide +kernel)), (zt 9 (by decide +kernel) (by decide +kernel))⟩
theorem cv_X8_176 : zCv RX8 176 yX8_readShoe := ⟨(zt 834 (by decide +kernel) (by decide +kernel)), (zt 836 (by decide +kernel) (by decide +kernel)), (zt_sel (q := (yX8_readShoe, 32)) (List.mem_of_getElem? (i := 16) (by decide +kernel)) (by decide +kernel)), (zt 9 (by decide +kernel) (by decide +kernel))⟩
theorem fd_X8_179 : zFd RX8 179 8 8 := ⟨RX8, TX8, 32, tyX8, rfl, rfl, by decide, (zt 618 (by decide +kernel) (by decide +kernel)), inz_8, tyX8_ok, nmX8⟩
theorem fw_X8_179 : zFw RX8 179 8 8 .int := ⟨fd_X8_179, _, rfl, by decide +kernel, by decide +kernel⟩
theorem cv_X8_182 : zCv RX8 182 yX8_readAll := ⟨(zt 808 (by decide +kernel) (by decide +kernel)), (zt 810 (by decide +kernel) (by decide +kernel)), (zt_sel (q := (yX8_readAll, 32)) (List.mem_of_getElem? (i := 10) (by decide +kernel)) (by decide +kernel)), (zt 9 (by decide +kernel) (by decide +kernel))⟩
theorem fd_X8_186 : zFd RX8 186 8 11 := ⟨RX8, TX8, 32, tyX8, rfl, rfl, by decide, (zt 621 (by decide +kernel) (by decide +kernel)), inz_8, tyX8_ok, nmX8⟩
theorem fw_X8_186 : zFw RX8 186 8 11 .int := ⟨fd_X8_186, _, rfl, by decide +kernel, by decide +kernel⟩
theorem cs_X8_189 : zCs RX8 189 yX8_ones := ⟨Or.inl (zt 859 (by decide +kernel) (by decide +kernel)), (zt 860 (by decide +kernel) (by decide +kernel)), (zt 9 (by decide +kernel) (by decide +kernel))⟩
theorem kc_X8_192 : Cond.constant RX8 192 (1000000) ∈ zTb := (zt 862 (by decide +kernel) (by decide +kernel))
theorem cv_X8_193 : zCv RX8 193 yX8_findSide := ⟨(zt 851 (by decide +kernel) (by decide +kernel)), (zt 853 (by decide +kernel) (by decide +kernel)), (zt_sel (q := (yX8_findSide, 32)) (List.mem_of_getElem? (i := 18) (by decide +kernel)) (by decide +kernel)), (zt 9 (by decide +kernel) (by decide +kernel))⟩
theorem cv_X8_197 : zCv RX8 197 yX8_findLeast := ⟨(zt 855 (by decide +kernel) (by decide +kernel)), (zt 857 (by decide +kernel) (by decide +kernel)), (zt_sel (q := (yX8_findLeast, 32)) (List.mem_of_getElem? (i := 19) (by decide +kernel)) (by decide +kernel)), (zt 9 (by decide +kernel) (by decide +kernel))⟩
theorem kc_X8_200 : Cond.constantLong RX8 200 (-1) ∈ zTb := (zt 846 (by decide +kernel) (by decide +kernel))
theorem cv_X8_202 : zCv RX8 202 yX8_findWay := ⟨(zt 847 (by decide +kernel) (by decide +kernel)), (zt 849 (by decide +kernel) (by decide +kernel)), (zt_sel (q := (yX8_findWay, 32)) (List.mem_of_getElem? (i := 17) (by decide +kernel)) (by decide +kernel)), (zt 9 (by decide +kernel) (by decide +kernel))⟩
theorem cv_X8_205 : zCv RX8 205 yX8_limpsOf := ⟨(zt 875 (by decide +kernel) (by decide +kernel)), (zt 877 (by decide +kernel) (by decide +kernel)), (zt_sel (q := (yX8_limpsOf, 32)) (List.mem_of_getElem? (i := 20) (by decide +kernel)) (by decide +kernel)), (zt 9 (by decide +kernel) (by decide +kernel))⟩
theorem kc_X8_208 : Cond.constant RX8 208 (-100001) ∈ zTb := (zt 879 (by decide +kernel) (by decide +kernel))
theorem cv_X8_209 : zCv RX8 209 yX8_triesOf := ⟨(zt 892 (by decide +kernel) (by decide +kernel)), (zt 894 (by decide +kernel) (by decide +kernel)), (zt_sel (q := (yX8_triesOf, 32)) (List.mem_of_getElem? (i := 23) (by decide +kernel)) (by decide +kernel)), (zt 9 (by decide +kernel) (by decide +kernel))⟩
theorem cv_X8_212 : zCv RX8 212 yX8_triesBy := ⟨(zt 888 (by decide +kernel) (by decide +kernel)), (zt 890 (by decide +kernel) (by decide +kernel)), (zt_sel (q := (yX8_triesBy, 32)) (List.mem_of_getElem? (i := 22) (by decide +kernel)) (by decide +kernel)), (zt 9 (by decide +kernel) (by decide +kernel))⟩
theorem cv_X8_215 : zCv RX8 215 yX8_findTries := ⟨(zt 884 (by decide +kernel) (by decide +kernel)), (zt 886 (by decide +kernel) (by decide +kernel)), (zt_sel (q := (yX8_findTries, 32)) (List.mem_of_getElem? (i := 21) (by decide +kernel)) (by decide +kernel)), (zt 9 (by decide +kernel) (by decide +kernel))⟩
theorem fd_X8_218 : zFd RX8 218 8 20 := ⟨RX8, TX8, 32, tyX8, rfl, rfl, by decide, (zt 630 (by decide +kernel) (by decide +kernel)), inz_8, tyX8_ok, nmX8⟩
theorem fw_X8_218 : zFw RX8 218 8 20 .int := ⟨fd_X8_218, _, rfl, by decide +kernel, by decide +kernel⟩
theorem fd_X8_221 : zFd RX8 221 8 21 := ⟨RX8, TX8, 32, tyX8, rfl, rfl, by decide, (zt 631 (by decide +kernel) (by decide +kernel)), inz_8, tyX8_ok, nmX8⟩
theorem fw_X8_221 : zFw RX8 221 8 21 .int := ⟨fd_X8_221, _, rfl, by decide +kernel, by decide +kernel⟩
theorem fd_X8_224 : zFd RX8 224 8 18 := ⟨RX8, TX8, 32, tyX8, rfl, rfl, by decide, (zt 628 (by decide +kernel) (by decide +kernel)), inz_8, tyX8_ok, nmX8⟩
theorem fw_X8_224 : zFw RX8 224 8 18 .boolean := ⟨fd_X8_224, _, rfl, by decide +kernel, by decide +kernel⟩
theorem kc_X8_228 : Cond.constantLong RX8 228 (2) ∈ zTb := (zt 911 (by decide +kernel) (by decide +kernel))
theorem cs_X8_230 : zCs RX8 230 yX8_isSheet := ⟨Or.inl (zt 908 (by decide +kernel) (by decide +kernel)), (zt 909 (by decide +kernel) (by decide +kernel)), (zt 9 (by decide +kernel) (by decide +kernel))⟩
theorem cv_X8_233 : zCv RX8 233 yX8_lacksRow := ⟨(zt 920 (by decide +kernel) (by decide +kernel)), (zt 922 (by decide +kernel) (by decide +kernel)), (zt_sel (q := (yX8_lacksRow, 32)) (List.mem_of_getElem? (i := 24) (by decide +kernel)) (by decide +kernel)), (zt 9 (by decide +kernel) (by decide +kernel))⟩
theorem cv_X8_237 : zCv RX8 237 yX8_limpSo := ⟨(zt 932 (by decide +kernel) (by decide +kernel)), (zt 934 (by decide +kernel) (by decide +kernel)), (zt_sel (q := (yX8_limpSo, 32)) (List.mem_of_getElem? (i := 25) (by decide +kernel)) (by decide +kernel)), (zt 9 (by decide +kernel) (by decide +kernel))⟩
theorem cv_X8_240 : zCv RX8 240 yX8_nextRow := ⟨(zt 936 (by decide +kernel) (by decide +kernel)), (zt 938 (by decide +kernel) (by decide +kernel)), (zt_sel (q := (yX8_nextRow, 32)) (List.mem_of_getElem? (i := 26) (by decide +kernel)) (by decide +kernel)), (zt 9 (by decide +kernel) (by decide +kernel))⟩
theorem cv_X8_243 : zCv RX8 243 yX8_isRow := ⟨(zt 949 (by decide +kernel) (by decide +kernel)), (zt 951 (by decide +kernel) (by decide +kernel)), (zt_sel (q := (yX8_isRow, 32)) (List.mem_of_getElem? (i := 28) (by decide +kernel)) (by decide +kernel)), (zt 9 (by decide +kernel) (by decide +kernel))⟩
theorem kc_X8_246 : Cond.constantLong RX8 246 (7) ∈ zTb := (zt 944 (by decide +kernel) (by decide +kernel))
theorem cv_X8_248 : zCv RX8 248 yX8_findRanks := ⟨(zt 945 (by decide +kernel) (by decide +kernel)), (zt 947 (by decide +kernel) (by decide +kernel)), (zt_sel (q := (yX8_findRanks, 32)) (List.mem_of_getElem? (i := 27) (by decide +kernel)) (by decide +kernel)), (zt 9 (by decide +kernel) (by decide +kernel))⟩
theorem kc_J6_265 : Cond.constant RJ6 265 (1431655765) ∈ zTb := (zt 425 (by decide +kernel) (by decide +kernel))
theorem kc_J6_266 : Cond.constant RJ6 266 (858993459) ∈ zTb := (zt 426 (by decide +kernel) (by decide +kernel))
theorem kc_J6_267 : Cond.constant RJ6 267 (252645135) ∈ zTb := (zt 427 (by decide +kernel) (by decide +kernel))
theorem cv_L_13 : zCv RL 13 yX7_bride := ⟨(zt 214 (by decide +kernel) (by decide +kernel)), (zt 215 (by decide +kernel) (by decide +kernel)), (zt 216 (by decide +kernel) (by decide +kernel)), (zt 1 (by decide +kernel) (by decide +kernel))⟩
theorem cv_L_17 : zCv RL 17 yX8_bride := ⟨(zt 708 (by decide +kernel) (by decide +kernel)), (zt 709 (by decide +kernel) (by decide +kernel)), (zt 710 (by decide +kernel) (by decide +kernel)), (zt 9 (by decide +kernel) (by decide +kernel))⟩
theorem cv_L_18 : zCv RL 18 yX7_make := ⟨(zt 228 (by decide +kernel) (by decide +kernel)), (zt 229 (by decide +kernel) (by decide +kernel)), (zt 230 (by decide +kernel) (by decide +kernel)), (zt 1 (by decide +kernel) (by decide +kernel))⟩
theorem cv_L_22 : zCv RL 22 yX8_make := ⟨(zt 722 (by decide +kernel) (by decide +kernel)), (zt 723 (by decide +kernel) (by decide +kernel)), (zt 724 (by decide +kernel) (by decide +kernel)), (zt 9 (by decide +kernel) (by decide +kernel))⟩
theorem cv_L_23 : zCv RL 23 yX7_shoe := ⟨(zt 236 (by decide +kernel) (by decide +kernel)), (zt 237 (by decide +kernel) (by decide +kernel)), (zt 238 (by decide +kernel) (by decide +kernel)), (zt 1 (by decide +kernel) (by decide +kernel))⟩
theorem cv_L_26 : zCv RL 26 yX8_shoe := ⟨(zt 731 (by decide +kernel) (by decide +kernel)), (zt 732 (by decide +kernel) (by decide +kernel)), (zt 733 (by decide +kernel) (by decide +kernel)), (zt 9 (by decide +kernel) (by decide +kernel))⟩
theorem cv_L_27 : zCv RL 27 yX7_told := ⟨(zt 247 (by decide +kernel) (by decide +kernel)), (zt 248 (by decide +kernel) (by decide +kernel)), (zt 249 (by decide +kernel) (by decide +kernel)), (zt 1 (by decide +kernel) (by decide +kernel))⟩
theorem cv_L_31 : zCv RL 31 yX8_told := ⟨(zt 740 (by decide +kernel) (by decide +kernel)), (zt 741 (by decide +kernel) (by decide +kernel)), (zt 742 (by decide +kernel) (by decide +kernel)), (zt 9 (by decide +kernel) (by decide +kernel))⟩
theorem cv_L_32 : zCv RL 32 yX7_lose := ⟨(zt 255 (by decide +kernel) (by decide +kernel)), (zt 256 (by decide +kernel) (by decide +kernel)), (zt 257 (by decide +kernel) (by decide +kernel)), (zt 1 (by decide +kernel) (by decide +kernel))⟩
theorem cv_L_36 : zCv RL 36 yX8_lose := ⟨(zt 748 (by decide +kernel) (by decide +kernel)), (zt 749 (by decide +kernel) (by decide +kernel)), (zt 750 (by decide +kernel) (by decide +kernel)), (zt 9 (by decide +kernel) (by decide +kernel))⟩
theorem cv_L_37 : zCv RL 37 yX7_set := ⟨(zt 259 (by decide +kernel) (by decide +kernel)), (zt 260 (by decide +kernel) (by decide +kernel)), (zt 261 (by decide +kernel) (by decide +kernel)), (zt 1 (by decide +kernel) (by decide +kernel))⟩
theorem cv_L_40 : zCv RL 40 yX8_set := ⟨(zt 752 (by decide +kernel) (by decide +kernel)), (zt 753 (by decide +kernel) (by decide +kernel)), (zt 754 (by decide +kernel) (by decide +kernel)), (zt 9 (by decide +kernel) (by decide +kernel))⟩
theorem cv_L_41 : zCv RL 41 yX7_foot := ⟨(zt 263 (by decide +kernel) (by decide +kernel)), (zt 264 (by decide +kernel) (by decide +kernel)), (zt 265 (by decide +kernel) (by decide +kernel)), (zt 1 (by decide +kernel) (by decide +kernel))⟩
theorem cv_L_44 : zCv RL 44 yX8_foot := ⟨(zt 757 (by decide +kernel) (by decide +kernel)), (zt 758 (by decide +kernel) (by decide +kernel)), (zt 759 (by decide +kernel) (by decide +kernel)), (zt 9 (by decide +kernel) (by decide +kernel))⟩
theorem cv_L_45 : zCv RL 45 yX7_asked := ⟨(zt 277 (by decide +kernel) (by decide +kernel)), (zt 278 (by decide +kernel) (by decide +kernel)), (zt 279 (by decide +kernel) (by decide +kernel)), (zt 1 (by decide +kernel) (by decide +kernel))⟩
theorem cv_L_48 : zCv RL 48 yX8_asked := ⟨(zt 768 (by decide +kernel) (by decide +kernel)), (zt 769 (by decide +kernel) (by decide +kernel)), (zt 770 (by decide +kernel) (by decide +kernel)), (zt 9 (by decide +kernel) (by decide +kernel))⟩
theorem cv_L_49 : zCv RL 49 yX7_whose := ⟨(zt 300 (by decide +kernel) (by decide +kernel)), (zt 301 (by decide +kernel) (by decide +kernel)), (zt 302 (by decide +kernel) (by decide +kernel)), (zt 1 (by decide +kernel) (by decide +kernel))⟩
theorem cv_L_52 : zCv RL 52 yX8_whose := ⟨(zt 788 (by decide +kernel) (by decide +kernel)), (zt 789 (by decide +kernel) (by decide +kernel)), (zt 790 (by decide +kernel) (by decide +kernel)), (zt 9 (by decide +kernel) (by decide +kernel))⟩
theorem kc_L_53 : Cond.constantLong RL 53 (4294967295) ∈ zTb := (zt 957 (by decide +kernel) (by decide +kernel))
theorem cv_L_55 : zCv RL 55 yX7_type := ⟨(zt 304 (by decide +kernel) (by decide +kernel)), (zt 305 (by decide +kernel) (by decide +kernel)), (zt 306 (by decide +kernel) (by decide +kernel)), (zt 1 (by decide +kernel) (by decide +kernel))⟩
theorem cv_L_59 : zCv RL 59 yX8_type := ⟨(zt 796 (by decide +kernel) (by decide +kernel)), (zt 797 (by decide +kernel) (by decide +kernel)), (zt 798 (by decide +kernel) (by decide +kernel)), (zt 9 (by decide +kernel) (by decide +kernel))⟩
theorem cv_L_60 : zCv RL 60 yX7_brides := ⟨(zt 316 (by decide +kernel) (by decide +kernel)), (zt 317 (by decide +kernel) (by decide +kernel)), (zt 318 (by decide +kernel) (by decide +kernel)), (zt 1 (by decide +kernel) (by decide +kernel))⟩
theorem cv_L_64 : zCv RL 64 yX8_brides := ⟨(zt 804 (by decide +kernel) (by decide +kernel)), (zt 805 (by decide +kernel) (by decide +kernel)), (zt 806 (by decide +kernel) (by decide +kernel)), (zt 9 (by decide +kernel) (by decide +kernel))⟩
theorem cv_L_65 : zCv RL 65 yX7_heap := ⟨(zt 355 (by decide +kernel) (by decide +kernel)), (zt 356 (by decide +kernel) (by decide +kernel)), (zt 357 (by decide +kernel) (by decide +kernel)), (zt 1 (by decide +kernel) (by decide +kernel))⟩
theorem cv_L_68 : zCv RL 68 yX8_heap := ⟨(zt 838 (by decide +kernel) (by decide +kernel)), (zt 839 (by decide +kernel) (by decide +kernel)), (zt 840 (by decide +kernel) (by decide +kernel)), (zt 9 (by decide +kernel) (by decide +kernel))⟩
theorem cv_L_69 : zCv RL 69 yX7_count := ⟨(zt 373 (by decide +kernel) (by decide +kernel)), (zt 374 (by decide +kernel) (by decide +kernel)), (zt 375 (by decide +kernel) (by decide +kernel)), (zt 1 (by decide +kernel) (by decide +kernel))⟩
theorem cv_L_73 : zCv RL 73 yX8_count := ⟨(zt 792 (by decide +kernel) (by decide +kernel)), (zt 793 (by decide +kernel) (by decide +kernel)), (zt 794 (by decide +kernel) (by decide +kernel)), (zt 9 (by decide +kernel) (by decide +kernel))⟩
theorem cv_L_74 : zCv RL 74 yX7_shod := ⟨(zt 385 (by decide +kernel) (by decide +kernel)), (zt 386 (by decide +kernel) (by decide +kernel)), (zt 387 (by decide +kernel) (by decide +kernel)), (zt 1 (by decide +kernel) (by decide +kernel))⟩
theorem cv_L_77 : zCv RL 77 yX8_shod := ⟨(zt 842 (by decide +kernel) (by decide +kernel)), (zt 843 (by decide +kernel) (by decide +kernel)), (zt 844 (by decide +kernel) (by decide +kernel)), (zt 9 (by decide +kernel) (by decide +kernel))⟩
theorem cv_L_78 : zCv RL 78 yX7_most := ⟨(zt 414 (by decide +kernel) (by decide +kernel)), (zt 415 (by decide +kernel) (by decide +kernel)), (zt 416 (by decide +kernel) (by decide +kernel)), (zt 1 (by decide +kernel) (by decide +kernel))⟩
theorem cv_L_81 : zCv RL 81 yX8_most := ⟨(zt 863 (by decide +kernel) (by decide +kernel)), (zt 864 (by decide +kernel) (by decide +kernel)), (zt 865 (by decide +kernel) (by decide +kernel)), (zt 9 (by decide +kernel) (by decide +kernel))⟩
theorem cv_L_82 : zCv RL 82 yX7_chain := ⟨(zt 429 (by decide +kernel) (by decide +kernel)), (zt 430 (by decide +kernel) (by decide +kernel)), (zt 431 (by decide +kernel) (by decide +kernel)), (zt 1 (by decide +kernel) (by decide +kernel))⟩
theorem cv_L_85 : zCv RL 85 yX8_chain := ⟨(zt 867 (by decide +kernel) (by decide +kernel)), (zt 868 (by decide +kernel) (by decide +kernel)), (zt 869 (by decide +kernel) (by decide +kernel)), (zt 9 (by decide +kernel) (by decide +kernel))⟩
theorem cv_L_86 : zCv RL 86 yX7_limps := ⟨(zt 441 (by decide +kernel) (by decide +kernel)), (zt 442 (by decide +kernel) (by decide +kernel)), (zt 443 (by decide +kernel) (by decide +kernel)), (zt 1 (by decide +kernel) (by decide +kernel))⟩
theorem cv_L_89 : zCv RL 89 yX8_limps := ⟨(zt 871 (by decide +kernel) (by decide +kernel)), (zt 872 (by decide +kernel) (by decide +kernel)), (zt 873 (by decide +kernel) (by decide +kernel)), (zt 9 (by decide +kernel) (by decide +kernel))⟩
theorem cv_L_90 : zCv RL 90 yX7_tries := ⟨(zt 450 (by decide +kernel) (by decide +kernel)), (zt 451 (by decide +kernel) (by decide +kernel)), (zt 452 (by decide +kernel) (by decide +kernel)), (zt 1 (by decide +kernel) (by decide +kernel))⟩
theorem cv_L_93 : zCv RL 93 yX8_tries := ⟨(zt 880 (by decide +kernel) (by decide +kernel)), (zt 881 (by decide +kernel) (by decide +kernel)), (zt 882 (by decide +kernel) (by decide +kernel)), (zt 9 (by decide +kernel) (by decide +kernel))⟩
theorem cv_L_94 : zCv RL 94 yX7_image := ⟨(zt 477 (by decide +kernel) (by decide +kernel)), (zt 478 (by decide +kernel) (by decide +kernel)), (zt 479 (by decide +kernel) (by decide +kernel)), (zt 1 (by decide +kernel) (by decide +kernel))⟩
theorem cv_L_97 : zCv RL 97 yX8_image := ⟨(zt 896 (by decide +kernel) (by decide +kernel)), (zt 897 (by decide +kernel) (by decide +kernel)), (zt 898 (by decide +kernel) (by decide +kernel)), (zt 9 (by decide +kernel) (by decide +kernel))⟩
theorem cv_L_98 : zCv RL 98 yX7_restore := ⟨(zt 487 (by decide +kernel) (by decide +kernel)), (zt 488 (by decide +kernel) (by decide +kernel)), (zt 489 (by decide +kernel) (by decide +kernel)), (zt 1 (by decide +kernel) (by decide +kernel))⟩
theorem cv_L_101 : zCv RL 101 yX8_restore := ⟨(zt 900 (by decide +kernel) (by decide +kernel)), (zt 901 (by decide +kernel) (by decide +kernel)), (zt 902 (by decide +kernel) (by decide +kernel)), (zt 9 (by decide +kernel) (by decide +kernel))⟩
theorem cv_L_102 : zCv RL 102 yX7_changed := ⟨(zt 491 (by decide +kernel) (by decide +kernel)), (zt 492 (by decide +kernel) (by decide +kernel)), (zt 493 (by decide +kernel) (by decide +kernel)), (zt 1 (by decide +kernel) (by decide +kernel))⟩
theorem cv_L_106 : zCv RL 106 yX8_changed := ⟨(zt 928 (by decide +kernel) (by decide +kernel)), (zt 929 (by decide +kernel) (by decide +kernel)), (zt 930 (by decide +kernel) (by decide +kernel)), (zt 9 (by decide +kernel) (by decide +kernel))⟩
theorem cv_L_107 : zCv RL 107 yX7_firm := ⟨(zt 527 (by decide +kernel) (by decide +kernel)), (zt 528 (by decide +kernel) (by decide +kernel)), (zt 529 (by decide +kernel) (by decide +kernel)), (zt 1 (by decide +kernel) (by decide +kernel))⟩
theorem cv_L_111 : zCv RL 111 yX8_firm := ⟨(zt 940 (by decide +kernel) (by decide +kernel)), (zt 941 (by decide +kernel) (by decide +kernel)), (zt 942 (by decide +kernel) (by decide +kernel)), (zt 9 (by decide +kernel) (by decide +kernel))⟩
theorem cv_L_112 : zCv RL 112 yX7_judged := ⟨(zt 562 (by decide +kernel) (by decide +kernel)), (zt 563 (by decide +kernel) (by decide +kernel)), (zt 564 (by decide +kernel) (by decide +kernel)), (zt 1 (by decide +kernel) (by decide +kernel))⟩
theorem cv_L_115 : zCv RL 115 yX8_judged := ⟨(zt 953 (by decide +kernel) (by decide +kernel)), (zt 954 (by decide +kernel) (by decide +kernel)), (zt 955 (by decide +kernel) (by decide +kernel)), (zt 9 (by decide +kernel) (by decide +kernel))⟩
theorem cv_L_116 : zCv RL 116 yX7_sheet := ⟨(zt 578 (by decide +kernel) (by decide +kernel)), (zt 579 (by decide +kernel) (by decide +kernel)), (zt 580 (by decide +kernel) (by decide +kernel)), (zt 1 (by decide +kernel) (by decide +kernel))⟩
theorem cv_L_119 : zCv RL 119 yX8_sheet := ⟨(zt 904 (by decide +kernel) (by decide +kernel)), (zt 905 (by decide +kernel) (by decide +kernel)), (zt 906 (by decide +kernel) (by decide +kernel)), (zt 9 (by decide +kernel) (by decide +kernel))⟩
theorem cv_L_120 : zCv RL 120 yX7_drop := ⟨(zt 587 (by decide +kernel) (by decide +kernel)), (zt 588 (by decide +kernel) (by decide +kernel)), (zt 589 (by decide +kernel) (by decide +kernel)), (zt 1 (by decide +kernel) (by decide +kernel))⟩
theorem cv_L_123 : zCv RL 123 yX8_drop := ⟨(zt 912 (by decide +kernel) (by decide +kernel)), (zt 913 (by decide +kernel) (by decide +kernel)), (zt 914 (by decide +kernel) (by decide +kernel)), (zt 9 (by decide +kernel) (by decide +kernel))⟩
theorem cv_L_124 : zCv RL 124 yX7_item := ⟨(zt 591 (by decide +kernel) (by decide +kernel)), (zt 592 (by decide +kernel) (by decide +kernel)), (zt 593 (by decide +kernel) (by decide +kernel)), (zt 1 (by decide +kernel) (by decide +kernel))⟩
theorem cv_L_127 : zCv RL 127 yX8_item := ⟨(zt 916 (by decide +kernel) (by decide +kernel)), (zt 917 (by decide +kernel) (by decide +kernel)), (zt 918 (by decide +kernel) (by decide +kernel)), (zt 9 (by decide +kernel) (by decide +kernel))⟩
theorem cv_L_128 : zCv RL 128 yX7_copy := ⟨(zt 598 (by decide +kernel) (by decide +kernel)), (zt 599 (by decide +kernel) (by decide +kernel)), (zt 600 (by decide +kernel) (by decide +kernel)), (zt 1 (by decide +kernel) (by decide +kernel))⟩
theorem cv_L_131 : zCv RL 131 yX8_copy := ⟨(zt 924 (by decide +kernel) (by decide +kernel)), (zt 925 (by decide +kernel) (by decide +kernel)), (zt 926 (by decide +kernel) (by decide +kernel)), (zt 9 (by decide +kernel) (by decide +kernel))⟩
end
section
/-! pure words: rows of brides, of shoes; feet; what is asked; limps -/
theorem zrec (P : Nat → Prop) (h : ∀ n, (∀ m, m < n → P m) → P n) : ∀ n, P n := fun n => Nat.strongRecOn n h
def zBR (f : Int → Int) : Prop := (20 ≤ f 0 ∧ f 0 ≤ 60) ∧ (20 ≤ f 1 ∧ f 1 ≤ 60) ∧ (0 ≤ f 2 ∧ f 2 ≤ 4) ∧ (0 ≤ f 3 ∧ f 3 ≤ 11)
def zSR (f : Int → Int) : Prop := (0 ≤ f 0 ∧ f 0 ≤ 1) ∧ (20 ≤ f 1 ∧ f 1 ≤ 70) ∧ (0 ≤ f 2 ∧ f 2 ≤ 3) ∧ (0 ≤ f 3 ∧ f 3 ≤ 1)
def zfo (f : Int → Int) (side h : Int) : Int := f side + h * f 2 / 4
def zgiv (kind : Int) : Int := if kind = 2 then 1 else if kind = 3 then 2 else 0
def zlto (kind : Int) : Int := if kind = 1 then 0 else if kind = 3 then 1 else 6
def zloo (kind loose : Int) : Int := if kind = 1 then 0 else loose
def zask (foot size kind loose out : Int) : Int := if zmax 0 (foot - zgiv kind - size) ≤ zmin out (zlto kind) ∧ size + zmax 0 (foot - zgiv kind - size) ≤ foot + zloo kind loose then zmax 0 (foot - zgiv kind - size) else -4
def zlim (foot size kind loose : Int) : Int := if foot + zloo kind loose < size then size - (foot + zloo kind loose) else if size < foot - zgiv kind then size - (foot - zgiv kind) else 0
theorem zmul_b {h s : Int} (hh : 0 ≤ h ∧ h ≤ 11) (hs : 0 ≤ s ∧ s ≤ 4) : 0 ≤ h * s ∧ h * s ≤ 44 := by
  refine ⟨Int.mul_nonneg hh.1 hs.1, ?_⟩
  have h1 : h * s ≤ 11 * s := Int.mul_le_mul_of_nonneg_right hh.2 hs.1
  omega
theorem zfo_b {f : Int → Int} (hf : zBR f) {side h : Int} (hs : side = 0 ∨ side = 1) (hh : 0 ≤ h ∧ h ≤ 11) : 20 ≤ zfo f side h ∧ zfo f side h ≤ 71 := by
  obtain ⟨h0, h1, h2, h3⟩ := hf
  have := zmul_b hh h2
  unfold zfo
  rcases hs with rfl | rfl <;> omega
theorem zt304 {k : Int} (h : 0 ≤ k ∧ k ≤ 3) : ztab 304 k = zgiv k := by
  obtain rfl | rfl | rfl | rfl : k = 0 ∨ k = 1 ∨ k = 2 ∨ k = 3 := by omega
  all_goals decide
theorem zt305 {k : Int} (h : 0 ≤ k ∧ k ≤ 3) : ztab 305 k = zlto k := by
  obtain rfl | rfl | rfl | rfl : k = 0 ∨ k = 1 ∨ k = 2 ∨ k = 3 := by omega
  all_goals decide
theorem zgiv_b (k : Int) : 0 ≤ zgiv k ∧ zgiv k ≤ 2 := by
  unfold zgiv
  split
  · omega
  · split <;> omega
theorem zlto_b (k : Int) : 0 ≤ zlto k ∧ zlto k ≤ 6 := by
  unfold zlto
  split
  · omega
  · split <;> omega
theorem zloo_b {k l : Int} (h : 0 ≤ l ∧ l ≤ 6) : 0 ≤ zloo k l ∧ zloo k l ≤ 6 := by
  unfold zloo
  split <;> omega
theorem zmax_b (x y : Int) : x ≤ zmax x y ∧ y ≤ zmax x y ∧ (zmax x y = x ∨ zmax x y = y) := by
  unfold zmax
  split <;> omega
theorem zmin_b (x y : Int) : zmin x y ≤ x ∧ zmin x y ≤ y ∧ (zmin x y = x ∨ zmin x y = y) := by
  unfold zmin
  split <;> omega
theorem zask_b {foot size kind loose out : Int} (ho : 0 ≤ out ∧ out ≤ 6) : zask foot size kind loose out = -4 ∨ (0 ≤ zask foot size kind loose out ∧ zask foot size kind loose out ≤ 6) := by
  unfold zask
  have h1 := zmax_b 0 (foot - zgiv kind - size)
  have h2 := zmin_b out (zlto kind)
  split <;> omega
end
section
/-! the class: what a number may be -/
abbrev zw (ad : Int → Nat) : zW := (ad, fun _ => true, fun _ _ => true)
set_option maxHeartbeats 4000000 in
set_option maxRecDepth 100000 in
theorem t_isFrom {G : zG} {ad : Int → Nat} {M : zM} {v a b : Int} (hv : -2147483648 ≤ v ∧ v ≤ 2147483647) (ha : -2147483648 ≤ a ∧ a ≤ 2147483647) (hb : -2147483648 ≤ b ∧ b ≤ 2147483647) : zTI G (zw ad) mi_X7_isFrom [zi v, zi a, zi b] M (fun x M' => M' = M ∧ ((x = 1 ∧ (a ≤ v ∧ v ≤ b)) ∨ (x = 0 ∧ ¬ (a ≤ v ∧ v ≤ b)))) := by
  refine zTI.ofZ (own := RX7) (ls := [some (zi v), some (zi a), some (zi b)]) (by decide +kernel) rfl rfl (Nat.le_of_ble_eq_true rfl) (fun γ ok rt => ?_)
  refine v_iload_0 ok dX7_isFrom_0 (n := 1) rfl ?_
  refine v_iload_1 ok dX7_isFrom_1 (n := 2) rfl ?_
  refine v_icmp_lt ok dX7_isFrom_2 (tgt := 14) (by decide) (n := 5) rfl (by omega) (by omega) (fun c2_1 => ?_) (fun c2_1 => ?_)
  · have c2_1 := c2_1
    refine v_iconst ok dX7_isFrom_14 (n := 15) rfl ?_
    refine v_zret rt dX7_isFrom_15 (by omega) ?_
    exact ⟨rfl, by omega⟩
  · have c2_1 := c2_1
    refine v_iload_0 ok dX7_isFrom_5 (n := 6) rfl ?_
    refine v_iload_2 ok dX7_isFrom_6 (n := 7) rfl ?_
    refine v_icmp_gt ok dX7_isFrom_7 (tgt := 14) (by decide) (n := 10) rfl (by omega) (by omega) (fun c7_2 => ?_) (fun c7_2 => ?_)
    · have c7_2 := c7_2
      refine v_iconst ok dX7_isFrom_14 (n := 15) rfl ?_
      refine v_zret rt dX7_isFrom_15 (by omega) ?_
      exact ⟨rfl, by omega⟩
    · have c7_2 := c7_2
      refine v_iconst ok dX7_isFrom_10 (n := 11) rfl ?_
      refine v_goto ok dX7_isFrom_11 (n := 15) (by decide) ?_
      refine v_zret rt dX7_isFrom_15 (by omega) ?_
      exact ⟨rfl, by omega⟩

set_option maxHeartbeats 4000000 in
set_option maxRecDepth 100000 in
theorem t_isOfBride {G : zG} {ad : Int → Nat} {M : zM} {q v : Int} (hq : 0 ≤ q ∧ q < 4) (hv : -2147483648 ≤ v ∧ v ≤ 2147483647) : zTI G (zw ad) mi_X7_isOfBride [zi q, zi v] M (fun x M' => M' = M ∧ ((x = 1 ∧ ((q < 2 ∧ 20 ≤ v ∧ v ≤ 60) ∨ (q = 2 ∧ 0 ≤ v ∧ v ≤ 4) ∨ (q = 3 ∧ 0 ≤ v ∧ v ≤ 11))) ∨ (x = 0 ∧ ¬ ((q < 2 ∧ 20 ≤ v ∧ v ≤ 60) ∨ (q = 2 ∧ 0 ≤ v ∧ v ≤ 4) ∨ (q = 3 ∧ 0 ≤ v ∧ v ≤ 11))))) := by
  refine zTI.ofZ (own := RX7) (ls := [some (zi q), some (zi v)]) (by decide +kernel) rfl rfl (Nat.le_of_ble_eq_true rfl) (fun γ ok rt => ?_)
  have e1 : (q < 2 ∧ ztab 300 q = 20 ∧ ztab 301 q = 60) ∨ (q = 2 ∧ ztab 300 q = 0 ∧ ztab 301 q = 4) ∨ (q = 3 ∧ ztab 300 q = 0 ∧ ztab 301 q = 11) := by
    obtain rfl | rfl | rfl | rfl : q = 0 ∨ q = 1 ∨ q = 2 ∨ q = 3 := by omega
    all_goals decide
  refine v_iload_1 ok dX7_isOfBride_0 (n := 1) rfl ?_
  refine v_gets ok sd_X7_247 dX7_isOfBride_1 (n := 4) rfl ?_
  refine v_iload_0 ok dX7_isOfBride_4 (n := 5) rfl ?_
  refine v_tald ok (by decide) (by unfold ztl; simp; omega) dX7_isOfBride_5 (n := 6) rfl ?_
  refine v_gets ok sd_X7_250 dX7_isOfBride_6 (n := 9) rfl ?_
  refine v_iload_0 ok dX7_isOfBride_9 (n := 10) rfl ?_
  refine v_tald ok (by decide) (by unfold ztl; simp; omega) dX7_isOfBride_10 (n := 11) rfl ?_
  refine v_callSI ok (mi := mi_X7_isFrom) mc_X7_isFrom cs_X7_81 (by decide) ⟨Nat.zero_le _, Nat.zero_le _⟩ dX7_isOfBride_11 (n := 14) rfl rfl rfl (Nat.le_of_ble_eq_true rfl) (t_isFrom hv (by omega) (by omega)) (fun x1 M1 h1 => ?_)
  obtain ⟨e1_, h1⟩ := h1
  subst M1
  refine v_zret rt dX7_isOfBride_14 (by omega) ?_
  exact ⟨rfl, by omega⟩

set_option maxHeartbeats 4000000 in
set_option maxRecDepth 100000 in
theorem t_isOfShoe {G : zG} {ad : Int → Nat} {M : zM} {q v : Int} (hq : 0 ≤ q ∧ q < 3) (hv : -2147483648 ≤ v ∧ v ≤ 2147483647) : zTI G (zw ad) mi_X7_isOfShoe [zi q, zi v] M (fun x M' => M' = M ∧ ((x = 1 ∧ ((q = 0 ∧ 0 ≤ v ∧ v ≤ 1) ∨ (q = 1 ∧ 20 ≤ v ∧ v ≤ 70) ∨ (q = 2 ∧ 0 ≤ v ∧ v ≤ 3))) ∨ (x = 0 ∧ ¬ ((q = 0 ∧ 0 ≤ v ∧ v ≤ 1) ∨ (q = 1 ∧ 20 ≤ v ∧ v ≤ 70) ∨ (q = 2 ∧ 0 ≤ v ∧ v ≤ 3))))) := by
  refine zTI.ofZ (own := RX7) (ls := [some (zi q), some (zi v)]) (by decide +kernel) rfl rfl (Nat.le_of_ble_eq_true rfl) (fun γ ok rt => ?_)
  have e1 : (q = 0 ∧ ztab 302 q = 0 ∧ ztab 303 q = 1) ∨ (q = 1 ∧ ztab 302 q = 20 ∧ ztab 303 q = 70) ∨ (q = 2 ∧ ztab 302 q = 0 ∧ ztab 303 q = 3) := by
    obtain rfl | rfl | rfl : q = 0 ∨ q = 1 ∨ q = 2 := by omega
    all_goals decide
  refine v_iload_1 ok dX7_isOfShoe_0 (n := 1) rfl ?_
  refine v_gets ok sd_X7_253 dX7_isOfShoe_1 (n := 4) rfl ?_
  refine v_iload_0 ok dX7_isOfShoe_4 (n := 5) rfl ?_
  refine v_tald ok (by decide) (by unfold ztl; simp; omega) dX7_isOfShoe_5 (n := 6) rfl ?_
  refine v_gets ok sd_X7_256 dX7_isOfShoe_6 (n := 9) rfl ?_
  refine v_iload_0 ok dX7_isOfShoe_9 (n := 10) rfl ?_
  refine v_tald ok (by decide) (by unfold ztl; simp; omega) dX7_isOfShoe_10 (n := 11) rfl ?_
  refine v_callSI ok (mi := mi_X7_isFrom) mc_X7_isFrom cs_X7_81 (by decide) ⟨Nat.zero_le _, Nat.zero_le _⟩ dX7_isOfShoe_11 (n := 14) rfl rfl rfl (Nat.le_of_ble_eq_true rfl) (t_isFrom hv (by omega) (by omega)) (fun x1 M1 h1 => ?_)
  obtain ⟨e1_, h1⟩ := h1
  subst M1
  refine v_zret rt dX7_isOfShoe_14 (by omega) ?_
  exact ⟨rfl, by omega⟩

set_option maxHeartbeats 4000000 in
set_option maxRecDepth 100000 in
theorem t_isSide {G : zG} {ad : Int → Nat} {M : zM} {v : Int} (hv : -2147483648 ≤ v ∧ v ≤ 2147483647) : zTI G (zw ad) mi_X7_isSide [zi v] M (fun x M' => M' = M ∧ ((x = 1 ∧ (0 ≤ v ∧ v ≤ 1)) ∨ (x = 0 ∧ ¬ (0 ≤ v ∧ v ≤ 1)))) := by
  refine zTI.ofZ (own := RX7) (ls := [some (zi v)]) (by decide +kernel) rfl rfl (Nat.le_of_ble_eq_true rfl) (fun γ ok rt => ?_)
  refine v_iload_0 ok dX7_isSide_0 (n := 1) rfl ?_
  refine v_iconst ok dX7_isSide_1 (n := 2) rfl ?_
  refine v_iconst ok dX7_isSide_2 (n := 3) rfl ?_
  refine v_callSI ok (mi := mi_X7_isFrom) mc_X7_isFrom cs_X7_81 (by decide) ⟨Nat.zero_le _, Nat.zero_le _⟩ dX7_isSide_3 (n := 6) rfl rfl rfl (Nat.le_of_ble_eq_true rfl) (t_isFrom hv (by omega) (by omega)) (fun x1 M1 h1 => ?_)
  obtain ⟨e1_, h1⟩ := h1
  subst M1
  refine v_zret rt dX7_isSide_6 (by omega) ?_
  exact ⟨rfl, by omega⟩

set_option maxHeartbeats 4000000 in
set_option maxRecDepth 100000 in
theorem t_isHour {G : zG} {ad : Int → Nat} {M : zM} {v : Int} (hv : -2147483648 ≤ v ∧ v ≤ 2147483647) : zTI G (zw ad) mi_X7_isHour [zi v] M (fun x M' => M' = M ∧ ((x = 1 ∧ (0 ≤ v ∧ v ≤ 11)) ∨ (x = 0 ∧ ¬ (0 ≤ v ∧ v ≤ 11)))) := by
  refine zTI.ofZ (own := RX7) (ls := [some (zi v)]) (by decide +kernel) rfl rfl (Nat.le_of_ble_eq_true rfl) (fun γ ok rt => ?_)
  refine v_iload_0 ok dX7_isHour_0 (n := 1) rfl ?_
  refine v_iconst ok dX7_isHour_1 (n := 2) rfl ?_
  refine v_bipush ok (by decide) dX7_isHour_2 (n := 4) rfl ?_
  refine v_callSI ok (mi := mi_X7_isFrom) mc_X7_isFrom cs_X7_81 (by decide) ⟨Nat.zero_le _, Nat.zero_le _⟩ dX7_isHour_4 (n := 7) rfl rfl rfl (Nat.le_of_ble_eq_true rfl) (t_isFrom hv (by omega) (by omega)) (fun x1 M1 h1 => ?_)
  obtain ⟨e1_, h1⟩ := h1
  subst M1
  refine v_zret rt dX7_isHour_7 (by omega) ?_
  exact ⟨rfl, by omega⟩

set_option maxHeartbeats 4000000 in
set_option maxRecDepth 100000 in
theorem t_isSheet {G : zG} {ad : Int → Nat} {M : zM} {v : Int} (hv : -2147483648 ≤ v ∧ v ≤ 2147483647) : zTI G (zw ad) mi_X7_isSheet [zi v] M (fun x M' => M' = M ∧ ((x = 1 ∧ (0 ≤ v ∧ v ≤ 3)) ∨ (x = 0 ∧ ¬ (0 ≤ v ∧ v ≤ 3)))) := by
  refine zTI.ofZ (own := RX7) (ls := [some (zi v)]) (by decide +kernel) rfl rfl (Nat.le_of_ble_eq_true rfl) (fun γ ok rt => ?_)
  refine v_iload_0 ok dX7_isSheet_0 (n := 1) rfl ?_
  refine v_iconst ok dX7_isSheet_1 (n := 2) rfl ?_
  refine v_iconst ok dX7_isSheet_2 (n := 3) rfl ?_
  refine v_callSI ok (mi := mi_X7_isFrom) mc_X7_isFrom cs_X7_81 (by decide) ⟨Nat.zero_le _, Nat.zero_le _⟩ dX7_isSheet_3 (n := 6) rfl rfl rfl (Nat.le_of_ble_eq_true rfl) (t_isFrom hv (by omega) (by omega)) (fun x1 M1 h1 => ?_)
  obtain ⟨e1_, h1⟩ := h1
  subst M1
  refine v_zret rt dX7_isSheet_6 (by omega) ?_
  exact ⟨rfl, by omega⟩

set_option maxHeartbeats 4000000 in
set_option maxRecDepth 100000 in
theorem t_isLane {G : zG} {ad : Int → Nat} {M : zM} {v : Int} (hv : -2147483648 ≤ v ∧ v ≤ 2147483647) : zTI G (zw ad) mi_X7_isLane [zi v] M (fun x M' => M' = M ∧ ((x = 1 ∧ (0 ≤ v ∧ v ≤ 2)) ∨ (x = 0 ∧ ¬ (0 ≤ v ∧ v ≤ 2)))) := by
  refine zTI.ofZ (own := RX7) (ls := [some (zi v)]) (by decide +kernel) rfl rfl (Nat.le_of_ble_eq_true rfl) (fun γ ok rt => ?_)
  refine v_iload_0 ok dX7_isLane_0 (n := 1) rfl ?_
  refine v_iconst ok dX7_isLane_1 (n := 2) rfl ?_
  refine v_iconst ok dX7_isLane_2 (n := 3) rfl ?_
  refine v_callSI ok (mi := mi_X7_isFrom) mc_X7_isFrom cs_X7_81 (by decide) ⟨Nat.zero_le _, Nat.zero_le _⟩ dX7_isLane_3 (n := 6) rfl rfl rfl (Nat.le_of_ble_eq_true rfl) (t_isFrom hv (by omega) (by omega)) (fun x1 M1 h1 => ?_)
  obtain ⟨e1_, h1⟩ := h1
  subst M1
  refine v_zret rt dX7_isLane_6 (by omega) ?_
  exact ⟨rfl, by omega⟩

set_option maxHeartbeats 4000000 in
set_option maxRecDepth 100000 in
theorem t_isRanked {G : zG} {ad : Int → Nat} {M : zM} {v : Int} (hv : -2147483648 ≤ v ∧ v ≤ 2147483647) : zTI G (zw ad) mi_X7_isRanked [zi v] M (fun x M' => M' = M ∧ ((x = 1 ∧ (2 ≤ v ∧ v ≤ 7)) ∨ (x = 0 ∧ ¬ (2 ≤ v ∧ v ≤ 7)))) := by
  refine zTI.ofZ (own := RX7) (ls := [some (zi v)]) (by decide +kernel) rfl rfl (Nat.le_of_ble_eq_true rfl) (fun γ ok rt => ?_)
  refine v_iload_0 ok dX7_isRanked_0 (n := 1) rfl ?_
  refine v_iconst ok dX7_isRanked_1 (n := 2) rfl ?_
  refine v_bipush ok (by decide) dX7_isRanked_2 (n := 4) rfl ?_
  refine v_callSI ok (mi := mi_X7_isFrom) mc_X7_isFrom cs_X7_81 (by decide) ⟨Nat.zero_le _, Nat.zero_le _⟩ dX7_isRanked_4 (n := 7) rfl rfl rfl (Nat.le_of_ble_eq_true rfl) (t_isFrom hv (by omega) (by omega)) (fun x1 M1 h1 => ?_)
  obtain ⟨e1_, h1⟩ := h1
  subst M1
  refine v_zret rt dX7_isRanked_7 (by omega) ?_
  exact ⟨rfl, by omega⟩

set_option maxHeartbeats 4000000 in
set_option maxRecDepth 100000 in
theorem t_isBride {G : zG} {ad : Int → Nat} {M : zM} {v : Int} (hv : -2147483648 ≤ v ∧ v ≤ 2147483647) (hc : 0 ≤ M 1 3 ∧ M 1 3 ≤ 16) : zTI G (zw ad) mi_X7_isBride [zr 0, zi v] M (fun x M' => M' = M ∧ ((x = 1 ∧ (0 ≤ v ∧ v < M 1 3)) ∨ (x = 0 ∧ ¬ (0 ≤ v ∧ v < M 1 3)))) := by
  refine zTI.ofZ (own := RX7) (ls := [some (zr 0), some (zi v)]) (by decide +kernel) rfl rfl (Nat.le_of_ble_eq_true rfl) (fun γ ok rt => ?_)
  refine v_iload_1 ok dX7_isBride_0 (n := 1) rfl ?_
  refine v_iconst ok dX7_isBride_1 (n := 2) rfl ?_
  refine v_aload_0 ok dX7_isBride_2 (n := 3) rfl ?_
  refine v_getR ok fd_X7_10 ly_0 rfl rfl rfl rf_0_0 dX7_isBride_3 (n := 6) rfl ?_
  refine v_getI ok fd_X7_69 ly_1 rfl rfl (jI := 3) rfl dX7_isBride_6 (n := 9) rfl ?_
  refine v_iconst ok dX7_isBride_9 (n := 10) rfl ?_
  refine v_isub ok dX7_isBride_10 (n := 11) rfl ?_
  refine v_callSI ok (mi := mi_X7_isFrom) mc_X7_isFrom cs_X7_81 (by decide) ⟨Nat.zero_le _, Nat.zero_le _⟩ dX7_isBride_11 (n := 14) rfl rfl rfl (Nat.le_of_ble_eq_true rfl) (t_isFrom hv (by omega) (by omega)) (fun x1 M1 h1 => ?_)
  obtain ⟨e1_, h1⟩ := h1
  subst M1
  refine v_zret rt dX7_isBride_14 (by omega) ?_
  exact ⟨rfl, by omega⟩

set_option maxHeartbeats 4000000 in
set_option maxRecDepth 100000 in
theorem t_isShoe {G : zG} {ad : Int → Nat} {M : zM} {v : Int} (hv : -2147483648 ≤ v ∧ v ≤ 2147483647) (hc : 0 ≤ M 1 4 ∧ M 1 4 ≤ 16) : zTI G (zw ad) mi_X7_isShoe [zr 0, zi v] M (fun x M' => M' = M ∧ ((x = 1 ∧ (0 ≤ v ∧ v < M 1 4)) ∨ (x = 0 ∧ ¬ (0 ≤ v ∧ v < M 1 4)))) := by
  refine zTI.ofZ (own := RX7) (ls := [some (zr 0), some (zi v)]) (by decide +kernel) rfl rfl (Nat.le_of_ble_eq_true rfl) (fun γ ok rt => ?_)
  refine v_iload_1 ok dX7_isShoe_0 (n := 1) rfl ?_
  refine v_iconst ok dX7_isShoe_1 (n := 2) rfl ?_
  refine v_aload_0 ok dX7_isShoe_2 (n := 3) rfl ?_
  refine v_getR ok fd_X7_10 ly_0 rfl rfl rfl rf_0_0 dX7_isShoe_3 (n := 6) rfl ?_
  refine v_getI ok fd_X7_88 ly_1 rfl rfl (jI := 4) rfl dX7_isShoe_6 (n := 9) rfl ?_
  refine v_iconst ok dX7_isShoe_9 (n := 10) rfl ?_
  refine v_isub ok dX7_isShoe_10 (n := 11) rfl ?_
  refine v_callSI ok (mi := mi_X7_isFrom) mc_X7_isFrom cs_X7_81 (by decide) ⟨Nat.zero_le _, Nat.zero_le _⟩ dX7_isShoe_11 (n := 14) rfl rfl rfl (Nat.le_of_ble_eq_true rfl) (t_isFrom hv (by omega) (by omega)) (fun x1 M1 h1 => ?_)
  obtain ⟨e1_, h1⟩ := h1
  subst M1
  refine v_zret rt dX7_isShoe_14 (by omega) ?_
  exact ⟨rfl, by omega⟩
end
section
/-! the class: Party -/
set_option maxHeartbeats 4000000 in
set_option maxRecDepth 100000 in
theorem t_footAt {G : zG} {ad : Int → Nat} {M : zM} {b s h : Int} (hb : 0 ≤ b ∧ b < 7) (hs : s = 0 ∨ s = 1) (hh : 0 ≤ h ∧ h ≤ 11) (hB : zBR (M (5 + b))) : zTI G (zw ad) mi_X1_footAt [zr 1, zi b, zi s, zi h] M (fun x M' => M' = M ∧ x = zfo (M (5 + b)) s h) := by
  refine zTI.of (own := RX1) (ls := [some (zr 1), some (zi b), some (zi s), some (zi h), none]) (by decide +kernel) rfl rfl (Nat.le_of_ble_eq_true rfl) (fun γ ok rt => ?_)
  obtain ⟨b0, b1, b2, b3⟩ := hB
  have hm := zmul_b hh b2
  refine v_aload_0 ok dX1_footAt_0 (n := 1) rfl ?_
  refine v_getR ok fd_X1_11 ly_1 rfl rfl rfl rf_1_0 dX1_footAt_1 (n := 4) rfl ?_
  refine v_iload_1 ok dX1_footAt_4 (n := 5) rfl ?_
  refine v_aald ok ly_2 (by decide) rfl (by omega) (by decide) rfl dX1_footAt_5 (n := 6) rfl ?_
  refine v_astore_4 ok (by decide) rfl dX1_footAt_6 (n := 8) rfl ?_
  refine v_aload_4 ok dX1_footAt_8 (n := 10) rfl ?_
  refine v_iload_2 ok dX1_footAt_10 (n := 11) rfl ?_
  refine v_if_ne ok dX1_footAt_11 (tgt := 18) (by decide) (n := 14) rfl (by omega) (fun c11_1 => ?_) (fun c11_1 => ?_)
  · have c11_1 := c11_1
    obtain rfl : s = 1 := by omega
    refine v_iconst ok dX1_footAt_18 (n := 19) rfl ?_
    refine v_iald ok (lf_bro (by omega)) rfl (by omega) (by decide) dX1_footAt_19 (n := 20) rfl ?_
    refine v_iload_3 ok dX1_footAt_20 (n := 21) rfl ?_
    refine v_aload_4 ok dX1_footAt_21 (n := 23) rfl ?_
    refine v_iconst ok dX1_footAt_23 (n := 24) rfl ?_
    refine v_iald ok (lf_bro (by omega)) rfl (by omega) (by decide) dX1_footAt_24 (n := 25) rfl ?_
    refine v_imul ok dX1_footAt_25 (n := 26) rfl ?_
    refine v_iconst ok dX1_footAt_26 (n := 27) rfl ?_
    refine v_idiv ok (by omega) (by decide) dX1_footAt_27 (n := 28) rfl ?_
    refine v_iadd ok dX1_footAt_28 (n := 29) rfl ?_
    refine v_iret rt dX1_footAt_29 ?_
    exact ⟨rfl, rfl⟩
  · have c11_1 := c11_1
    obtain rfl : s = 0 := by omega
    refine v_iconst ok dX1_footAt_14 (n := 15) rfl ?_
    refine v_goto ok dX1_footAt_15 (n := 19) (by decide) ?_
    refine v_iald ok (lf_bro (by omega)) rfl (by omega) (by decide) dX1_footAt_19 (n := 20) rfl ?_
    refine v_iload_3 ok dX1_footAt_20 (n := 21) rfl ?_
    refine v_aload_4 ok dX1_footAt_21 (n := 23) rfl ?_
    refine v_iconst ok dX1_footAt_23 (n := 24) rfl ?_
    refine v_iald ok (lf_bro (by omega)) rfl (by omega) (by decide) dX1_footAt_24 (n := 25) rfl ?_
    refine v_imul ok dX1_footAt_25 (n := 26) rfl ?_
    refine v_iconst ok dX1_footAt_26 (n := 27) rfl ?_
    refine v_idiv ok (by omega) (by decide) dX1_footAt_27 (n := 28) rfl ?_
    refine v_iadd ok dX1_footAt_28 (n := 29) rfl ?_
    refine v_iret rt dX1_footAt_29 ?_
    exact ⟨rfl, rfl⟩

set_option maxHeartbeats 4000000 in
set_option maxRecDepth 100000 in
theorem t_looseFor {G : zG} {ad : Int → Nat} {M : zM} {q : Int} (hq : 0 ≤ q ∧ q ≤ 3) : zTI G (zw ad) mi_X1_looseFor [zr 1, zi q] M (fun x M' => M' = M ∧ x = zloo q (M 4 0)) := by
  refine zTI.of (own := RX1) (ls := [some (zr 1), some (zi q)]) (by decide +kernel) rfl rfl (Nat.le_of_ble_eq_true rfl) (fun γ ok rt => ?_)
  refine v_iload_1 ok dX1_looseFor_0 (n := 1) rfl ?_
  refine v_iconst ok dX1_looseFor_1 (n := 2) rfl ?_
  refine v_icmp_ne ok dX1_looseFor_2 (tgt := 9) (by decide) (n := 5) rfl (by omega) (by omega) (fun c2_1 => ?_) (fun c2_1 => ?_)
  · have c2_1 := c2_1
    refine v_aload_0 ok dX1_looseFor_9 (n := 10) rfl ?_
    refine v_getR ok fd_X1_19 ly_1 rfl rfl rfl rf_1_2 dX1_looseFor_10 (n := 13) rfl ?_
    refine v_iconst ok dX1_looseFor_13 (n := 14) rfl ?_
    refine v_iald ok ly_4 rfl (by omega) (by decide) dX1_looseFor_14 (n := 15) rfl ?_
    refine v_iret rt dX1_looseFor_15 ?_
    exact ⟨rfl, by unfold zloo; split <;> omega⟩
  · have c2_1 := c2_1
    subst c2_1
    refine v_iconst ok dX1_looseFor_5 (n := 6) rfl ?_
    refine v_goto ok dX1_looseFor_6 (n := 15) (by decide) ?_
    refine v_iret rt dX1_looseFor_15 ?_
    exact ⟨rfl, by unfold zloo; split <;> omega⟩

set_option maxHeartbeats 4000000 in
set_option maxRecDepth 100000 in
theorem t_leastOut {G : zG} {ad : Int → Nat} {M : zM} {s b h : Int} (hs : 0 ≤ s ∧ s < 16) (hb : 0 ≤ b ∧ b < 7) (hh : 0 ≤ h ∧ h ≤ 11) (hB : zBR (M (5 + b))) (hS : zSR (M (12 + s))) (h0 : 0 ≤ M 4 0 ∧ M 4 0 ≤ 6) (h1 : 0 ≤ M 4 1 ∧ M 4 1 ≤ 6) : zTI G (zw ad) mi_X1_leastOut [zr 1, zi s, zi b, zi h] M (fun x M' => M' = M ∧ x = zask (zfo (M (5 + b)) (M (12 + s) 0) h) (M (12 + s) 1) (M (12 + s) 2) (M 4 0) (M 4 1)) := by
  refine zTI.of (own := RX1) (ls := [some (zr 1), some (zi s), some (zi b), some (zi h), none, none, none, none, none, none]) (by decide +kernel) rfl rfl (Nat.le_of_ble_eq_true rfl) (fun γ ok rt => ?_)
  obtain ⟨s0, s1, s2, s3⟩ := hS
  have hf := zfo_b hB (side := M (12 + s) 0) (by omega) hh
  have g1 := zgiv_b (M (12 + s) 2)
  have g3 := zloo_b (k := M (12 + s) 2) h0
  have e1 := zt304 s2
  have g2 := zlto_b (M (12 + s) 2)
  have e2 := zt305 s2
  have g4 := zmax_b 0 ((zfo (M (5 + b)) (M (12 + s) 0) h) - ztab 304 (M (12 + s) 2) - M (12 + s) 1)
  have g5 := zmin_b (M 4 1) (ztab 305 (M (12 + s) 2))
  refine v_aload_0 ok dX1_leastOut_0 (n := 1) rfl ?_
  refine v_getR ok fd_X1_16 ly_1 rfl rfl rfl rf_1_1 dX1_leastOut_1 (n := 4) rfl ?_
  refine v_iload_1 ok dX1_leastOut_4 (n := 5) rfl ?_
  refine v_aald ok ly_3 (by decide) rfl (by omega) (by decide) rfl dX1_leastOut_5 (n := 6) rfl ?_
  refine v_astore_4 ok (by decide) rfl dX1_leastOut_6 (n := 8) rfl ?_
  refine v_aload_4 ok dX1_leastOut_8 (n := 10) rfl ?_
  refine v_iconst ok dX1_leastOut_10 (n := 11) rfl ?_
  refine v_iald ok (lf_sro (by omega)) rfl (by omega) (by decide) dX1_leastOut_11 (n := 12) rfl ?_
  refine v_istore_5 ok (by decide) rfl dX1_leastOut_12 (n := 14) rfl ?_
  refine v_aload_4 ok dX1_leastOut_14 (n := 16) rfl ?_
  refine v_iconst ok dX1_leastOut_16 (n := 17) rfl ?_
  refine v_iald ok (lf_sro (by omega)) rfl (by omega) (by decide) dX1_leastOut_17 (n := 18) rfl ?_
  refine v_istore_6 ok (by decide) rfl dX1_leastOut_18 (n := 20) rfl ?_
  refine v_aload_0 ok dX1_leastOut_20 (n := 21) rfl ?_
  refine v_iload_2 ok dX1_leastOut_21 (n := 22) rfl ?_
  refine v_aload_4 ok dX1_leastOut_22 (n := 24) rfl ?_
  refine v_iconst ok dX1_leastOut_24 (n := 25) rfl ?_
  refine v_iald ok (lf_sro (by omega)) rfl (by omega) (by decide) dX1_leastOut_25 (n := 26) rfl ?_
  refine v_iload_3 ok dX1_leastOut_26 (n := 27) rfl ?_
  refine v_callVI ok (mi := mi_X1_footAt) mc_X1_footAt cv_X1_43 ly_1 rfl rfl rfl (by decide) ⟨Nat.zero_le _, Nat.zero_le _⟩ dX1_leastOut_27 (n := 30) rfl rfl rfl (Nat.le_of_ble_eq_true rfl) (t_footAt hb (by omega) hh hB) (fun x1 M1 h1 => ?_)
  obtain ⟨e1_, rfl⟩ := h1
  subst M1
  refine v_istore_7 ok (by decide) rfl dX1_leastOut_30 (n := 32) rfl ?_
  refine v_iconst ok dX1_leastOut_32 (n := 33) rfl ?_
  refine v_iload_7 ok dX1_leastOut_33 (n := 35) rfl ?_
  refine v_gets ok sd_X1_47 dX1_leastOut_35 (n := 38) rfl ?_
  refine v_iload_6 ok dX1_leastOut_38 (n := 40) rfl ?_
  refine v_tald ok (by decide) (by unfold ztl; simp; omega) dX1_leastOut_40 (n := 41) rfl ?_
  refine v_isub ok dX1_leastOut_41 (n := 42) rfl ?_
  refine v_iload_5 ok dX1_leastOut_42 (n := 44) rfl ?_
  refine v_isub ok dX1_leastOut_44 (n := 45) rfl ?_
  refine v_max ok mm_X1_50 ⟨by decide, Nat.le_of_ble_eq_true rfl⟩ ⟨Nat.zero_le _, Nat.zero_le _⟩ (by omega) (by omega) dX1_leastOut_45 (n := 48) rfl ?_
  refine v_istore_8 ok (by decide) rfl dX1_leastOut_48 (n := 50) rfl ?_
  refine v_iload_8 ok dX1_leastOut_50 (n := 52) rfl ?_
  refine v_aload_0 ok dX1_leastOut_52 (n := 53) rfl ?_
  refine v_getR ok fd_X1_19 ly_1 rfl rfl rfl rf_1_2 dX1_leastOut_53 (n := 56) rfl ?_
  refine v_iconst ok dX1_leastOut_56 (n := 57) rfl ?_
  refine v_iald ok ly_4 rfl (by omega) (by decide) dX1_leastOut_57 (n := 58) rfl ?_
  refine v_gets ok sd_X1_56 dX1_leastOut_58 (n := 61) rfl ?_
  refine v_iload_6 ok dX1_leastOut_61 (n := 63) rfl ?_
  refine v_tald ok (by decide) (by unfold ztl; simp; omega) dX1_leastOut_63 (n := 64) rfl ?_
  refine v_min ok mm_X1_59 ⟨by decide, Nat.le_of_ble_eq_true rfl⟩ ⟨Nat.zero_le _, Nat.zero_le _⟩ (by omega) (by omega) dX1_leastOut_64 (n := 67) rfl ?_
  refine v_icmp_gt ok dX1_leastOut_67 (tgt := 91) (by decide) (n := 70) rfl (by omega) (by omega) (fun c67_1 => ?_) (fun c67_1 => ?_)
  · have c67_1 := c67_1
    refine v_iconst ok dX1_leastOut_91 (n := 92) rfl ?_
    refine v_istore_9 ok (by decide) rfl dX1_leastOut_92 (n := 94) rfl ?_
    refine v_iload_9 ok dX1_leastOut_94 (n := 96) rfl ?_
    refine v_if_eq ok dX1_leastOut_96 (tgt := 104) (by decide) (n := 99) rfl (by omega) (fun c96_2 => ?_) (fun c96_2 => ?_)
    · have c96_2 := c96_2
      first
      | (exfalso; omega)
      | skip
        refine v_bipush ok (by decide) dX1_leastOut_104 (n := 106) rfl ?_
        refine v_iret rt dX1_leastOut_106 ?_
        refine ⟨rfl, ?_⟩
        unfold zask
        rw [e1] at *
        rw [e2] at *
        first
        | (rw [if_pos ⟨by omega, by omega⟩])
        | (rw [if_neg (by omega)])
    · have c96_2 := c96_2
      first
      | (exfalso; omega)
      | skip
        refine v_iload_8 ok dX1_leastOut_99 (n := 101) rfl ?_
        refine v_goto ok dX1_leastOut_101 (n := 106) (by decide) ?_
        refine v_iret rt dX1_leastOut_106 ?_
        refine ⟨rfl, ?_⟩
        unfold zask
        rw [e1] at *
        rw [e2] at *
        first
        | (rw [if_pos ⟨by omega, by omega⟩])
        | (rw [if_neg (by omega)])
  · have c67_1 := c67_1
    refine v_iload_5 ok dX1_leastOut_70 (n := 72) rfl ?_
    refine v_iload_8 ok dX1_leastOut_72 (n := 74) rfl ?_
    refine v_iadd ok dX1_leastOut_74 (n := 75) rfl ?_
    refine v_iload_7 ok dX1_leastOut_75 (n := 77) rfl ?_
    refine v_aload_0 ok dX1_leastOut_77 (n := 78) rfl ?_
    refine v_iload_6 ok dX1_leastOut_78 (n := 80) rfl ?_
    refine v_callVI ok (mi := mi_X1_looseFor) mc_X1_looseFor cv_X1_62 ly_1 rfl rfl rfl (by decide) ⟨Nat.zero_le _, Nat.zero_le _⟩ dX1_leastOut_80 (n := 83) rfl rfl rfl (Nat.le_of_ble_eq_true rfl) (t_looseFor s2) (fun x2 M2 h2 => ?_)
    obtain ⟨e2_, rfl⟩ := h2
    subst M2
    refine v_iadd ok dX1_leastOut_83 (n := 84) rfl ?_
    refine v_icmp_gt ok dX1_leastOut_84 (tgt := 91) (by decide) (n := 87) rfl (by omega) (by omega) (fun c84_3 => ?_) (fun c84_3 => ?_)
    · have c84_3 := c84_3
      refine v_iconst ok dX1_leastOut_91 (n := 92) rfl ?_
      refine v_istore_9 ok (by decide) rfl dX1_leastOut_92 (n := 94) rfl ?_
      refine v_iload_9 ok dX1_leastOut_94 (n := 96) rfl ?_
      refine v_if_eq ok dX1_leastOut_96 (tgt := 104) (by decide) (n := 99) rfl (by omega) (fun c96_4 => ?_) (fun c96_4 => ?_)
      · have c96_4 := c96_4
        first
        | (exfalso; omega)
        | skip
          refine v_bipush ok (by decide) dX1_leastOut_104 (n := 106) rfl ?_
          refine v_iret rt dX1_leastOut_106 ?_
          refine ⟨rfl, ?_⟩
          unfold zask
          rw [e1] at *
          rw [e2] at *
          first
          | (rw [if_pos ⟨by omega, by omega⟩])
          | (rw [if_neg (by omega)])
      · have c96_4 := c96_4
        first
        | (exfalso; omega)
        | skip
          refine v_iload_8 ok dX1_leastOut_99 (n := 101) rfl ?_
          refine v_goto ok dX1_leastOut_101 (n := 106) (by decide) ?_
          refine v_iret rt dX1_leastOut_106 ?_
          refine ⟨rfl, ?_⟩
          unfold zask
          rw [e1] at *
          rw [e2] at *
          first
          | (rw [if_pos ⟨by omega, by omega⟩])
          | (rw [if_neg (by omega)])
    · have c84_3 := c84_3
      refine v_iconst ok dX1_leastOut_87 (n := 88) rfl ?_
      refine v_goto ok dX1_leastOut_88 (n := 92) (by decide) ?_
      refine v_istore_9 ok (by decide) rfl dX1_leastOut_92 (n := 94) rfl ?_
      refine v_iload_9 ok dX1_leastOut_94 (n := 96) rfl ?_
      refine v_if_eq ok dX1_leastOut_96 (tgt := 104) (by decide) (n := 99) rfl (by omega) (fun c96_5 => ?_) (fun c96_5 => ?_)
      · have c96_5 := c96_5
        first
        | (exfalso; omega)
        | skip
          refine v_bipush ok (by decide) dX1_leastOut_104 (n := 106) rfl ?_
          refine v_iret rt dX1_leastOut_106 ?_
          refine ⟨rfl, ?_⟩
          unfold zask
          rw [e1] at *
          rw [e2] at *
          first
          | (rw [if_pos ⟨by omega, by omega⟩])
          | (rw [if_neg (by omega)])
      · have c96_5 := c96_5
        first
        | (exfalso; omega)
        | skip
          refine v_iload_8 ok dX1_leastOut_99 (n := 101) rfl ?_
          refine v_goto ok dX1_leastOut_101 (n := 106) (by decide) ?_
          refine v_iret rt dX1_leastOut_106 ?_
          refine ⟨rfl, ?_⟩
          unfold zask
          rw [e1] at *
          rw [e2] at *
          first
          | (rw [if_pos ⟨by omega, by omega⟩])
          | (rw [if_neg (by omega)])

set_option maxHeartbeats 4000000 in
set_option maxRecDepth 100000 in
theorem t_limpOf {G : zG} {ad : Int → Nat} {M : zM} {s b h : Int} (hs : 0 ≤ s ∧ s < 16) (hb : 0 ≤ b ∧ b < 7) (hh : 0 ≤ h ∧ h ≤ 11) (hB : zBR (M (5 + b))) (hS : zSR (M (12 + s))) (h0 : 0 ≤ M 4 0 ∧ M 4 0 ≤ 6) : zTI G (zw ad) mi_X1_limpOf [zr 1, zi b, zi s, zi h] M (fun x M' => M' = M ∧ x = zlim (zfo (M (5 + b)) (M (12 + s) 0) h) (M (12 + s) 1) (M (12 + s) 2) (M 4 0)) := by
  refine zTI.of (own := RX1) (ls := [some (zr 1), some (zi b), some (zi s), some (zi h), none, none, none, none, none]) (by decide +kernel) rfl rfl (Nat.le_of_ble_eq_true rfl) (fun γ ok rt => ?_)
  obtain ⟨s0, s1, s2, s3⟩ := hS
  have hf := zfo_b hB (side := M (12 + s) 0) (by omega) hh
  have g1 := zgiv_b (M (12 + s) 2)
  have g3 := zloo_b (k := M (12 + s) 2) h0
  have e1 := zt304 s2
  refine v_aload_0 ok dX1_limpOf_0 (n := 1) rfl ?_
  refine v_getR ok fd_X1_16 ly_1 rfl rfl rfl rf_1_1 dX1_limpOf_1 (n := 4) rfl ?_
  refine v_iload_2 ok dX1_limpOf_4 (n := 5) rfl ?_
  refine v_aald ok ly_3 (by decide) rfl (by omega) (by decide) rfl dX1_limpOf_5 (n := 6) rfl ?_
  refine v_astore_4 ok (by decide) rfl dX1_limpOf_6 (n := 8) rfl ?_
  refine v_aload_4 ok dX1_limpOf_8 (n := 10) rfl ?_
  refine v_iconst ok dX1_limpOf_10 (n := 11) rfl ?_
  refine v_iald ok (lf_sro (by omega)) rfl (by omega) (by decide) dX1_limpOf_11 (n := 12) rfl ?_
  refine v_istore_5 ok (by decide) rfl dX1_limpOf_12 (n := 14) rfl ?_
  refine v_aload_0 ok dX1_limpOf_14 (n := 15) rfl ?_
  refine v_iload_1 ok dX1_limpOf_15 (n := 16) rfl ?_
  refine v_aload_4 ok dX1_limpOf_16 (n := 18) rfl ?_
  refine v_iconst ok dX1_limpOf_18 (n := 19) rfl ?_
  refine v_iald ok (lf_sro (by omega)) rfl (by omega) (by decide) dX1_limpOf_19 (n := 20) rfl ?_
  refine v_iload_3 ok dX1_limpOf_20 (n := 21) rfl ?_
  refine v_callVI ok (mi := mi_X1_footAt) mc_X1_footAt cv_X1_43 ly_1 rfl rfl rfl (by decide) ⟨Nat.zero_le _, Nat.zero_le _⟩ dX1_limpOf_21 (n := 24) rfl rfl rfl (Nat.le_of_ble_eq_true rfl) (t_footAt hb (by omega) hh hB) (fun x1 M1 h1 => ?_)
  obtain ⟨e1_, rfl⟩ := h1
  subst M1
  refine v_istore_6 ok (by decide) rfl dX1_limpOf_24 (n := 26) rfl ?_
  refine v_iload_6 ok dX1_limpOf_26 (n := 28) rfl ?_
  refine v_aload_0 ok dX1_limpOf_28 (n := 29) rfl ?_
  refine v_aload_4 ok dX1_limpOf_29 (n := 31) rfl ?_
  refine v_iconst ok dX1_limpOf_31 (n := 32) rfl ?_
  refine v_iald ok (lf_sro (by omega)) rfl (by omega) (by decide) dX1_limpOf_32 (n := 33) rfl ?_
  refine v_callVI ok (mi := mi_X1_looseFor) mc_X1_looseFor cv_X1_62 ly_1 rfl rfl rfl (by decide) ⟨Nat.zero_le _, Nat.zero_le _⟩ dX1_limpOf_33 (n := 36) rfl rfl rfl (Nat.le_of_ble_eq_true rfl) (t_looseFor s2) (fun x2 M2 h2 => ?_)
  obtain ⟨e2_, rfl⟩ := h2
  subst M2
  refine v_iadd ok dX1_limpOf_36 (n := 37) rfl ?_
  refine v_istore_7 ok (by decide) rfl dX1_limpOf_37 (n := 39) rfl ?_
  refine v_iload_6 ok dX1_limpOf_39 (n := 41) rfl ?_
  refine v_gets ok sd_X1_47 dX1_limpOf_41 (n := 44) rfl ?_
  refine v_aload_4 ok dX1_limpOf_44 (n := 46) rfl ?_
  refine v_iconst ok dX1_limpOf_46 (n := 47) rfl ?_
  refine v_iald ok (lf_sro (by omega)) rfl (by omega) (by decide) dX1_limpOf_47 (n := 48) rfl ?_
  refine v_tald ok (by decide) (by unfold ztl; simp; omega) dX1_limpOf_48 (n := 49) rfl ?_
  refine v_isub ok dX1_limpOf_49 (n := 50) rfl ?_
  refine v_istore_8 ok (by decide) rfl dX1_limpOf_50 (n := 52) rfl ?_
  refine v_iload_5 ok dX1_limpOf_52 (n := 54) rfl ?_
  refine v_iload_7 ok dX1_limpOf_54 (n := 56) rfl ?_
  refine v_icmp_le ok dX1_limpOf_56 (tgt := 65) (by decide) (n := 59) rfl (by omega) (by omega) (fun c56_1 => ?_) (fun c56_1 => ?_)
  · have c56_1 := c56_1
    refine v_iload_5 ok dX1_limpOf_65 (n := 67) rfl ?_
    refine v_iload_8 ok dX1_limpOf_67 (n := 69) rfl ?_
    refine v_icmp_ge ok dX1_limpOf_69 (tgt := 80) (by decide) (n := 72) rfl (by omega) (by omega) (fun c69_2 => ?_) (fun c69_2 => ?_)
    · have c69_2 := c69_2
      refine v_iconst ok dX1_limpOf_80 (n := 81) rfl ?_
      refine v_iret rt dX1_limpOf_81 ?_
      refine ⟨rfl, ?_⟩
      unfold zlim
      rw [e1] at *
      first
      | (rw [if_pos (by omega)])
      | (rw [if_neg (by omega), if_pos (by omega)])
      | (rw [if_neg (by omega), if_neg (by omega)])
    · have c69_2 := c69_2
      refine v_iload_5 ok dX1_limpOf_72 (n := 74) rfl ?_
      refine v_iload_8 ok dX1_limpOf_74 (n := 76) rfl ?_
      refine v_isub ok dX1_limpOf_76 (n := 77) rfl ?_
      refine v_goto ok dX1_limpOf_77 (n := 81) (by decide) ?_
      refine v_iret rt dX1_limpOf_81 ?_
      refine ⟨rfl, ?_⟩
      unfold zlim
      rw [e1] at *
      first
      | (rw [if_pos (by omega)])
      | (rw [if_neg (by omega), if_pos (by omega)])
      | (rw [if_neg (by omega), if_neg (by omega)])
  · have c56_1 := c56_1
    refine v_iload_5 ok dX1_limpOf_59 (n := 61) rfl ?_
    refine v_iload_7 ok dX1_limpOf_61 (n := 63) rfl ?_
    refine v_isub ok dX1_limpOf_63 (n := 64) rfl ?_
    refine v_iret rt dX1_limpOf_64 ?_
    refine ⟨rfl, ?_⟩
    unfold zlim
    rw [e1] at *
    first
    | (rw [if_pos (by omega)])
    | (rw [if_neg (by omega), if_pos (by omega)])
    | (rw [if_neg (by omega), if_neg (by omega)])

set_option maxHeartbeats 4000000 in
set_option maxRecDepth 100000 in
theorem t_isThere {G : zG} {ad : Int → Nat} {M : zM} {s d : Int} (hs : 0 ≤ s ∧ s < 16) (hS : zSR (M (12 + s))) (hd : 0 ≤ d ∧ d ≤ 1) : zTI G (zw ad) mi_X1_isThere [zr 1, zi s, zi d] M (fun x M' => M' = M ∧ ((x = 1 ∧ (M (12 + s) 0 = d ∧ M (12 + s) 3 = 0)) ∨ (x = 0 ∧ ¬ (M (12 + s) 0 = d ∧ M (12 + s) 3 = 0)))) := by
  refine zTI.ofZ (own := RX1) (ls := [some (zr 1), some (zi s), some (zi d)]) (by decide +kernel) rfl rfl (Nat.le_of_ble_eq_true rfl) (fun γ ok rt => ?_)
  obtain ⟨s0, s1, s2, s3⟩ := hS
  refine v_aload_0 ok dX1_isThere_0 (n := 1) rfl ?_
  refine v_getR ok fd_X1_16 ly_1 rfl rfl rfl rf_1_1 dX1_isThere_1 (n := 4) rfl ?_
  refine v_iload_1 ok dX1_isThere_4 (n := 5) rfl ?_
  refine v_aald ok ly_3 (by decide) rfl (by omega) (by decide) rfl dX1_isThere_5 (n := 6) rfl ?_
  refine v_iconst ok dX1_isThere_6 (n := 7) rfl ?_
  refine v_iald ok (lf_sro (by omega)) rfl (by omega) (by decide) dX1_isThere_7 (n := 8) rfl ?_
  refine v_iload_2 ok dX1_isThere_8 (n := 9) rfl ?_
  refine v_icmp_ne ok dX1_isThere_9 (tgt := 27) (by decide) (n := 12) rfl (by omega) (by omega) (fun c9_1 => ?_) (fun c9_1 => ?_)
  · have c9_1 := c9_1
    refine v_iconst ok dX1_isThere_27 (n := 28) rfl ?_
    refine v_zret rt dX1_isThere_28 (by omega) ?_
    exact ⟨rfl, by omega⟩
  · have c9_1 := c9_1
    refine v_aload_0 ok dX1_isThere_12 (n := 13) rfl ?_
    refine v_getR ok fd_X1_16 ly_1 rfl rfl rfl rf_1_1 dX1_isThere_13 (n := 16) rfl ?_
    refine v_iload_1 ok dX1_isThere_16 (n := 17) rfl ?_
    refine v_aald ok ly_3 (by decide) rfl (by omega) (by decide) rfl dX1_isThere_17 (n := 18) rfl ?_
    refine v_iconst ok dX1_isThere_18 (n := 19) rfl ?_
    refine v_iald ok (lf_sro (by omega)) rfl (by omega) (by decide) dX1_isThere_19 (n := 20) rfl ?_
    refine v_if_ne ok dX1_isThere_20 (tgt := 27) (by decide) (n := 23) rfl (by omega) (fun c20_2 => ?_) (fun c20_2 => ?_)
    · have c20_2 := c20_2
      refine v_iconst ok dX1_isThere_27 (n := 28) rfl ?_
      refine v_zret rt dX1_isThere_28 (by omega) ?_
      exact ⟨rfl, by omega⟩
    · have c20_2 := c20_2
      refine v_iconst ok dX1_isThere_23 (n := 24) rfl ?_
      refine v_goto ok dX1_isThere_24 (n := 28) (by decide) ?_
      refine v_zret rt dX1_isThere_28 (by omega) ?_
      exact ⟨rfl, by omega⟩

/-- how many of the first n -/
def zcnt (p : Int → Prop) [DecidablePred p] : Nat → Int
  | 0 => 0
  | n + 1 => zcnt p n + (if p n then 1 else 0)
theorem zcnt_b (p : Int → Prop) [DecidablePred p] (n : Nat) : 0 ≤ zcnt p n ∧ zcnt p n ≤ n := by
  induction n with
  | zero => simp [zcnt]
  | succ n ih =>
    unfold zcnt
    split <;> omega
set_option maxHeartbeats 4000000 in
set_option maxRecDepth 100000 in
theorem t_shoesThere {G : zG} {ad : Int → Nat} {M : zM} {d : Int} (hd : 0 ≤ d ∧ d ≤ 1) (hc : 0 ≤ M 1 4 ∧ M 1 4 ≤ 16) (hS : ∀ s, 0 ≤ s ∧ s < M 1 4 → zSR (M (12 + s))) : zTI G (zw ad) mi_X1_shoesThere [zr 1, zi d] M (fun x M' => M' = M ∧ x = zcnt (fun s => M (12 + s) 0 = d ∧ M (12 + s) 3 = 0) (M 1 4).toNat) := by
  refine zTI.of (own := RX1) (ls := [some (zr 1), some (zi d), none, none]) (by decide +kernel) rfl rfl (Nat.le_of_ble_eq_true rfl) (fun γ ok rt => ?_)
  have lp : ∀ (zn : Nat) (i a : Int), zn = (16 - i).toNat → (0 ≤ i ∧ i ≤ M 1 4) → (a = zcnt (fun s => M (12 + s) 0 = d ∧ M (12 + s) 3 = 0) i.toNat) → zVV G γ (zw ad) (0, 0) 4 [some (zr 1), some (zi d), some (zi a), some (zi i)] [] M := by
    refine zrec _ (fun zn ih => ?_)
    intro i a hzn hi ha
    refine v_iload_3 ok dX1_shoesThere_4 (n := 5) rfl ?_
    have hab := zcnt_b (fun s => M (12 + s) 0 = d ∧ M (12 + s) 3 = 0) i.toNat
    refine v_aload_0 ok dX1_shoesThere_5 (n := 6) rfl ?_
    refine v_getI ok fd_X1_27 ly_1 rfl rfl (jI := 4) rfl dX1_shoesThere_6 (n := 9) rfl ?_
    refine v_icmp_ge ok dX1_shoesThere_9 (tgt := 30) (by decide) (n := 12) rfl (by omega) (by omega) (fun c9_1 => ?_) (fun c9_1 => ?_)
    · have c9_1 := c9_1
      refine v_iload_2 ok dX1_shoesThere_30 (n := 31) rfl ?_
      refine v_iret rt dX1_shoesThere_31 ?_
      have e9 : i = M 1 4 := by omega
      subst ha
      rw [e9]
      exact ⟨rfl, rfl⟩
    · have c9_1 := c9_1
      refine v_aload_0 ok dX1_shoesThere_12 (n := 13) rfl ?_
      refine v_iload_3 ok dX1_shoesThere_13 (n := 14) rfl ?_
      refine v_iload_1 ok dX1_shoesThere_14 (n := 15) rfl ?_
      refine v_callVI ok (mi := mi_X1_isThere) mc_X1_isThere cv_X1_66 ly_1 rfl rfl rfl (by decide) ⟨Nat.zero_le _, Nat.zero_le _⟩ dX1_shoesThere_15 (n := 18) rfl rfl rfl (Nat.le_of_ble_eq_true rfl) (t_isThere (by omega) (hS _ (by omega)) hd) (fun x1 M1 h1 => ?_)
      obtain ⟨e1_, h1⟩ := h1
      subst M1
      refine v_if_eq ok dX1_shoesThere_18 (tgt := 24) (by decide) (n := 21) rfl (by omega) (fun c18_2 => ?_) (fun c18_2 => ?_)
      · have c18_2 := c18_2
        refine v_iinc_3 ok (by decide) rfl dX1_shoesThere_24 (n := 27) rfl ?_
        refine v_goto ok dX1_shoesThere_27 (n := 4) (by decide) ?_
        refine ih _ (by omega) _ _ rfl (by omega) ?_
        rw [show (i + 1).toNat = i.toNat + 1 by omega]
        unfold zcnt
        rw [show ((i.toNat : Nat) : Int) = i by omega]
        first
        | (rw [if_pos (by omega)]; omega)
        | (rw [if_neg (by omega)]; omega)
      · have c18_2 := c18_2
        refine v_iinc_2 ok (by decide) rfl dX1_shoesThere_21 (n := 24) rfl ?_
        refine v_iinc_3 ok (by decide) rfl dX1_shoesThere_24 (n := 27) rfl ?_
        refine v_goto ok dX1_shoesThere_27 (n := 4) (by decide) ?_
        refine ih _ (by omega) _ _ rfl (by omega) ?_
        rw [show (i + 1).toNat = i.toNat + 1 by omega]
        unfold zcnt
        rw [show ((i.toNat : Nat) : Int) = i by omega]
        first
        | (rw [if_pos (by omega)]; omega)
        | (rw [if_neg (by omega)]; omega)
  refine v_iconst ok dX1_shoesThere_0 (n := 1) rfl ?_
  refine v_istore_2 ok (by decide) rfl dX1_shoesThere_1 (n := 2) rfl ?_
  refine v_iconst ok dX1_shoesThere_2 (n := 3) rfl ?_
  refine v_istore_3 ok (by decide) rfl dX1_shoesThere_3 (n := 4) rfl ?_
  exact lp _ _ _ rfl (by omega) rfl
end
