-- ===== PART A: goes FIRST, ahead of the names: the tables' words, and 'selects' of the private methods out of them =====
/-- a private method of a class that the tables say can be made, by its rows of tables_1 -/
def lw_okq (q : MethodName × Nat) : Prop := (q.1.cls ≠ "java/lang/invoke/MethodHandle" ∧ q.1.cls ≠ "java/lang/invoke/VarHandle") ∧ Cond.instantiable q.1.cls q.2 ∈ tables_1 ∧ Cond.privateMethod q.1 ∈ tables_1 ∧ Cond.instanceMethod q.1 ∈ tables_1
theorem lw_p0 : lw_okq (⟨"BrideShoes", "isBride", "(I)Z"⟩, 9) := ⟨⟨by decide +kernel, by decide +kernel⟩, List.mem_of_getElem? (i := 15) (by decide +kernel), List.mem_of_getElem? (i := 233) (by decide +kernel), List.mem_of_getElem? (i := 234) (by decide +kernel)⟩
theorem lw_p1 : lw_okq (⟨"BrideShoes", "isShoe", "(I)Z"⟩, 9) := ⟨⟨by decide +kernel, by decide +kernel⟩, List.mem_of_getElem? (i := 15) (by decide +kernel), List.mem_of_getElem? (i := 252) (by decide +kernel), List.mem_of_getElem? (i := 253) (by decide +kernel)⟩
theorem lw_p2 : lw_okq (⟨"BrideShoesModel", "isBride", "(I)Z"⟩, 32) := ⟨⟨by decide +kernel, by decide +kernel⟩, List.mem_of_getElem? (i := 608) (by decide +kernel), List.mem_of_getElem? (i := 731) (by decide +kernel), List.mem_of_getElem? (i := 732) (by decide +kernel)⟩
theorem lw_p3 : lw_okq (⟨"BrideShoesModel", "addShoe", "(III)V"⟩, 32) := ⟨⟨by decide +kernel, by decide +kernel⟩, List.mem_of_getElem? (i := 608) (by decide +kernel), List.mem_of_getElem? (i := 741) (by decide +kernel), List.mem_of_getElem? (i := 742) (by decide +kernel)⟩
theorem lw_p4 : lw_okq (⟨"BrideShoesModel", "isShoe", "(I)Z"⟩, 32) := ⟨⟨by decide +kernel, by decide +kernel⟩, List.mem_of_getElem? (i := 608) (by decide +kernel), List.mem_of_getElem? (i := 749) (by decide +kernel), List.mem_of_getElem? (i := 750) (by decide +kernel)⟩
theorem lw_p5 : lw_okq (⟨"BrideShoesModel", "footOf", "(III)I"⟩, 32) := ⟨⟨by decide +kernel, by decide +kernel⟩, List.mem_of_getElem? (i := 608) (by decide +kernel), List.mem_of_getElem? (i := 769) (by decide +kernel), List.mem_of_getElem? (i := 770) (by decide +kernel)⟩
theorem lw_p6 : lw_okq (⟨"BrideShoesModel", "askedOf", "(III)I"⟩, 32) := ⟨⟨by decide +kernel, by decide +kernel⟩, List.mem_of_getElem? (i := 608) (by decide +kernel), List.mem_of_getElem? (i := 777) (by decide +kernel), List.mem_of_getElem? (i := 778) (by decide +kernel)⟩
theorem lw_p7 : lw_okq (⟨"BrideShoesModel", "outOf", "(I)I"⟩, 32) := ⟨⟨by decide +kernel, by decide +kernel⟩, List.mem_of_getElem? (i := 608) (by decide +kernel), List.mem_of_getElem? (i := 781) (by decide +kernel), List.mem_of_getElem? (i := 782) (by decide +kernel)⟩
theorem lw_p8 : lw_okq (⟨"BrideShoesModel", "givesOf", "(I)I"⟩, 32) := ⟨⟨by decide +kernel, by decide +kernel⟩, List.mem_of_getElem? (i := 608) (by decide +kernel), List.mem_of_getElem? (i := 785) (by decide +kernel), List.mem_of_getElem? (i := 786) (by decide +kernel)⟩
theorem lw_p9 : lw_okq (⟨"BrideShoesModel", "looseOf", "(I)I"⟩, 32) := ⟨⟨by decide +kernel, by decide +kernel⟩, List.mem_of_getElem? (i := 608) (by decide +kernel), List.mem_of_getElem? (i := 789) (by decide +kernel), List.mem_of_getElem? (i := 790) (by decide +kernel)⟩
theorem lw_p10 : lw_okq (⟨"BrideShoesModel", "readAll", "(Z)Z"⟩, 32) := ⟨⟨by decide +kernel, by decide +kernel⟩, List.mem_of_getElem? (i := 608) (by decide +kernel), List.mem_of_getElem? (i := 813) (by decide +kernel), List.mem_of_getElem? (i := 814) (by decide +kernel)⟩
theorem lw_p11 : lw_okq (⟨"BrideShoesModel", "readBride", "(I)Z"⟩, 32) := ⟨⟨by decide +kernel, by decide +kernel⟩, List.mem_of_getElem? (i := 608) (by decide +kernel), List.mem_of_getElem? (i := 817) (by decide +kernel), List.mem_of_getElem? (i := 818) (by decide +kernel)⟩
theorem lw_p12 : lw_okq (⟨"BrideShoesModel", "readNumber", "(II)I"⟩, 32) := ⟨⟨by decide +kernel, by decide +kernel⟩, List.mem_of_getElem? (i := 608) (by decide +kernel), List.mem_of_getElem? (i := 821) (by decide +kernel), List.mem_of_getElem? (i := 822) (by decide +kernel)⟩
theorem lw_p13 : lw_okq (⟨"BrideShoesModel", "nextByte", "()I"⟩, 32) := ⟨⟨by decide +kernel, by decide +kernel⟩, List.mem_of_getElem? (i := 608) (by decide +kernel), List.mem_of_getElem? (i := 825) (by decide +kernel), List.mem_of_getElem? (i := 826) (by decide +kernel)⟩
theorem lw_p14 : lw_okq (⟨"BrideShoesModel", "takes", "(I)Z"⟩, 32) := ⟨⟨by decide +kernel, by decide +kernel⟩, List.mem_of_getElem? (i := 608) (by decide +kernel), List.mem_of_getElem? (i := 831) (by decide +kernel), List.mem_of_getElem? (i := 832) (by decide +kernel)⟩
theorem lw_p15 : lw_okq (⟨"BrideShoesModel", "readDigit", "(I)I"⟩, 32) := ⟨⟨by decide +kernel, by decide +kernel⟩, List.mem_of_getElem? (i := 608) (by decide +kernel), List.mem_of_getElem? (i := 835) (by decide +kernel), List.mem_of_getElem? (i := 836) (by decide +kernel)⟩
def lw_privs_1 : List (MethodName × Nat) := [(⟨"BrideShoes", "isBride", "(I)Z"⟩, 9), (⟨"BrideShoes", "isShoe", "(I)Z"⟩, 9), (⟨"BrideShoesModel", "isBride", "(I)Z"⟩, 32), (⟨"BrideShoesModel", "addShoe", "(III)V"⟩, 32), (⟨"BrideShoesModel", "isShoe", "(I)Z"⟩, 32), (⟨"BrideShoesModel", "footOf", "(III)I"⟩, 32), (⟨"BrideShoesModel", "askedOf", "(III)I"⟩, 32), (⟨"BrideShoesModel", "outOf", "(I)I"⟩, 32), (⟨"BrideShoesModel", "givesOf", "(I)I"⟩, 32), (⟨"BrideShoesModel", "looseOf", "(I)I"⟩, 32), (⟨"BrideShoesModel", "readAll", "(Z)Z"⟩, 32), (⟨"BrideShoesModel", "readBride", "(I)Z"⟩, 32), (⟨"BrideShoesModel", "readNumber", "(II)I"⟩, 32), (⟨"BrideShoesModel", "nextByte", "()I"⟩, 32), (⟨"BrideShoesModel", "takes", "(I)Z"⟩, 32), (⟨"BrideShoesModel", "readDigit", "(I)I"⟩, 32)]
theorem lw_r1 : ∀ q ∈ lw_privs_1, lw_okq q := List.forall_mem_cons.mpr ⟨lw_p0, List.forall_mem_cons.mpr ⟨lw_p1, List.forall_mem_cons.mpr ⟨lw_p2, List.forall_mem_cons.mpr ⟨lw_p3, List.forall_mem_cons.mpr ⟨lw_p4, List.forall_mem_cons.mpr ⟨lw_p5, List.forall_mem_cons.mpr ⟨lw_p6, List.forall_mem_cons.mpr ⟨lw_p7, List.forall_mem_cons.mpr ⟨lw_p8, List.forall_mem_cons.mpr ⟨lw_p9, List.forall_mem_cons.mpr ⟨lw_p10, List.forall_mem_cons.mpr ⟨lw_p11, List.forall_mem_cons.mpr ⟨lw_p12, List.forall_mem_cons.mpr ⟨lw_p13, List.forall_mem_cons.mpr ⟨lw_p14, List.forall_mem_cons.mpr ⟨lw_p15, fun _ h => absurd h List.not_mem_nil⟩⟩⟩⟩⟩⟩⟩⟩⟩⟩⟩⟩⟩⟩⟩⟩
theorem lw_p16 : lw_okq (⟨"BrideShoesModel", "readShoe", "(I)Z"⟩, 32) := ⟨⟨by decide +kernel, by decide +kernel⟩, List.mem_of_getElem? (i := 608) (by decide +kernel), List.mem_of_getElem? (i := 839) (by decide +kernel), List.mem_of_getElem? (i := 840) (by decide +kernel)⟩
theorem lw_p17 : lw_okq (⟨"BrideShoesModel", "findWay", "(I)I"⟩, 32) := ⟨⟨by decide +kernel, by decide +kernel⟩, List.mem_of_getElem? (i := 608) (by decide +kernel), List.mem_of_getElem? (i := 852) (by decide +kernel), List.mem_of_getElem? (i := 853) (by decide +kernel)⟩
theorem lw_p18 : lw_okq (⟨"BrideShoesModel", "findSide", "(I)V"⟩, 32) := ⟨⟨by decide +kernel, by decide +kernel⟩, List.mem_of_getElem? (i := 608) (by decide +kernel), List.mem_of_getElem? (i := 856) (by decide +kernel), List.mem_of_getElem? (i := 857) (by decide +kernel)⟩
theorem lw_p19 : lw_okq (⟨"BrideShoesModel", "findLeast", "()I"⟩, 32) := ⟨⟨by decide +kernel, by decide +kernel⟩, List.mem_of_getElem? (i := 608) (by decide +kernel), List.mem_of_getElem? (i := 860) (by decide +kernel), List.mem_of_getElem? (i := 861) (by decide +kernel)⟩
theorem lw_p20 : lw_okq (⟨"BrideShoesModel", "limpsOf", "(III)I"⟩, 32) := ⟨⟨by decide +kernel, by decide +kernel⟩, List.mem_of_getElem? (i := 608) (by decide +kernel), List.mem_of_getElem? (i := 880) (by decide +kernel), List.mem_of_getElem? (i := 881) (by decide +kernel)⟩
theorem lw_p21 : lw_okq (⟨"BrideShoesModel", "findTries", "(I)V"⟩, 32) := ⟨⟨by decide +kernel, by decide +kernel⟩, List.mem_of_getElem? (i := 608) (by decide +kernel), List.mem_of_getElem? (i := 889) (by decide +kernel), List.mem_of_getElem? (i := 890) (by decide +kernel)⟩
theorem lw_p22 : lw_okq (⟨"BrideShoesModel", "triesBy", "(III)I"⟩, 32) := ⟨⟨by decide +kernel, by decide +kernel⟩, List.mem_of_getElem? (i := 608) (by decide +kernel), List.mem_of_getElem? (i := 893) (by decide +kernel), List.mem_of_getElem? (i := 894) (by decide +kernel)⟩
theorem lw_p23 : lw_okq (⟨"BrideShoesModel", "triesOf", "(II)I"⟩, 32) := ⟨⟨by decide +kernel, by decide +kernel⟩, List.mem_of_getElem? (i := 608) (by decide +kernel), List.mem_of_getElem? (i := 897) (by decide +kernel), List.mem_of_getElem? (i := 898) (by decide +kernel)⟩
theorem lw_p24 : lw_okq (⟨"BrideShoesModel", "lacksRow", "(IIII)I"⟩, 32) := ⟨⟨by decide +kernel, by decide +kernel⟩, List.mem_of_getElem? (i := 608) (by decide +kernel), List.mem_of_getElem? (i := 925) (by decide +kernel), List.mem_of_getElem? (i := 926) (by decide +kernel)⟩
theorem lw_p25 : lw_okq (⟨"BrideShoesModel", "limpSo", "(II)Z"⟩, 32) := ⟨⟨by decide +kernel, by decide +kernel⟩, List.mem_of_getElem? (i := 608) (by decide +kernel), List.mem_of_getElem? (i := 937) (by decide +kernel), List.mem_of_getElem? (i := 938) (by decide +kernel)⟩
theorem lw_p26 : lw_okq (⟨"BrideShoesModel", "nextRow", "(I)Z"⟩, 32) := ⟨⟨by decide +kernel, by decide +kernel⟩, List.mem_of_getElem? (i := 608) (by decide +kernel), List.mem_of_getElem? (i := 941) (by decide +kernel), List.mem_of_getElem? (i := 942) (by decide +kernel)⟩
theorem lw_p27 : lw_okq (⟨"BrideShoesModel", "findRanks", "(II)Z"⟩, 32) := ⟨⟨by decide +kernel, by decide +kernel⟩, List.mem_of_getElem? (i := 608) (by decide +kernel), List.mem_of_getElem? (i := 950) (by decide +kernel), List.mem_of_getElem? (i := 951) (by decide +kernel)⟩
theorem lw_p28 : lw_okq (⟨"BrideShoesModel", "isRow", "(II)Z"⟩, 32) := ⟨⟨by decide +kernel, by decide +kernel⟩, List.mem_of_getElem? (i := 608) (by decide +kernel), List.mem_of_getElem? (i := 954) (by decide +kernel), List.mem_of_getElem? (i := 955) (by decide +kernel)⟩
def lw_privs_2 : List (MethodName × Nat) := [(⟨"BrideShoesModel", "readShoe", "(I)Z"⟩, 32), (⟨"BrideShoesModel", "findWay", "(I)I"⟩, 32), (⟨"BrideShoesModel", "findSide", "(I)V"⟩, 32), (⟨"BrideShoesModel", "findLeast", "()I"⟩, 32), (⟨"BrideShoesModel", "limpsOf", "(III)I"⟩, 32), (⟨"BrideShoesModel", "findTries", "(I)V"⟩, 32), (⟨"BrideShoesModel", "triesBy", "(III)I"⟩, 32), (⟨"BrideShoesModel", "triesOf", "(II)I"⟩, 32), (⟨"BrideShoesModel", "lacksRow", "(IIII)I"⟩, 32), (⟨"BrideShoesModel", "limpSo", "(II)Z"⟩, 32), (⟨"BrideShoesModel", "nextRow", "(I)Z"⟩, 32), (⟨"BrideShoesModel", "findRanks", "(II)Z"⟩, 32), (⟨"BrideShoesModel", "isRow", "(II)Z"⟩, 32)]
theorem lw_r2 : ∀ q ∈ lw_privs_2, lw_okq q := List.forall_mem_cons.mpr ⟨lw_p16, List.forall_mem_cons.mpr ⟨lw_p17, List.forall_mem_cons.mpr ⟨lw_p18, List.forall_mem_cons.mpr ⟨lw_p19, List.forall_mem_cons.mpr ⟨lw_p20, List.forall_mem_cons.mpr ⟨lw_p21, List.forall_mem_cons.mpr ⟨lw_p22, List.forall_mem_cons.mpr ⟨lw_p23, List.forall_mem_cons.mpr ⟨lw_p24, List.forall_mem_cons.mpr ⟨lw_p25, List.forall_mem_cons.mpr ⟨lw_p26, List.forall_mem_cons.mpr ⟨lw_p27, List.forall_mem_cons.mpr ⟨lw_p28, fun _ h => absurd h List.not_mem_nil⟩⟩⟩⟩⟩⟩⟩⟩⟩⟩⟩⟩⟩
def lw_privs : List (MethodName × Nat) := lw_privs_1 ++ (lw_privs_2)
def lw_tbl : List Cond := k2_sels lw_privs ++ tables_1
theorem lw_privs_ok : ∀ q ∈ lw_privs, lw_okq q := by
  show ∀ q ∈ lw_privs_1 ++ (lw_privs_2), lw_okq q
  exact List.forall_mem_append.mpr ⟨lw_r1, lw_r2⟩
def RX0 : String := "BrideShoes$Mixes"
def TX0 : u_T := fun k => match k with
  | 0 => ("BrideShoes$Mixes", "mayHave", "[I", true)
  | 1 => ("BrideShoes$Mixes", "rowsFrom", "[I", true)
  | _ => ("BrideShoes$Mixes", "first", "[I", true)
def tyX0 : Nat → FieldType := fun k => match k with
  | 0 => .array .int
  | 1 => .array .int
  | _ => .array .int
abbrev wsX00 : List Cond := u_ws RX0 TX0 3
theorem nmX0 : ∀ a, a < 3 → ∀ b, b < 3 → a ≠ b → (TX0 a).2.1 ≠ (TX0 b).2.1 := by decide +kernel
theorem tyX0_ok : ∀ k, k < 3 → parseFieldDescriptor (TX0 k).2.2.1 = some (tyX0 k) := by decide +kernel
abbrev cX0_init : ByteArray := prog_2_method_1_code
def yX0_init : MethodName := ⟨RX0, "<init>", "()V"⟩
abbrev cX0_find : ByteArray := prog_2_method_2_code
def yX0_find : MethodName := ⟨RX0, "find", "(LBrideShoes$Party;[I[III)V"⟩
abbrev cX0_howMany : ByteArray := prog_2_method_3_code
def yX0_howMany : MethodName := ⟨RX0, "howMany", "()I"⟩
abbrev cX0_countRows : ByteArray := prog_2_method_4_code
def yX0_countRows : MethodName := ⟨RX0, "countRows", "(I)V"⟩
abbrev cX0_takeFirst : ByteArray := prog_2_method_5_code
def yX0_takeFirst : MethodName := ⟨RX0, "takeFirst", "(I)V"⟩
abbrev cX0_firstFor : ByteArray := prog_2_method_6_code
def yX0_firstFor : MethodName := ⟨RX0, "firstFor", "(III)I"⟩
def RX1 : String := "BrideShoes$Party"
def TX1 : u_T := fun k => match k with
  | 0 => ("BrideShoes$Party", "brideRows", "[[I", true)
  | 1 => ("BrideShoes$Party", "shoeRows", "[[I", true)
  | 2 => ("BrideShoes$Party", "settings", "[I", true)
  | 3 => ("BrideShoes$Party", "brideCount", "I", false)
  | _ => ("BrideShoes$Party", "shoeCount", "I", false)
def tyX1 : Nat → FieldType := fun k => match k with
  | 0 => .array (.array .int)
  | 1 => .array (.array .int)
  | 2 => .array .int
  | 3 => .int
  | _ => .int
abbrev wsX10 : List Cond := u_ws RX1 TX1 5
theorem nmX1 : ∀ a, a < 5 → ∀ b, b < 5 → a ≠ b → (TX1 a).2.1 ≠ (TX1 b).2.1 := by decide +kernel
theorem tyX1_ok : ∀ k, k < 5 → parseFieldDescriptor (TX1 k).2.2.1 = some (tyX1 k) := by decide +kernel
abbrev cX1_init : ByteArray := prog_3_method_1_code
def yX1_init : MethodName := ⟨RX1, "<init>", "()V"⟩
abbrev cX1_takeBrides : ByteArray := prog_3_method_2_code
def yX1_takeBrides : MethodName := ⟨RX1, "takeBrides", "([[II)V"⟩
abbrev cX1_takeShoes : ByteArray := prog_3_method_3_code
def yX1_takeShoes : MethodName := ⟨RX1, "takeShoes", "([[II)V"⟩
abbrev cX1_takeAll : ByteArray := prog_3_method_4_code
def yX1_takeAll : MethodName := ⟨RX1, "takeAll", "(LBrideShoes$Party;)V"⟩
abbrev cX1_footAt : ByteArray := prog_3_method_5_code
def yX1_footAt : MethodName := ⟨RX1, "footAt", "(III)I"⟩
abbrev cX1_looseFor : ByteArray := prog_3_method_6_code
def yX1_looseFor : MethodName := ⟨RX1, "looseFor", "(I)I"⟩
abbrev cX1_leastOut : ByteArray := prog_3_method_7_code
def yX1_leastOut : MethodName := ⟨RX1, "leastOut", "(III)I"⟩
abbrev cX1_limpOf : ByteArray := prog_3_method_8_code
def yX1_limpOf : MethodName := ⟨RX1, "limpOf", "(III)I"⟩
abbrev cX1_isThere : ByteArray := prog_3_method_9_code
def yX1_isThere : MethodName := ⟨RX1, "isThere", "(II)Z"⟩
abbrev cX1_shoesThere : ByteArray := prog_3_method_10_code
def yX1_shoesThere : MethodName := ⟨RX1, "shoesThere", "(I)I"⟩
def RX2 : String := "BrideShoes$Ranks"
def TX2 : u_T := fun k => match k with
  | 0 => ("BrideShoes$Ranks", "n", "I", false)
  | 1 => ("BrideShoes$Ranks", "liked", "[[I", true)
  | 2 => ("BrideShoes$Ranks", "placeOf", "[[I", true)
  | 3 => ("BrideShoes$Ranks", "groomOf", "[I", true)
  | 4 => ("BrideShoes$Ranks", "brideOf", "[I", true)
  | _ => ("BrideShoes$Ranks", "asks", "[I", true)
def tyX2 : Nat → FieldType := fun k => match k with
  | 0 => .int
  | 1 => .array (.array .int)
  | 2 => .array (.array .int)
  | 3 => .array .int
  | 4 => .array .int
  | _ => .array .int
abbrev wsX20 : List Cond := u_ws RX2 TX2 6
theorem nmX2 : ∀ a, a < 6 → ∀ b, b < 6 → a ≠ b → (TX2 a).2.1 ≠ (TX2 b).2.1 := by decide +kernel
theorem tyX2_ok : ∀ k, k < 6 → parseFieldDescriptor (TX2 k).2.2.1 = some (tyX2 k) := by decide +kernel
abbrev cX2_init : ByteArray := prog_4_method_1_code
def yX2_init : MethodName := ⟨RX2, "<init>", "()V"⟩
abbrev cX2_read : ByteArray := prog_4_method_2_code
def yX2_read : MethodName := ⟨RX2, "read", "([III)Z"⟩
abbrev cX2_readPairs : ByteArray := prog_4_method_3_code
def yX2_readPairs : MethodName := ⟨RX2, "readPairs", "([I)Z"⟩
abbrev cX2_readRow : ByteArray := prog_4_method_4_code
def yX2_readRow : MethodName := ⟨RX2, "readRow", "([II[I[I)Z"⟩
abbrev cX2_pairByBrides : ByteArray := prog_4_method_5_code
def yX2_pairByBrides : MethodName := ⟨RX2, "pairByBrides", "()V"⟩
abbrev cX2_firstAlone : ByteArray := prog_4_method_6_code
def yX2_firstAlone : MethodName := ⟨RX2, "firstAlone", "()I"⟩
abbrev cX2_askNext : ByteArray := prog_4_method_7_code
def yX2_askNext : MethodName := ⟨RX2, "askNext", "(I)V"⟩
abbrev cX2_groomLikesMore : ByteArray := prog_4_method_8_code
def yX2_groomLikesMore : MethodName := ⟨RX2, "groomLikesMore", "(III)Z"⟩
abbrev cX2_wouldLeave : ByteArray := prog_4_method_9_code
def yX2_wouldLeave : MethodName := ⟨RX2, "wouldLeave", "(II)Z"⟩
abbrev cX2_firstToLeave : ByteArray := prog_4_method_10_code
def yX2_firstToLeave : MethodName := ⟨RX2, "firstToLeave", "()I"⟩
def RX3 : String := "BrideShoes$Sheet"
def TX3 : u_T := fun k => match k with
  | 0 => ("BrideShoes$Sheet", "items", "[I", true)
  | 1 => ("BrideShoes$Sheet", "isThere", "Z", false)
  | 2 => ("BrideShoes$Sheet", "lane", "I", false)
  | _ => ("BrideShoes$Sheet", "length", "I", false)
def tyX3 : Nat → FieldType := fun k => match k with
  | 0 => .array .int
  | 1 => .boolean
  | 2 => .int
  | _ => .int
abbrev wsX30 : List Cond := u_ws RX3 TX3 4
theorem nmX3 : ∀ a, a < 4 → ∀ b, b < 4 → a ≠ b → (TX3 a).2.1 ≠ (TX3 b).2.1 := by decide +kernel
theorem tyX3_ok : ∀ k, k < 4 → parseFieldDescriptor (TX3 k).2.2.1 = some (tyX3 k) := by decide +kernel
abbrev cX3_init : ByteArray := prog_5_method_1_code
def yX3_init : MethodName := ⟨RX3, "<init>", "()V"⟩
abbrev cX3_renew : ByteArray := prog_5_method_2_code
def yX3_renew : MethodName := ⟨RX3, "renew", "(II)V"⟩
abbrev cX3_refusal : ByteArray := prog_5_method_3_code
def yX3_refusal : MethodName := ⟨RX3, "refusal", "(III)I"⟩
abbrev cX3_cut : ByteArray := prog_5_method_4_code
def yX3_cut : MethodName := ⟨RX3, "cut", "(II)I"⟩
def RX4 : String := "BrideShoes$Tape"
def TX4 : u_T := fun k => match k with
  | 0 => ("BrideShoes$Tape", "bytes", "[I", true)
  | 1 => ("BrideShoes$Tape", "rows", "[[I", true)
  | 2 => ("BrideShoes$Tape", "length", "I", false)
  | _ => ("BrideShoes$Tape", "place", "I", false)
def tyX4 : Nat → FieldType := fun k => match k with
  | 0 => .array .int
  | 1 => .array (.array .int)
  | 2 => .int
  | _ => .int
abbrev wsX40 : List Cond := u_ws RX4 TX4 4
theorem nmX4 : ∀ a, a < 4 → ∀ b, b < 4 → a ≠ b → (TX4 a).2.1 ≠ (TX4 b).2.1 := by decide +kernel
theorem tyX4_ok : ∀ k, k < 4 → parseFieldDescriptor (TX4 k).2.2.1 = some (tyX4 k) := by decide +kernel
abbrev cX4_init : ByteArray := prog_6_method_1_code
def yX4_init : MethodName := ⟨RX4, "<init>", "()V"⟩
abbrev cX4_isTypable : ByteArray := prog_6_method_2_code
def yX4_isTypable : MethodName := ⟨RX4, "isTypable", "(JI)Z"⟩
abbrev cX4_append : ByteArray := prog_6_method_3_code
def yX4_append : MethodName := ⟨RX4, "append", "(JI)V"⟩
abbrev cX4_readBrides : ByteArray := prog_6_method_4_code
def yX4_readBrides : MethodName := ⟨RX4, "readBrides", "()I"⟩
abbrev cX4_readHeap : ByteArray := prog_6_method_5_code
def yX4_readHeap : MethodName := ⟨RX4, "readHeap", "()I"⟩
abbrev cX4_read : ByteArray := prog_6_method_6_code
def yX4_read : MethodName := ⟨RX4, "read", "(ZI)I"⟩
abbrev cX4_readBride : ByteArray := prog_6_method_7_code
def yX4_readBride : MethodName := ⟨RX4, "readBride", "([I)Z"⟩
abbrev cX4_readSwell : ByteArray := prog_6_method_8_code
def yX4_readSwell : MethodName := ⟨RX4, "readSwell", "([I)Z"⟩
abbrev cX4_readShoe : ByteArray := prog_6_method_9_code
def yX4_readShoe : MethodName := ⟨RX4, "readShoe", "([I)Z"⟩
abbrev cX4_next : ByteArray := prog_6_method_10_code
def yX4_next : MethodName := ⟨RX4, "next", "()I"⟩
abbrev cX4_isPassed : ByteArray := prog_6_method_11_code
def yX4_isPassed : MethodName := ⟨RX4, "isPassed", "(C)Z"⟩
abbrev cX4_readNumber : ByteArray := prog_6_method_12_code
def yX4_readNumber : MethodName := ⟨RX4, "readNumber", "([IIII)Z"⟩
def RX5 : String := "BrideShoes$Trials"
def TX5 : u_T := fun k => match k with
  | 0 => ("BrideShoes$Trials", "fewest", "[[I", true)
  | _ => ("BrideShoes$Trials", "canTry", "J", false)
def tyX5 : Nat → FieldType := fun k => match k with
  | 0 => .array (.array .int)
  | _ => .long
abbrev wsX50 : List Cond := u_ws RX5 TX5 2
theorem nmX5 : ∀ a, a < 2 → ∀ b, b < 2 → a ≠ b → (TX5 a).2.1 ≠ (TX5 b).2.1 := by decide +kernel
theorem tyX5_ok : ∀ k, k < 2 → parseFieldDescriptor (TX5 k).2.2.1 = some (tyX5 k) := by decide +kernel
abbrev cX5_init : ByteArray := prog_7_method_1_code
def yX5_init : MethodName := ⟨RX5, "<init>", "()V"⟩
abbrev cX5_findFewest : ByteArray := prog_7_method_2_code
def yX5_findFewest : MethodName := ⟨RX5, "findFewest", "(LBrideShoes$Party;III)V"⟩
abbrev cX5_fewestOf : ByteArray := prog_7_method_3_code
def yX5_fewestOf : MethodName := ⟨RX5, "fewestOf", "(II)I"⟩
abbrev cX5_fewestBy : ByteArray := prog_7_method_4_code
def yX5_fewestBy : MethodName := ⟨RX5, "fewestBy", "(III)I"⟩
abbrev cX5_fewestTries : ByteArray := prog_7_method_5_code
def yX5_fewestTries : MethodName := ⟨RX5, "fewestTries", "(II)I"⟩
abbrev cX5_firstTried : ByteArray := prog_7_method_6_code
def yX5_firstTried : MethodName := ⟨RX5, "firstTried", "(II)I"⟩
def RX6 : String := "BrideShoes$Ways"
def TX6 : u_T := fun k => match k with
  | 0 => ("BrideShoes$Ways", "price", "[[J", true)
  | 1 => ("BrideShoes$Ways", "least", "[J", true)
  | 2 => ("BrideShoes$Ways", "shoeOf", "[I", true)
  | _ => ("BrideShoes$Ways", "askedTogether", "I", false)
def tyX6 : Nat → FieldType := fun k => match k with
  | 0 => .array (.array .long)
  | 1 => .array .long
  | 2 => .array .int
  | _ => .int
abbrev wsX60 : List Cond := u_ws RX6 TX6 4
theorem nmX6 : ∀ a, a < 4 → ∀ b, b < 4 → a ≠ b → (TX6 a).2.1 ≠ (TX6 b).2.1 := by decide +kernel
theorem tyX6_ok : ∀ k, k < 4 → parseFieldDescriptor (TX6 k).2.2.1 = some (tyX6 k) := by decide +kernel
abbrev cX6_init : ByteArray := prog_8_method_1_code
def yX6_init : MethodName := ⟨RX6, "<init>", "()V"⟩
abbrev cX6_findForAll : ByteArray := prog_8_method_2_code
def yX6_findForAll : MethodName := ⟨RX6, "findForAll", "(LBrideShoes$Party;I)Z"⟩
abbrev cX6_findMost : ByteArray := prog_8_method_3_code
def yX6_findMost : MethodName := ⟨RX6, "findMost", "(LBrideShoes$Party;I)I"⟩
abbrev cX6_findChain : ByteArray := prog_8_method_4_code
def yX6_findChain : MethodName := ⟨RX6, "findChain", "(LBrideShoes$Party;I)I"⟩
abbrev cX6_isWorn : ByteArray := prog_8_method_5_code
def yX6_isWorn : MethodName := ⟨RX6, "isWorn", "(LBrideShoes$Party;I)Z"⟩
abbrev cX6_shiftOf : ByteArray := prog_8_method_6_code
def yX6_shiftOf : MethodName := ⟨RX6, "shiftOf", "(I)I"⟩
abbrev cX6_priceAsked : ByteArray := prog_8_method_7_code
def yX6_priceAsked : MethodName := ⟨RX6, "priceAsked", "(LBrideShoes$Party;I)V"⟩
abbrev cX6_addShoes : ByteArray := prog_8_method_8_code
def yX6_addShoes : MethodName := ⟨RX6, "addShoes", "(LBrideShoes$Party;)V"⟩
abbrev cX6_addShoe : ByteArray := prog_8_method_9_code
def yX6_addShoe : MethodName := ⟨RX6, "addShoe", "([JI)V"⟩
def RX7 : String := "BrideShoes"
def TX7 : u_T := fun k => match k with
  | 0 => ("BrideShoes", "party", "LBrideShoes$Party;", true)
  | 1 => ("BrideShoes", "kept", "LBrideShoes$Party;", true)
  | 2 => ("BrideShoes", "isKept", "Z", false)
  | 3 => ("BrideShoes", "tape", "LBrideShoes$Tape;", true)
  | 4 => ("BrideShoes", "ways", "LBrideShoes$Ways;", true)
  | 5 => ("BrideShoes", "trials", "LBrideShoes$Trials;", true)
  | 6 => ("BrideShoes", "mixes", "LBrideShoes$Mixes;", true)
  | 7 => ("BrideShoes", "ranks", "LBrideShoes$Ranks;", true)
  | _ => ("BrideShoes", "sheets", "[LBrideShoes$Sheet;", true)
def tyX7 : Nat → FieldType := fun k => match k with
  | 0 => .object "BrideShoes$Party"
  | 1 => .object "BrideShoes$Party"
  | 2 => .boolean
  | 3 => .object "BrideShoes$Tape"
  | 4 => .object "BrideShoes$Ways"
  | 5 => .object "BrideShoes$Trials"
  | 6 => .object "BrideShoes$Mixes"
  | 7 => .object "BrideShoes$Ranks"
  | _ => .array (.object "BrideShoes$Sheet")
abbrev wsX70 : List Cond := u_ws RX7 TX7 9
theorem nmX7 : ∀ a, a < 9 → ∀ b, b < 9 → a ≠ b → (TX7 a).2.1 ≠ (TX7 b).2.1 := by decide +kernel
theorem tyX7_ok : ∀ k, k < 9 → parseFieldDescriptor (TX7 k).2.2.1 = some (tyX7 k) := by decide +kernel
abbrev cX7_init : ByteArray := prog_1_method_1_code
def yX7_init : MethodName := ⟨RX7, "<init>", "()V"⟩
abbrev cX7_bride : ByteArray := prog_1_method_2_code
def yX7_bride : MethodName := ⟨RX7, "bride", "(IIII)I"⟩
abbrev cX7_make : ByteArray := prog_1_method_3_code
def yX7_make : MethodName := ⟨RX7, "make", "(III)I"⟩
abbrev cX7_shoe : ByteArray := prog_1_method_4_code
def yX7_shoe : MethodName := ⟨RX7, "shoe", "(III)I"⟩
abbrev cX7_told : ByteArray := prog_1_method_5_code
def yX7_told : MethodName := ⟨RX7, "told", "(II)I"⟩
abbrev cX7_lose : ByteArray := prog_1_method_6_code
def yX7_lose : MethodName := ⟨RX7, "lose", "(IZ)I"⟩
abbrev cX7_set : ByteArray := prog_1_method_7_code
def yX7_set : MethodName := ⟨RX7, "set", "(II)I"⟩
abbrev cX7_foot : ByteArray := prog_1_method_8_code
def yX7_foot : MethodName := ⟨RX7, "foot", "(III)I"⟩
abbrev cX7_asked : ByteArray := prog_1_method_9_code
def yX7_asked : MethodName := ⟨RX7, "asked", "(III)I"⟩
abbrev cX7_whose : ByteArray := prog_1_method_10_code
def yX7_whose : MethodName := ⟨RX7, "whose", "(II)I"⟩
abbrev cX7_type : ByteArray := prog_1_method_11_code
def yX7_type : MethodName := ⟨RX7, "type", "(JI)I"⟩
abbrev cX7_brides : ByteArray := prog_1_method_12_code
def yX7_brides : MethodName := ⟨RX7, "brides", "()I"⟩
abbrev cX7_heap : ByteArray := prog_1_method_13_code
def yX7_heap : MethodName := ⟨RX7, "heap", "()I"⟩
abbrev cX7_count : ByteArray := prog_1_method_14_code
def yX7_count : MethodName := ⟨RX7, "count", "(I)I"⟩
abbrev cX7_shod : ByteArray := prog_1_method_15_code
def yX7_shod : MethodName := ⟨RX7, "shod", "(II)I"⟩
abbrev cX7_most : ByteArray := prog_1_method_16_code
def yX7_most : MethodName := ⟨RX7, "most", "(I)I"⟩
abbrev cX7_chain : ByteArray := prog_1_method_17_code
def yX7_chain : MethodName := ⟨RX7, "chain", "(I)I"⟩
abbrev cX7_limps : ByteArray := prog_1_method_18_code
def yX7_limps : MethodName := ⟨RX7, "limps", "(III)I"⟩
abbrev cX7_tries : ByteArray := prog_1_method_19_code
def yX7_tries : MethodName := ⟨RX7, "tries", "(IIII)I"⟩
abbrev cX7_image : ByteArray := prog_1_method_20_code
def yX7_image : MethodName := ⟨RX7, "image", "()I"⟩
abbrev cX7_restore : ByteArray := prog_1_method_21_code
def yX7_restore : MethodName := ⟨RX7, "restore", "()I"⟩
abbrev cX7_changed : ByteArray := prog_1_method_22_code
def yX7_changed : MethodName := ⟨RX7, "changed", "(IIIIII)I"⟩
abbrev cX7_firm : ByteArray := prog_1_method_23_code
def yX7_firm : MethodName := ⟨RX7, "firm", "(IIIII)I"⟩
abbrev cX7_judged : ByteArray := prog_1_method_24_code
def yX7_judged : MethodName := ⟨RX7, "judged", "(IIIII)I"⟩
abbrev cX7_sheet : ByteArray := prog_1_method_25_code
def yX7_sheet : MethodName := ⟨RX7, "sheet", "(III)I"⟩
abbrev cX7_drop : ByteArray := prog_1_method_26_code
def yX7_drop : MethodName := ⟨RX7, "drop", "(I)I"⟩
abbrev cX7_item : ByteArray := prog_1_method_27_code
def yX7_item : MethodName := ⟨RX7, "item", "(IIII)I"⟩
abbrev cX7_copy : ByteArray := prog_1_method_28_code
def yX7_copy : MethodName := ⟨RX7, "copy", "(IIIII)I"⟩
abbrev cX7_isFrom : ByteArray := prog_1_method_29_code
def yX7_isFrom : MethodName := ⟨RX7, "isFrom", "(III)Z"⟩
abbrev cX7_isOfBride : ByteArray := prog_1_method_30_code
def yX7_isOfBride : MethodName := ⟨RX7, "isOfBride", "(II)Z"⟩
abbrev cX7_isOfShoe : ByteArray := prog_1_method_31_code
def yX7_isOfShoe : MethodName := ⟨RX7, "isOfShoe", "(II)Z"⟩
abbrev cX7_isSide : ByteArray := prog_1_method_32_code
def yX7_isSide : MethodName := ⟨RX7, "isSide", "(I)Z"⟩
abbrev cX7_isHour : ByteArray := prog_1_method_33_code
def yX7_isHour : MethodName := ⟨RX7, "isHour", "(I)Z"⟩
abbrev cX7_isSheet : ByteArray := prog_1_method_34_code
def yX7_isSheet : MethodName := ⟨RX7, "isSheet", "(I)Z"⟩
abbrev cX7_isLane : ByteArray := prog_1_method_35_code
def yX7_isLane : MethodName := ⟨RX7, "isLane", "(I)Z"⟩
abbrev cX7_isRanked : ByteArray := prog_1_method_36_code
def yX7_isRanked : MethodName := ⟨RX7, "isRanked", "(I)Z"⟩
abbrev cX7_isBride : ByteArray := prog_1_method_37_code
def yX7_isBride : MethodName := ⟨RX7, "isBride", "(I)Z"⟩
abbrev cX7_isShoe : ByteArray := prog_1_method_38_code
def yX7_isShoe : MethodName := ⟨RX7, "isShoe", "(I)Z"⟩
def RX8 : String := "BrideShoesModel"
def TX8 : u_T := fun k => match k with
  | 0 => ("BrideShoesModel", "brides", "[I", true)
  | 1 => ("BrideShoesModel", "shoes", "[I", true)
  | 2 => ("BrideShoesModel", "many", "I", false)
  | 3 => ("BrideShoesModel", "shoeMany", "I", false)
  | 4 => ("BrideShoesModel", "sets", "[I", true)
  | 5 => ("BrideShoesModel", "tape", "[I", true)
  | 6 => ("BrideShoesModel", "taped", "I", false)
  | 7 => ("BrideShoesModel", "place", "I", false)
  | 8 => ("BrideShoesModel", "reads", "I", false)
  | 9 => ("BrideShoesModel", "read", "[I", true)
  | 10 => ("BrideShoesModel", "which", "[I", true)
  | 11 => ("BrideShoesModel", "whichMany", "I", false)
  | 12 => ("BrideShoesModel", "asks", "[I", true)
  | 13 => ("BrideShoesModel", "least", "[I", true)
  | 14 => ("BrideShoesModel", "way", "[I", true)
  | 15 => ("BrideShoesModel", "can", "[Z", true)
  | 16 => ("BrideShoesModel", "hasSize", "[Z", true)
  | 17 => ("BrideShoesModel", "fewest", "[I", true)
  | 18 => ("BrideShoesModel", "isKept", "Z", false)
  | 19 => ("BrideShoesModel", "kept", "[I", true)
  | 20 => ("BrideShoesModel", "keptMany", "I", false)
  | 21 => ("BrideShoesModel", "keptShoes", "I", false)
  | 22 => ("BrideShoesModel", "lanes", "[I", true)
  | 23 => ("BrideShoesModel", "rowSizes", "[I", true)
  | 24 => ("BrideShoesModel", "items", "[I", true)
  | 25 => ("BrideShoesModel", "moved", "[I", true)
  | 26 => ("BrideShoesModel", "row", "[I", true)
  | 27 => ("BrideShoesModel", "first", "[I", true)
  | 28 => ("BrideShoesModel", "ranks", "[I", true)
  | 29 => ("BrideShoesModel", "grooms", "[I", true)
  | 30 => ("BrideShoesModel", "wives", "[I", true)
  | _ => ("BrideShoesModel", "asked", "[I", true)
def tyX8 : Nat → FieldType := fun k => match k with
  | 0 => .array .int
  | 1 => .array .int
  | 2 => .int
  | 3 => .int
  | 4 => .array .int
  | 5 => .array .int
  | 6 => .int
  | 7 => .int
  | 8 => .int
  | 9 => .array .int
  | 10 => .array .int
  | 11 => .int
  | 12 => .array .int
  | 13 => .array .int
  | 14 => .array .int
  | 15 => .array .boolean
  | 16 => .array .boolean
  | 17 => .array .int
  | 18 => .boolean
  | 19 => .array .int
  | 20 => .int
  | 21 => .int
  | 22 => .array .int
  | 23 => .array .int
  | 24 => .array .int
  | 25 => .array .int
  | 26 => .array .int
  | 27 => .array .int
  | 28 => .array .int
  | 29 => .array .int
  | 30 => .array .int
  | _ => .array .int
abbrev wsX80 : List Cond := u_ws RX8 TX8 32
theorem nmX8 : ∀ a, a < 32 → ∀ b, b < 32 → a ≠ b → (TX8 a).2.1 ≠ (TX8 b).2.1 := by decide +kernel
theorem tyX8_ok : ∀ k, k < 32 → parseFieldDescriptor (TX8 k).2.2.1 = some (tyX8 k) := by decide +kernel
abbrev cX8_init : ByteArray := prog_10_method_1_code
def yX8_init : MethodName := ⟨RX8, "<init>", "()V"⟩
abbrev cX8_in : ByteArray := prog_10_method_2_code
def yX8_in : MethodName := ⟨RX8, "in", "(JJJ)Z"⟩
abbrev cX8_isBride : ByteArray := prog_10_method_3_code
def yX8_isBride : MethodName := ⟨RX8, "isBride", "(I)Z"⟩
abbrev cX8_isShoe : ByteArray := prog_10_method_4_code
def yX8_isShoe : MethodName := ⟨RX8, "isShoe", "(I)Z"⟩
abbrev cX8_isHour : ByteArray := prog_10_method_5_code
def yX8_isHour : MethodName := ⟨RX8, "isHour", "(I)Z"⟩
abbrev cX8_isOfBride : ByteArray := prog_10_method_6_code
def yX8_isOfBride : MethodName := ⟨RX8, "isOfBride", "(II)Z"⟩
abbrev cX8_bride : ByteArray := prog_10_method_7_code
def yX8_bride : MethodName := ⟨RX8, "bride", "(IIII)I"⟩
abbrev cX8_make : ByteArray := prog_10_method_8_code
def yX8_make : MethodName := ⟨RX8, "make", "(III)I"⟩
abbrev cX8_addShoe : ByteArray := prog_10_method_9_code
def yX8_addShoe : MethodName := ⟨RX8, "addShoe", "(III)V"⟩
abbrev cX8_shoe : ByteArray := prog_10_method_10_code
def yX8_shoe : MethodName := ⟨RX8, "shoe", "(III)I"⟩
abbrev cX8_told : ByteArray := prog_10_method_11_code
def yX8_told : MethodName := ⟨RX8, "told", "(II)I"⟩
abbrev cX8_lose : ByteArray := prog_10_method_12_code
def yX8_lose : MethodName := ⟨RX8, "lose", "(IZ)I"⟩
abbrev cX8_set : ByteArray := prog_10_method_13_code
def yX8_set : MethodName := ⟨RX8, "set", "(II)I"⟩
abbrev cX8_footOf : ByteArray := prog_10_method_14_code
def yX8_footOf : MethodName := ⟨RX8, "footOf", "(III)I"⟩
abbrev cX8_givesOf : ByteArray := prog_10_method_15_code
def yX8_givesOf : MethodName := ⟨RX8, "givesOf", "(I)I"⟩
abbrev cX8_looseOf : ByteArray := prog_10_method_16_code
def yX8_looseOf : MethodName := ⟨RX8, "looseOf", "(I)I"⟩
abbrev cX8_outOf : ByteArray := prog_10_method_17_code
def yX8_outOf : MethodName := ⟨RX8, "outOf", "(I)I"⟩
abbrev cX8_askedOf : ByteArray := prog_10_method_18_code
def yX8_askedOf : MethodName := ⟨RX8, "askedOf", "(III)I"⟩
abbrev cX8_foot : ByteArray := prog_10_method_19_code
def yX8_foot : MethodName := ⟨RX8, "foot", "(III)I"⟩
abbrev cX8_asked : ByteArray := prog_10_method_20_code
def yX8_asked : MethodName := ⟨RX8, "asked", "(III)I"⟩
abbrev cX8_whose : ByteArray := prog_10_method_21_code
def yX8_whose : MethodName := ⟨RX8, "whose", "(II)I"⟩
abbrev cX8_count : ByteArray := prog_10_method_22_code
def yX8_count : MethodName := ⟨RX8, "count", "(I)I"⟩
abbrev cX8_type : ByteArray := prog_10_method_23_code
def yX8_type : MethodName := ⟨RX8, "type", "(JI)I"⟩
abbrev cX8_nextByte : ByteArray := prog_10_method_24_code
def yX8_nextByte : MethodName := ⟨RX8, "nextByte", "()I"⟩
abbrev cX8_takes : ByteArray := prog_10_method_25_code
def yX8_takes : MethodName := ⟨RX8, "takes", "(I)Z"⟩
abbrev cX8_readNumber : ByteArray := prog_10_method_26_code
def yX8_readNumber : MethodName := ⟨RX8, "readNumber", "(II)I"⟩
abbrev cX8_readDigit : ByteArray := prog_10_method_27_code
def yX8_readDigit : MethodName := ⟨RX8, "readDigit", "(I)I"⟩
abbrev cX8_readBride : ByteArray := prog_10_method_28_code
def yX8_readBride : MethodName := ⟨RX8, "readBride", "(I)Z"⟩
abbrev cX8_readShoe : ByteArray := prog_10_method_29_code
def yX8_readShoe : MethodName := ⟨RX8, "readShoe", "(I)Z"⟩
abbrev cX8_readAll : ByteArray := prog_10_method_30_code
def yX8_readAll : MethodName := ⟨RX8, "readAll", "(Z)Z"⟩
abbrev cX8_brides : ByteArray := prog_10_method_31_code
def yX8_brides : MethodName := ⟨RX8, "brides", "()I"⟩
abbrev cX8_heap : ByteArray := prog_10_method_32_code
def yX8_heap : MethodName := ⟨RX8, "heap", "()I"⟩
abbrev cX8_findSide : ByteArray := prog_10_method_33_code
def yX8_findSide : MethodName := ⟨RX8, "findSide", "(I)V"⟩
abbrev cX8_ones : ByteArray := prog_10_method_34_code
def yX8_ones : MethodName := ⟨RX8, "ones", "(I)I"⟩
abbrev cX8_findLeast : ByteArray := prog_10_method_35_code
def yX8_findLeast : MethodName := ⟨RX8, "findLeast", "()I"⟩
abbrev cX8_findWay : ByteArray := prog_10_method_36_code
def yX8_findWay : MethodName := ⟨RX8, "findWay", "(I)I"⟩
abbrev cX8_shod : ByteArray := prog_10_method_37_code
def yX8_shod : MethodName := ⟨RX8, "shod", "(II)I"⟩
abbrev cX8_most : ByteArray := prog_10_method_38_code
def yX8_most : MethodName := ⟨RX8, "most", "(I)I"⟩
abbrev cX8_chain : ByteArray := prog_10_method_39_code
def yX8_chain : MethodName := ⟨RX8, "chain", "(I)I"⟩
abbrev cX8_limpsOf : ByteArray := prog_10_method_40_code
def yX8_limpsOf : MethodName := ⟨RX8, "limpsOf", "(III)I"⟩
abbrev cX8_limps : ByteArray := prog_10_method_41_code
def yX8_limps : MethodName := ⟨RX8, "limps", "(III)I"⟩
abbrev cX8_triesOf : ByteArray := prog_10_method_42_code
def yX8_triesOf : MethodName := ⟨RX8, "triesOf", "(II)I"⟩
abbrev cX8_triesBy : ByteArray := prog_10_method_43_code
def yX8_triesBy : MethodName := ⟨RX8, "triesBy", "(III)I"⟩
abbrev cX8_findTries : ByteArray := prog_10_method_44_code
def yX8_findTries : MethodName := ⟨RX8, "findTries", "(I)V"⟩
abbrev cX8_tries : ByteArray := prog_10_method_45_code
def yX8_tries : MethodName := ⟨RX8, "tries", "(IIII)I"⟩
abbrev cX8_image : ByteArray := prog_10_method_46_code
def yX8_image : MethodName := ⟨RX8, "image", "()I"⟩
abbrev cX8_restore : ByteArray := prog_10_method_47_code
def yX8_restore : MethodName := ⟨RX8, "restore", "()I"⟩
abbrev cX8_isSheet : ByteArray := prog_10_method_48_code
def yX8_isSheet : MethodName := ⟨RX8, "isSheet", "(II)Z"⟩
abbrev cX8_sheet : ByteArray := prog_10_method_49_code
def yX8_sheet : MethodName := ⟨RX8, "sheet", "(III)I"⟩
abbrev cX8_drop : ByteArray := prog_10_method_50_code
def yX8_drop : MethodName := ⟨RX8, "drop", "(I)I"⟩
abbrev cX8_lacksRow : ByteArray := prog_10_method_51_code
def yX8_lacksRow : MethodName := ⟨RX8, "lacksRow", "(IIII)I"⟩
abbrev cX8_item : ByteArray := prog_10_method_52_code
def yX8_item : MethodName := ⟨RX8, "item", "(IIII)I"⟩
abbrev cX8_copy : ByteArray := prog_10_method_53_code
def yX8_copy : MethodName := ⟨RX8, "copy", "(IIIII)I"⟩
abbrev cX8_nextRow : ByteArray := prog_10_method_54_code
def yX8_nextRow : MethodName := ⟨RX8, "nextRow", "(I)Z"⟩
abbrev cX8_limpSo : ByteArray := prog_10_method_55_code
def yX8_limpSo : MethodName := ⟨RX8, "limpSo", "(II)Z"⟩
abbrev cX8_changed : ByteArray := prog_10_method_56_code
def yX8_changed : MethodName := ⟨RX8, "changed", "(IIIIII)I"⟩
abbrev cX8_isRow : ByteArray := prog_10_method_57_code
def yX8_isRow : MethodName := ⟨RX8, "isRow", "(II)Z"⟩
abbrev cX8_findRanks : ByteArray := prog_10_method_58_code
def yX8_findRanks : MethodName := ⟨RX8, "findRanks", "(II)Z"⟩
abbrev cX8_firm : ByteArray := prog_10_method_59_code
def yX8_firm : MethodName := ⟨RX8, "firm", "(IIIII)I"⟩
abbrev cX8_judged : ByteArray := prog_10_method_60_code
def yX8_judged : MethodName := ⟨RX8, "judged", "(IIIII)I"⟩
def RJ6 : String := "java/lang/Integer"
abbrev cJ6_bitCount_0f7a4 : ByteArray := prog_11_method_49_code
def yJ6_bitCount_0f7a4 : MethodName := ⟨RJ6, "bitCount", "(I)I"⟩
def RJ9 : String := "java/lang/Math"
abbrev cJ9_max_7cf53 : ByteArray := prog_12_method_65_code
def yJ9_max_7cf53 : MethodName := ⟨RJ9, "max", "(II)I"⟩
abbrev cJ9_min_7cf53 : ByteArray := prog_12_method_69_code
def yJ9_min_7cf53 : MethodName := ⟨RJ9, "min", "(II)I"⟩
def RJ10 : String := "java/lang/System"
def RJ7 : String := "java/util/Arrays"
abbrev cJ7_fill_d0a16 : ByteArray := prog_14_method_101_code
def yJ7_fill_d0a16 : MethodName := ⟨RJ7, "fill", "([JJ)V"⟩
abbrev cJ7_fill_53178 : ByteArray := prog_14_method_103_code
def yJ7_fill_53178 : MethodName := ⟨RJ7, "fill", "([II)V"⟩
def RL : String := "BrideShoesLaw"
abbrev cL_law : ByteArray := code
def yL_law : MethodName := ⟨RL, "law", "([I)Z"⟩
