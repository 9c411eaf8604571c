-- ===== PART A: goes FIRST, ahead of the names: the tables' words, and 'selects' of the private methods out of them =====
/-- a private method of a class that the tables say can be made, by its rows of tables_1 -/
def lw_okq (q : MethodName × Nat) : Prop := (q.1.cls ≠ "java/lang/invoke/MethodHandle" ∧ q.1.cls ≠ "java/lang/invoke/VarHandle") ∧ Cond.instantiable q.1.cls q.2 ∈ tables_1 ∧ Cond.privateMethod q.1 ∈ tables_1 ∧ Cond.instanceMethod q.1 ∈ tables_1
theorem lw_p0 : lw_okq (⟨"GlassTank$Sharer", "giveLeft", "(II[I)V"⟩, 2) := ⟨⟨by decide +kernel, by decide +kernel⟩, List.mem_of_getElem? (i := 25) (by decide +kernel), List.mem_of_getElem? (i := 406) (by decide +kernel), List.mem_of_getElem? (i := 407) (by decide +kernel)⟩
theorem lw_p1 : lw_okq (⟨"GlassTank$MixSearch", "costOfTrial", "()I"⟩, 5) := ⟨⟨by decide +kernel, by decide +kernel⟩, List.mem_of_getElem? (i := 120) (by decide +kernel), List.mem_of_getElem? (i := 483) (by decide +kernel), List.mem_of_getElem? (i := 484) (by decide +kernel)⟩
theorem lw_p2 : lw_okq (⟨"GlassTank$MixSearch", "keepTrial", "(I)V"⟩, 5) := ⟨⟨by decide +kernel, by decide +kernel⟩, List.mem_of_getElem? (i := 120) (by decide +kernel), List.mem_of_getElem? (i := 488) (by decide +kernel), List.mem_of_getElem? (i := 489) (by decide +kernel)⟩
theorem lw_p3 : lw_okq (⟨"GlassTank$MixSearch", "advance", "()Z"⟩, 5) := ⟨⟨by decide +kernel, by decide +kernel⟩, List.mem_of_getElem? (i := 120) (by decide +kernel), List.mem_of_getElem? (i := 492) (by decide +kernel), List.mem_of_getElem? (i := 493) (by decide +kernel)⟩
theorem lw_p4 : lw_okq (⟨"GlassTank", "canRun", "()Z"⟩, 11) := ⟨⟨by decide +kernel, by decide +kernel⟩, List.mem_of_getElem? (i := 17) (by decide +kernel), List.mem_of_getElem? (i := 504) (by decide +kernel), List.mem_of_getElem? (i := 505) (by decide +kernel)⟩
theorem lw_p5 : lw_okq (⟨"GlassTank", "passHour", "()V"⟩, 11) := ⟨⟨by decide +kernel, by decide +kernel⟩, List.mem_of_getElem? (i := 17) (by decide +kernel), List.mem_of_getElem? (i := 518) (by decide +kernel), List.mem_of_getElem? (i := 519) (by decide +kernel)⟩
theorem lw_p6 : lw_okq (⟨"GlassTank$Tank", "move", "(II)V"⟩, 8) := ⟨⟨by decide +kernel, by decide +kernel⟩, List.mem_of_getElem? (i := 144) (by decide +kernel), List.mem_of_getElem? (i := 533) (by decide +kernel), List.mem_of_getElem? (i := 534) (by decide +kernel)⟩
theorem lw_p7 : lw_okq (⟨"GlassTank$Forecast", "firstHourWithDose", "(III)I"⟩, 6) := ⟨⟨by decide +kernel, by decide +kernel⟩, List.mem_of_getElem? (i := 276) (by decide +kernel), List.mem_of_getElem? (i := 585) (by decide +kernel), List.mem_of_getElem? (i := 586) (by decide +kernel)⟩
theorem lw_p8 : lw_okq (⟨"GlassTank$Forecast", "passHour", "(LGlassTank$Charge;)V"⟩, 6) := ⟨⟨by decide +kernel, by decide +kernel⟩, List.mem_of_getElem? (i := 276) (by decide +kernel), List.mem_of_getElem? (i := 593) (by decide +kernel), List.mem_of_getElem? (i := 594) (by decide +kernel)⟩
theorem lw_p9 : lw_okq (⟨"GlassTank$Ring", "gather", "(I)I"⟩, 4) := ⟨⟨by decide +kernel, by decide +kernel⟩, List.mem_of_getElem? (i := 303) (by decide +kernel), List.mem_of_getElem? (i := 631) (by decide +kernel), List.mem_of_getElem? (i := 632) (by decide +kernel)⟩
theorem lw_p10 : lw_okq (⟨"GlassTank$Ring", "sumOfOrder", "(I)I"⟩, 4) := ⟨⟨by decide +kernel, by decide +kernel⟩, List.mem_of_getElem? (i := 303) (by decide +kernel), List.mem_of_getElem? (i := 635) (by decide +kernel), List.mem_of_getElem? (i := 636) (by decide +kernel)⟩
theorem lw_p11 : lw_okq (⟨"GlassTank$Ring", "keepOrder", "(I)V"⟩, 4) := ⟨⟨by decide +kernel, by decide +kernel⟩, List.mem_of_getElem? (i := 303) (by decide +kernel), List.mem_of_getElem? (i := 639) (by decide +kernel), List.mem_of_getElem? (i := 640) (by decide +kernel)⟩
theorem lw_p12 : lw_okq (⟨"GlassTank$Ring", "advance", "(I)Z"⟩, 4) := ⟨⟨by decide +kernel, by decide +kernel⟩, List.mem_of_getElem? (i := 303) (by decide +kernel), List.mem_of_getElem? (i := 644) (by decide +kernel), List.mem_of_getElem? (i := 645) (by decide +kernel)⟩
theorem lw_p13 : lw_okq (⟨"GlassTank$Ring", "swap", "(II)V"⟩, 4) := ⟨⟨by decide +kernel, by decide +kernel⟩, List.mem_of_getElem? (i := 303) (by decide +kernel), List.mem_of_getElem? (i := 648) (by decide +kernel), List.mem_of_getElem? (i := 649) (by decide +kernel)⟩
theorem lw_p14 : lw_okq (⟨"GlassTankModel", "isFeed", "(I)Z"⟩, 40) := ⟨⟨by decide +kernel, by decide +kernel⟩, List.mem_of_getElem? (i := 664) (by decide +kernel), List.mem_of_getElem? (i := 803) (by decide +kernel), List.mem_of_getElem? (i := 804) (by decide +kernel)⟩
theorem lw_p15 : lw_okq (⟨"GlassTankModel", "byThings", "(II[II)V"⟩, 40) := ⟨⟨by decide +kernel, by decide +kernel⟩, List.mem_of_getElem? (i := 664) (by decide +kernel), List.mem_of_getElem? (i := 817) (by decide +kernel), List.mem_of_getElem? (i := 818) (by decide +kernel)⟩
def lw_privs_1 : List (MethodName × Nat) := [(⟨"GlassTank$Sharer", "giveLeft", "(II[I)V"⟩, 2), (⟨"GlassTank$MixSearch", "costOfTrial", "()I"⟩, 5), (⟨"GlassTank$MixSearch", "keepTrial", "(I)V"⟩, 5), (⟨"GlassTank$MixSearch", "advance", "()Z"⟩, 5), (⟨"GlassTank", "canRun", "()Z"⟩, 11), (⟨"GlassTank", "passHour", "()V"⟩, 11), (⟨"GlassTank$Tank", "move", "(II)V"⟩, 8), (⟨"GlassTank$Forecast", "firstHourWithDose", "(III)I"⟩, 6), (⟨"GlassTank$Forecast", "passHour", "(LGlassTank$Charge;)V"⟩, 6), (⟨"GlassTank$Ring", "gather", "(I)I"⟩, 4), (⟨"GlassTank$Ring", "sumOfOrder", "(I)I"⟩, 4), (⟨"GlassTank$Ring", "keepOrder", "(I)V"⟩, 4), (⟨"GlassTank$Ring", "advance", "(I)Z"⟩, 4), (⟨"GlassTank$Ring", "swap", "(II)V"⟩, 4), (⟨"GlassTankModel", "isFeed", "(I)Z"⟩, 40), (⟨"GlassTankModel", "byThings", "(II[II)V"⟩, 40)]
theorem lw_r1 : ∀ q ∈ lw_privs_1, lw_okq q := List.forall_mem_cons.mpr ⟨lw_p0, List.forall_mem_cons.mpr ⟨lw_p1, List.forall_mem_cons.mpr ⟨lw_p2, List.forall_mem_cons.mpr ⟨lw_p3, List.forall_mem_cons.mpr ⟨lw_p4, List.forall_mem_cons.mpr ⟨lw_p5, List.forall_mem_cons.mpr ⟨lw_p6, List.forall_mem_cons.mpr ⟨lw_p7, List.forall_mem_cons.mpr ⟨lw_p8, List.forall_mem_cons.mpr ⟨lw_p9, List.forall_mem_cons.mpr ⟨lw_p10, List.forall_mem_cons.mpr ⟨lw_p11, List.forall_mem_cons.mpr ⟨lw_p12, List.forall_mem_cons.mpr ⟨lw_p13, List.forall_mem_cons.mpr ⟨lw_p14, List.forall_mem_cons.mpr ⟨lw_p15, fun _ h => absurd h List.not_mem_nil⟩⟩⟩⟩⟩⟩⟩⟩⟩⟩⟩⟩⟩⟩⟩⟩
theorem lw_p16 : lw_okq (⟨"GlassTankModel", "shareOut", "(II)V"⟩, 40) := ⟨⟨by decide +kernel, by decide +kernel⟩, List.mem_of_getElem? (i := 664) (by decide +kernel), List.mem_of_getElem? (i := 821) (by decide +kernel), List.mem_of_getElem? (i := 822) (by decide +kernel)⟩
theorem lw_p17 : lw_okq (⟨"GlassTankModel", "isColour", "(I)Z"⟩, 40) := ⟨⟨by decide +kernel, by decide +kernel⟩, List.mem_of_getElem? (i := 664) (by decide +kernel), List.mem_of_getElem? (i := 850) (by decide +kernel), List.mem_of_getElem? (i := 851) (by decide +kernel)⟩
theorem lw_p18 : lw_okq (⟨"GlassTankModel", "isSure", "(I[I)Z"⟩, 40) := ⟨⟨by decide +kernel, by decide +kernel⟩, List.mem_of_getElem? (i := 664) (by decide +kernel), List.mem_of_getElem? (i := 858) (by decide +kernel), List.mem_of_getElem? (i := 859) (by decide +kernel)⟩
theorem lw_p19 : lw_okq (⟨"GlassTankModel", "goesBy", "()Z"⟩, 40) := ⟨⟨by decide +kernel, by decide +kernel⟩, List.mem_of_getElem? (i := 664) (by decide +kernel), List.mem_of_getElem? (i := 874) (by decide +kernel), List.mem_of_getElem? (i := 875) (by decide +kernel)⟩
theorem lw_p20 : lw_okq (⟨"GlassTankModel", "comes", "(II)V"⟩, 40) := ⟨⟨by decide +kernel, by decide +kernel⟩, List.mem_of_getElem? (i := 664) (by decide +kernel), List.mem_of_getElem? (i := 878) (by decide +kernel), List.mem_of_getElem? (i := 879) (by decide +kernel)⟩
theorem lw_p21 : lw_okq (⟨"GlassTankModel", "goes", "([I)V"⟩, 40) := ⟨⟨by decide +kernel, by decide +kernel⟩, List.mem_of_getElem? (i := 664) (by decide +kernel), List.mem_of_getElem? (i := 883) (by decide +kernel), List.mem_of_getElem? (i := 884) (by decide +kernel)⟩
theorem lw_p22 : lw_okq (⟨"GlassTankModel", "nameOf", "()I"⟩, 40) := ⟨⟨by decide +kernel, by decide +kernel⟩, List.mem_of_getElem? (i := 664) (by decide +kernel), List.mem_of_getElem? (i := 887) (by decide +kernel), List.mem_of_getElem? (i := 888) (by decide +kernel)⟩
theorem lw_p23 : lw_okq (⟨"GlassTankModel", "isOf", "(I)Z"⟩, 40) := ⟨⟨by decide +kernel, by decide +kernel⟩, List.mem_of_getElem? (i := 664) (by decide +kernel), List.mem_of_getElem? (i := 891) (by decide +kernel), List.mem_of_getElem? (i := 892) (by decide +kernel)⟩
theorem lw_p24 : lw_okq (⟨"GlassTankModel", "glassOf", "(I)I"⟩, 40) := ⟨⟨by decide +kernel, by decide +kernel⟩, List.mem_of_getElem? (i := 664) (by decide +kernel), List.mem_of_getElem? (i := 895) (by decide +kernel), List.mem_of_getElem? (i := 896) (by decide +kernel)⟩
theorem lw_p25 : lw_okq (⟨"GlassTankModel", "isHour", "(I)Z"⟩, 40) := ⟨⟨by decide +kernel, by decide +kernel⟩, List.mem_of_getElem? (i := 664) (by decide +kernel), List.mem_of_getElem? (i := 903) (by decide +kernel), List.mem_of_getElem? (i := 904) (by decide +kernel)⟩
theorem lw_p26 : lw_okq (⟨"GlassTankModel", "first", "(IIII)I"⟩, 40) := ⟨⟨by decide +kernel, by decide +kernel⟩, List.mem_of_getElem? (i := 664) (by decide +kernel), List.mem_of_getElem? (i := 915) (by decide +kernel), List.mem_of_getElem? (i := 916) (by decide +kernel)⟩
theorem lw_p27 : lw_okq (⟨"GlassTankModel", "turns", "(I)Z"⟩, 40) := ⟨⟨by decide +kernel, by decide +kernel⟩, List.mem_of_getElem? (i := 664) (by decide +kernel), List.mem_of_getElem? (i := 935) (by decide +kernel), List.mem_of_getElem? (i := 936) (by decide +kernel)⟩
def lw_privs_2 : List (MethodName × Nat) := [(⟨"GlassTankModel", "shareOut", "(II)V"⟩, 40), (⟨"GlassTankModel", "isColour", "(I)Z"⟩, 40), (⟨"GlassTankModel", "isSure", "(I[I)Z"⟩, 40), (⟨"GlassTankModel", "goesBy", "()Z"⟩, 40), (⟨"GlassTankModel", "comes", "(II)V"⟩, 40), (⟨"GlassTankModel", "goes", "([I)V"⟩, 40), (⟨"GlassTankModel", "nameOf", "()I"⟩, 40), (⟨"GlassTankModel", "isOf", "(I)Z"⟩, 40), (⟨"GlassTankModel", "glassOf", "(I)I"⟩, 40), (⟨"GlassTankModel", "isHour", "(I)Z"⟩, 40), (⟨"GlassTankModel", "first", "(IIII)I"⟩, 40), (⟨"GlassTankModel", "turns", "(I)Z"⟩, 40)]
theorem lw_r2 : ∀ q ∈ lw_privs_2, lw_okq q := List.forall_mem_cons.mpr ⟨lw_p16, List.forall_mem_cons.mpr ⟨lw_p17, List.forall_mem_cons.mpr ⟨lw_p18, List.forall_mem_cons.mpr ⟨lw_p19, List.forall_mem_cons.mpr ⟨lw_p20, List.forall_mem_cons.mpr ⟨lw_p21, List.forall_mem_cons.mpr ⟨lw_p22, List.forall_mem_cons.mpr ⟨lw_p23, List.forall_mem_cons.mpr ⟨lw_p24, List.forall_mem_cons.mpr ⟨lw_p25, List.forall_mem_cons.mpr ⟨lw_p26, List.forall_mem_cons.mpr ⟨lw_p27, fun _ h => absurd h List.not_mem_nil⟩⟩⟩⟩⟩⟩⟩⟩⟩⟩⟩⟩
def lw_privs : List (MethodName × Nat) := lw_privs_1 ++ (lw_privs_2)
def lw_tbl : List Cond := k2_sels lw_privs ++ tables_1
theorem lw_privs_ok : ∀ q ∈ lw_privs, lw_okq q := by
  show ∀ q ∈ lw_privs_1 ++ (lw_privs_2), lw_okq q
  exact List.forall_mem_append.mpr ⟨lw_r1, lw_r2⟩

def RX0 : String := "GlassTank$Charge"
def TX0 : u_T := fun k => match k with
  | 0 => ("GlassTank$Charge", "feeds", "LGlassTank$Feeds;", true)
  | 1 => ("GlassTank$Charge", "mix", "LGlassTank$Mix;", true)
  | 2 => ("GlassTank$Charge", "sharer", "LGlassTank$Sharer;", true)
  | 3 => ("GlassTank$Charge", "weights", "[I", true)
  | 4 => ("GlassTank$Charge", "taken", "[I", true)
  | 5 => ("GlassTank$Charge", "lot", "[I", true)
  | _ => ("GlassTank$Charge", "size", "I", false)
def tyX0 : Nat → FieldType := fun k => match k with
  | 0 => .object "GlassTank$Feeds"
  | 1 => .object "GlassTank$Mix"
  | 2 => .object "GlassTank$Sharer"
  | 3 => .array .int
  | 4 => .array .int
  | 5 => .array .int
  | _ => .int
abbrev wsX00 : List Cond := u_ws RX0 TX0 7
theorem nmX0 : ∀ a, a < 7 → ∀ b, b < 7 → a ≠ b → (TX0 a).2.1 ≠ (TX0 b).2.1 := by decide +kernel
theorem tyX0_ok : ∀ k, k < 7 → parseFieldDescriptor (TX0 k).2.2.1 = some (tyX0 k) := by decide +kernel
abbrev cX0_init : ByteArray := prog_2_method_1_code
def yX0_init : MethodName := ⟨RX0, "<init>", "(LGlassTank$Feeds;LGlassTank$Mix;LGlassTank$Sharer;)V"⟩
abbrev cX0_measure : ByteArray := prog_2_method_2_code
def yX0_measure : MethodName := ⟨RX0, "measure", "(III)V"⟩
def RX1 : String := "GlassTank$Colours"
def TX1 : u_T := fun k => match k with
  | 0 => ("GlassTank$Colours", "count", "I", false)
  | 1 => ("GlassTank$Colours", "least", "[[I", true)
  | _ => ("GlassTank$Colours", "most", "[[I", true)
def tyX1 : Nat → FieldType := fun k => match k with
  | 0 => .int
  | 1 => .array (.array .int)
  | _ => .array (.array .int)
abbrev wsX10 : List Cond := u_ws RX1 TX1 3
theorem nmX1 : ∀ a, a < 3 → ∀ b, b < 3 → a ≠ b → (TX1 a).2.1 ≠ (TX1 b).2.1 := by decide +kernel
theorem tyX1_ok : ∀ k, k < 3 → parseFieldDescriptor (TX1 k).2.2.1 = some (tyX1 k) := by decide +kernel
abbrev cX1_init : ByteArray := prog_3_method_1_code
def yX1_init : MethodName := ⟨RX1, "<init>", "()V"⟩
abbrev cX1_has : ByteArray := prog_3_method_2_code
def yX1_has : MethodName := ⟨RX1, "has", "(I)Z"⟩
abbrev cX1_add : ByteArray := prog_3_method_3_code
def yX1_add : MethodName := ⟨RX1, "add", "()I"⟩
abbrev cX1_fits : ByteArray := prog_3_method_4_code
def yX1_fits : MethodName := ⟨RX1, "fits", "(ILGlassTank$Glass;)Z"⟩
abbrev cX1_nameOf : ByteArray := prog_3_method_5_code
def yX1_nameOf : MethodName := ⟨RX1, "nameOf", "(LGlassTank$Glass;)I"⟩
abbrev cX1_isSure : ByteArray := prog_3_method_6_code
def yX1_isSure : MethodName := ⟨RX1, "isSure", "(I[ILGlassTank$Feeds;)Z"⟩
def RX2 : String := "GlassTank$Feeds"
def TX2 : u_T := fun k => match k with
  | 0 => ("GlassTank$Feeds", "count", "I", false)
  | 1 => ("GlassTank$Feeds", "kinds", "[I", true)
  | 2 => ("GlassTank$Feeds", "makeUps", "[[I", true)
  | 3 => ("GlassTank$Feeds", "doubts", "[I", true)
  | 4 => ("GlassTank$Feeds", "prices", "[I", true)
  | _ => ("GlassTank$Feeds", "stocks", "[I", true)
def tyX2 : Nat → FieldType := fun k => match k with
  | 0 => .int
  | 1 => .array .int
  | 2 => .array (.array .int)
  | 3 => .array .int
  | 4 => .array .int
  | _ => .array .int
abbrev wsX20 : List Cond := u_ws RX2 TX2 6
theorem nmX2 : ∀ a, a < 6 → ∀ b, b < 6 → a ≠ b → (TX2 a).2.1 ≠ (TX2 b).2.1 := by decide +kernel
theorem tyX2_ok : ∀ k, k < 6 → parseFieldDescriptor (TX2 k).2.2.1 = some (tyX2 k) := by decide +kernel
abbrev cX2_init : ByteArray := prog_4_method_1_code
def yX2_init : MethodName := ⟨RX2, "<init>", "()V"⟩
abbrev cX2_has : ByteArray := prog_4_method_2_code
def yX2_has : MethodName := ⟨RX2, "has", "(I)Z"⟩
abbrev cX2_add : ByteArray := prog_4_method_3_code
def yX2_add : MethodName := ⟨RX2, "add", "(IIIIIII)I"⟩
abbrev cX2_haveAll : ByteArray := prog_4_method_4_code
def yX2_haveAll : MethodName := ⟨RX2, "haveAll", "([I)Z"⟩
abbrev cX2_takeAll : ByteArray := prog_4_method_5_code
def yX2_takeAll : MethodName := ⟨RX2, "takeAll", "([I)V"⟩
abbrev cX2_takeBack : ByteArray := prog_4_method_6_code
def yX2_takeBack : MethodName := ⟨RX2, "takeBack", "(I)V"⟩
def RX3 : String := "GlassTank$Forecast"
def TX3 : u_T := fun k => match k with
  | 0 => ("GlassTank$Forecast", "tank", "LGlassTank$Tank;", true)
  | 1 => ("GlassTank$Forecast", "colours", "LGlassTank$Colours;", true)
  | 2 => ("GlassTank$Forecast", "plain", "LGlassTank$Charge;", true)
  | 3 => ("GlassTank$Forecast", "dosed", "LGlassTank$Charge;", true)
  | 4 => ("GlassTank$Forecast", "trial", "LGlassTank$Tank;", true)
  | _ => ("GlassTank$Forecast", "glass", "LGlassTank$Glass;", true)
def tyX3 : Nat → FieldType := fun k => match k with
  | 0 => .object "GlassTank$Tank"
  | 1 => .object "GlassTank$Colours"
  | 2 => .object "GlassTank$Charge"
  | 3 => .object "GlassTank$Charge"
  | 4 => .object "GlassTank$Tank"
  | _ => .object "GlassTank$Glass"
abbrev wsX30 : List Cond := u_ws RX3 TX3 6
theorem nmX3 : ∀ a, a < 6 → ∀ b, b < 6 → a ≠ b → (TX3 a).2.1 ≠ (TX3 b).2.1 := by decide +kernel
theorem tyX3_ok : ∀ k, k < 6 → parseFieldDescriptor (TX3 k).2.2.1 = some (tyX3 k) := by decide +kernel
abbrev cX3_init : ByteArray := prog_5_method_1_code
def yX3_init : MethodName := ⟨RX3, "<init>", "(LGlassTank$Tank;LGlassTank$Colours;LGlassTank$Charge;LGlassTank$Charge;LGlassTank$Tank;)V"⟩
abbrev cX3_firstHour : ByteArray := prog_5_method_2_code
def yX3_firstHour : MethodName := ⟨RX3, "firstHour", "(I)I"⟩
abbrev cX3_hoursWithoutName : ByteArray := prog_5_method_3_code
def yX3_hoursWithoutName : MethodName := ⟨RX3, "hoursWithoutName", "()I"⟩
abbrev cX3_bestDose : ByteArray := prog_5_method_4_code
def yX3_bestDose : MethodName := ⟨RX3, "bestDose", "(II)I"⟩
abbrev cX3_firstHourWithDose : ByteArray := prog_5_method_5_code
def yX3_firstHourWithDose : MethodName := ⟨RX3, "firstHourWithDose", "(III)I"⟩
abbrev cX3_passHour : ByteArray := prog_5_method_6_code
def yX3_passHour : MethodName := ⟨RX3, "passHour", "(LGlassTank$Charge;)V"⟩
def RX4 : String := "GlassTank$Glass"
def TX4 : u_T := fun k => match k with
  | 0 => ("GlassTank$Glass", "things", "[I", true)
  | 1 => ("GlassTank$Glass", "leads", "[I", true)
  | _ => ("GlassTank$Glass", "grams", "I", false)
def tyX4 : Nat → FieldType := fun k => match k with
  | 0 => .array .int
  | 1 => .array .int
  | _ => .int
abbrev wsX40 : List Cond := u_ws RX4 TX4 3
theorem nmX4 : ∀ a, a < 3 → ∀ b, b < 3 → a ≠ b → (TX4 a).2.1 ≠ (TX4 b).2.1 := by decide +kernel
theorem tyX4_ok : ∀ k, k < 3 → parseFieldDescriptor (TX4 k).2.2.1 = some (tyX4 k) := by decide +kernel
abbrev cX4_init : ByteArray := prog_6_method_1_code
def yX4_init : MethodName := ⟨RX4, "<init>", "()V"⟩
abbrev cX4_read : ByteArray := prog_6_method_2_code
def yX4_read : MethodName := ⟨RX4, "read", "(LGlassTank$Tank;)V"⟩
def RX5 : String := "GlassTank$Log"
def TX5 : u_T := fun k => match k with
  | 0 => ("GlassTank$Log", "count", "I", false)
  | 1 => ("GlassTank$Log", "wasteGrams", "I", false)
  | 2 => ("GlassTank$Log", "putIn", "I", false)
  | 3 => ("GlassTank$Log", "things", "[I", true)
  | 4 => ("GlassTank$Log", "leads", "[I", true)
  | 5 => ("GlassTank$Log", "grams", "[I", true)
  | 6 => ("GlassTank$Log", "names", "[I", true)
  | _ => ("GlassTank$Log", "wasted", "[Z", true)
def tyX5 : Nat → FieldType := fun k => match k with
  | 0 => .int
  | 1 => .int
  | 2 => .int
  | 3 => .array .int
  | 4 => .array .int
  | 5 => .array .int
  | 6 => .array .int
  | _ => .array .boolean
abbrev wsX50 : List Cond := u_ws RX5 TX5 8
theorem nmX5 : ∀ a, a < 8 → ∀ b, b < 8 → a ≠ b → (TX5 a).2.1 ≠ (TX5 b).2.1 := by decide +kernel
theorem tyX5_ok : ∀ k, k < 8 → parseFieldDescriptor (TX5 k).2.2.1 = some (tyX5 k) := by decide +kernel
abbrev cX5_init : ByteArray := prog_7_method_1_code
def yX5_init : MethodName := ⟨RX5, "<init>", "()V"⟩
abbrev cX5_has : ByteArray := prog_7_method_2_code
def yX5_has : MethodName := ⟨RX5, "has", "(I)Z"⟩
abbrev cX5_clear : ByteArray := prog_7_method_3_code
def yX5_clear : MethodName := ⟨RX5, "clear", "()V"⟩
abbrev cX5_add : ByteArray := prog_7_method_4_code
def yX5_add : MethodName := ⟨RX5, "add", "(LGlassTank$Glass;IZ)V"⟩
def RX6 : String := "GlassTank$Mix"
def TX6 : u_T := fun k => match k with
  | 0 => ("GlassTank$Mix", "made", "Z", false)
  | 1 => ("GlassTank$Mix", "shares", "[I", true)
  | _ => ("GlassTank$Mix", "toCome", "[I", true)
def tyX6 : Nat → FieldType := fun k => match k with
  | 0 => .boolean
  | 1 => .array .int
  | _ => .array .int
abbrev wsX60 : List Cond := u_ws RX6 TX6 3
theorem nmX6 : ∀ a, a < 3 → ∀ b, b < 3 → a ≠ b → (TX6 a).2.1 ≠ (TX6 b).2.1 := by decide +kernel
theorem tyX6_ok : ∀ k, k < 3 → parseFieldDescriptor (TX6 k).2.2.1 = some (tyX6 k) := by decide +kernel
abbrev cX6_init : ByteArray := prog_8_method_1_code
def yX6_init : MethodName := ⟨RX6, "<init>", "()V"⟩
abbrev cX6_become : ByteArray := prog_8_method_2_code
def yX6_become : MethodName := ⟨RX6, "become", "([I)V"⟩
def RX7 : String := "GlassTank$MixSearch"
def TX7 : u_T := fun k => match k with
  | 0 => ("GlassTank$MixSearch", "feeds", "LGlassTank$Feeds;", true)
  | 1 => ("GlassTank$MixSearch", "colours", "LGlassTank$Colours;", true)
  | 2 => ("GlassTank$MixSearch", "trial", "[I", true)
  | 3 => ("GlassTank$MixSearch", "best", "[I", true)
  | _ => ("GlassTank$MixSearch", "bestCost", "I", false)
def tyX7 : Nat → FieldType := fun k => match k with
  | 0 => .object "GlassTank$Feeds"
  | 1 => .object "GlassTank$Colours"
  | 2 => .array .int
  | 3 => .array .int
  | _ => .int
abbrev wsX70 : List Cond := u_ws RX7 TX7 5
theorem nmX7 : ∀ a, a < 5 → ∀ b, b < 5 → a ≠ b → (TX7 a).2.1 ≠ (TX7 b).2.1 := by decide +kernel
theorem tyX7_ok : ∀ k, k < 5 → parseFieldDescriptor (TX7 k).2.2.1 = some (tyX7 k) := by decide +kernel
abbrev cX7_init : ByteArray := prog_9_method_1_code
def yX7_init : MethodName := ⟨RX7, "<init>", "(LGlassTank$Feeds;LGlassTank$Colours;)V"⟩
abbrev cX7_find : ByteArray := prog_9_method_2_code
def yX7_find : MethodName := ⟨RX7, "find", "(I)Z"⟩
abbrev cX7_costOfTrial : ByteArray := prog_9_method_3_code
def yX7_costOfTrial : MethodName := ⟨RX7, "costOfTrial", "()I"⟩
abbrev cX7_keepTrial : ByteArray := prog_9_method_4_code
def yX7_keepTrial : MethodName := ⟨RX7, "keepTrial", "(I)V"⟩
abbrev cX7_advance : ByteArray := prog_9_method_5_code
def yX7_advance : MethodName := ⟨RX7, "advance", "()Z"⟩
def RX8 : String := "GlassTank$Ring"
def TX8 : u_T := fun k => match k with
  | 0 => ("GlassTank$Ring", "changes", "[[I", true)
  | 1 => ("GlassTank$Ring", "latest", "[I", true)
  | 2 => ("GlassTank$Ring", "latestSize", "I", false)
  | _ => ("GlassTank$Ring", "order", "[I", true)
def tyX8 : Nat → FieldType := fun k => match k with
  | 0 => .array (.array .int)
  | 1 => .array .int
  | 2 => .int
  | _ => .array .int
abbrev wsX80 : List Cond := u_ws RX8 TX8 4
theorem nmX8 : ∀ a, a < 4 → ∀ b, b < 4 → a ≠ b → (TX8 a).2.1 ≠ (TX8 b).2.1 := by decide +kernel
theorem tyX8_ok : ∀ k, k < 4 → parseFieldDescriptor (TX8 k).2.2.1 = some (tyX8 k) := by decide +kernel
abbrev cX8_init : ByteArray := prog_10_method_1_code
def yX8_init : MethodName := ⟨RX8, "<init>", "()V"⟩
abbrev cX8_leastSum : ByteArray := prog_10_method_2_code
def yX8_leastSum : MethodName := ⟨RX8, "leastSum", "(I)I"⟩
abbrev cX8_gather : ByteArray := prog_10_method_3_code
def yX8_gather : MethodName := ⟨RX8, "gather", "(I)I"⟩
abbrev cX8_sumOfOrder : ByteArray := prog_10_method_4_code
def yX8_sumOfOrder : MethodName := ⟨RX8, "sumOfOrder", "(I)I"⟩
abbrev cX8_keepOrder : ByteArray := prog_10_method_5_code
def yX8_keepOrder : MethodName := ⟨RX8, "keepOrder", "(I)V"⟩
abbrev cX8_advance : ByteArray := prog_10_method_6_code
def yX8_advance : MethodName := ⟨RX8, "advance", "(I)Z"⟩
abbrev cX8_swap : ByteArray := prog_10_method_7_code
def yX8_swap : MethodName := ⟨RX8, "swap", "(II)V"⟩
def RX9 : String := "GlassTank$Sharer"
def TX9 : u_T := fun k => match k with
  | 0 => ("GlassTank$Sharer", "rests", "[J", true)
  | _ => ("GlassTank$Sharer", "places", "[I", true)
def tyX9 : Nat → FieldType := fun k => match k with
  | 0 => .array .long
  | _ => .array .int
abbrev wsX90 : List Cond := u_ws RX9 TX9 2
theorem nmX9 : ∀ a, a < 2 → ∀ b, b < 2 → a ≠ b → (TX9 a).2.1 ≠ (TX9 b).2.1 := by decide +kernel
theorem tyX9_ok : ∀ k, k < 2 → parseFieldDescriptor (TX9 k).2.2.1 = some (tyX9 k) := by decide +kernel
abbrev cX9_init : ByteArray := prog_11_method_1_code
def yX9_init : MethodName := ⟨RX9, "<init>", "()V"⟩
abbrev cX9_split : ByteArray := prog_11_method_2_code
def yX9_split : MethodName := ⟨RX9, "split", "(I[II[II)V"⟩
abbrev cX9_giveLeft : ByteArray := prog_11_method_3_code
def yX9_giveLeft : MethodName := ⟨RX9, "giveLeft", "(II[I)V"⟩
def RX10 : String := "GlassTank$Tank"
def TX10 : u_T := fun k => match k with
  | 0 => ("GlassTank$Tank", "sharer", "LGlassTank$Sharer;", true)
  | 1 => ("GlassTank$Tank", "cells", "[[I", true)
  | 2 => ("GlassTank$Tank", "flows", "[[I", true)
  | 3 => ("GlassTank$Tank", "made", "Z", false)
  | 4 => ("GlassTank$Tank", "cellCount", "I", false)
  | 5 => ("GlassTank$Tank", "weight", "I", false)
  | 6 => ("GlassTank$Tank", "pulled", "I", false)
  | _ => ("GlassTank$Tank", "isStill", "Z", false)
def tyX10 : Nat → FieldType := fun k => match k with
  | 0 => .object "GlassTank$Sharer"
  | 1 => .array (.array .int)
  | 2 => .array (.array .int)
  | 3 => .boolean
  | 4 => .int
  | 5 => .int
  | 6 => .int
  | _ => .boolean
abbrev wsX100 : List Cond := u_ws RX10 TX10 8
theorem nmX10 : ∀ a, a < 8 → ∀ b, b < 8 → a ≠ b → (TX10 a).2.1 ≠ (TX10 b).2.1 := by decide +kernel
theorem tyX10_ok : ∀ k, k < 8 → parseFieldDescriptor (TX10 k).2.2.1 = some (tyX10 k) := by decide +kernel
abbrev cX10_init : ByteArray := prog_12_method_1_code
def yX10_init : MethodName := ⟨RX10, "<init>", "(LGlassTank$Sharer;)V"⟩
abbrev cX10_fill : ByteArray := prog_12_method_2_code
def yX10_fill : MethodName := ⟨RX10, "fill", "(III[I)V"⟩
abbrev cX10_copy : ByteArray := prog_12_method_3_code
def yX10_copy : MethodName := ⟨RX10, "copy", "(LGlassTank$Tank;)V"⟩
abbrev cX10_pass : ByteArray := prog_12_method_4_code
def yX10_pass : MethodName := ⟨RX10, "pass", "(LGlassTank$Charge;)V"⟩
abbrev cX10_move : ByteArray := prog_12_method_5_code
def yX10_move : MethodName := ⟨RX10, "move", "(II)V"⟩
abbrev cX10_outOfLast : ByteArray := prog_12_method_6_code
def yX10_outOfLast : MethodName := ⟨RX10, "outOfLast", "()[I"⟩
abbrev cX10_gramsIn : ByteArray := prog_12_method_7_code
def yX10_gramsIn : MethodName := ⟨RX10, "gramsIn", "(III)I"⟩
abbrev cX10_allGrams : ByteArray := prog_12_method_8_code
def yX10_allGrams : MethodName := ⟨RX10, "allGrams", "()I"⟩
def RX11 : String := "GlassTank"
def TX11 : u_T := fun k => match k with
  | 0 => ("GlassTank", "feeds", "LGlassTank$Feeds;", true)
  | 1 => ("GlassTank", "mix", "LGlassTank$Mix;", true)
  | 2 => ("GlassTank", "mixSearch", "LGlassTank$MixSearch;", true)
  | 3 => ("GlassTank", "tank", "LGlassTank$Tank;", true)
  | 4 => ("GlassTank", "charge", "LGlassTank$Charge;", true)
  | 5 => ("GlassTank", "glass", "LGlassTank$Glass;", true)
  | 6 => ("GlassTank", "colours", "LGlassTank$Colours;", true)
  | 7 => ("GlassTank", "log", "LGlassTank$Log;", true)
  | 8 => ("GlassTank", "forecast", "LGlassTank$Forecast;", true)
  | 9 => ("GlassTank", "ring", "LGlassTank$Ring;", true)
  | _ => ("GlassTank", "wanted", "I", false)
def tyX11 : Nat → FieldType := fun k => match k with
  | 0 => .object "GlassTank$Feeds"
  | 1 => .object "GlassTank$Mix"
  | 2 => .object "GlassTank$MixSearch"
  | 3 => .object "GlassTank$Tank"
  | 4 => .object "GlassTank$Charge"
  | 5 => .object "GlassTank$Glass"
  | 6 => .object "GlassTank$Colours"
  | 7 => .object "GlassTank$Log"
  | 8 => .object "GlassTank$Forecast"
  | 9 => .object "GlassTank$Ring"
  | _ => .int
abbrev wsX110 : List Cond := u_ws RX11 TX11 11
theorem nmX11 : ∀ a, a < 11 → ∀ b, b < 11 → a ≠ b → (TX11 a).2.1 ≠ (TX11 b).2.1 := by decide +kernel
theorem tyX11_ok : ∀ k, k < 11 → parseFieldDescriptor (TX11 k).2.2.1 = some (tyX11 k) := by decide +kernel
abbrev cX11_init : ByteArray := prog_1_method_1_code
def yX11_init : MethodName := ⟨RX11, "<init>", "()V"⟩
abbrev cX11_feed : ByteArray := prog_1_method_2_code
def yX11_feed : MethodName := ⟨RX11, "feed", "(IIIIIII)I"⟩
abbrev cX11_stock : ByteArray := prog_1_method_3_code
def yX11_stock : MethodName := ⟨RX11, "stock", "(II)I"⟩
abbrev cX11_of : ByteArray := prog_1_method_4_code
def yX11_of : MethodName := ⟨RX11, "of", "(II)I"⟩
abbrev cX11_tank : ByteArray := prog_1_method_5_code
def yX11_tank : MethodName := ⟨RX11, "tank", "(IIII)I"⟩
abbrev cX11_pull : ByteArray := prog_1_method_6_code
def yX11_pull : MethodName := ⟨RX11, "pull", "(I)I"⟩
abbrev cX11_cell : ByteArray := prog_1_method_7_code
def yX11_cell : MethodName := ⟨RX11, "cell", "(III)I"⟩
abbrev cX11_share : ByteArray := prog_1_method_8_code
def yX11_share : MethodName := ⟨RX11, "share", "(II)I"⟩
abbrev cX11_mix : ByteArray := prog_1_method_9_code
def yX11_mix : MethodName := ⟨RX11, "mix", "()I"⟩
abbrev cX11_colour : ByteArray := prog_1_method_10_code
def yX11_colour : MethodName := ⟨RX11, "colour", "()I"⟩
abbrev cX11_span : ByteArray := prog_1_method_11_code
def yX11_span : MethodName := ⟨RX11, "span", "(IIII)I"⟩
abbrev cX11_sure : ByteArray := prog_1_method_12_code
def yX11_sure : MethodName := ⟨RX11, "sure", "(I)I"⟩
abbrev cX11_cheapest : ByteArray := prog_1_method_13_code
def yX11_cheapest : MethodName := ⟨RX11, "cheapest", "(I)I"⟩
abbrev cX11_want : ByteArray := prog_1_method_14_code
def yX11_want : MethodName := ⟨RX11, "want", "(I)I"⟩
abbrev cX11_hours : ByteArray := prog_1_method_15_code
def yX11_hours : MethodName := ⟨RX11, "hours", "(I)I"⟩
abbrev cX11_glass : ByteArray := prog_1_method_16_code
def yX11_glass : MethodName := ⟨RX11, "glass", "(II)I"⟩
abbrev cX11_lead : ByteArray := prog_1_method_17_code
def yX11_lead : MethodName := ⟨RX11, "lead", "(II)I"⟩
abbrev cX11_when : ByteArray := prog_1_method_18_code
def yX11_when : MethodName := ⟨RX11, "when", "(I)I"⟩
abbrev cX11_between : ByteArray := prog_1_method_19_code
def yX11_between : MethodName := ⟨RX11, "between", "()I"⟩
abbrev cX11_dose : ByteArray := prog_1_method_20_code
def yX11_dose : MethodName := ⟨RX11, "dose", "(II)I"⟩
abbrev cX11_change : ByteArray := prog_1_method_21_code
def yX11_change : MethodName := ⟨RX11, "change", "(III)I"⟩
abbrev cX11_ring : ByteArray := prog_1_method_22_code
def yX11_ring : MethodName := ⟨RX11, "ring", "(I)I"⟩
abbrev cX11_next : ByteArray := prog_1_method_23_code
def yX11_next : MethodName := ⟨RX11, "next", "(I)I"⟩
abbrev cX11_told : ByteArray := prog_1_method_24_code
def yX11_told : MethodName := ⟨RX11, "told", "(I)I"⟩
abbrev cX11_isWithin : ByteArray := prog_1_method_25_code
def yX11_isWithin : MethodName := ⟨RX11, "isWithin", "(III)Z"⟩
abbrev cX11_isThing : ByteArray := prog_1_method_26_code
def yX11_isThing : MethodName := ⟨RX11, "isThing", "(I)Z"⟩
abbrev cX11_isMakeUp : ByteArray := prog_1_method_27_code
def yX11_isMakeUp : MethodName := ⟨RX11, "isMakeUp", "(IIII)Z"⟩
abbrev cX11_mostDoubt : ByteArray := prog_1_method_28_code
def yX11_mostDoubt : MethodName := ⟨RX11, "mostDoubt", "(I)I"⟩
abbrev cX11_sumOf : ByteArray := prog_1_method_29_code
def yX11_sumOf : MethodName := ⟨RX11, "sumOf", "([I)I"⟩
abbrev cX11_canRun : ByteArray := prog_1_method_30_code
def yX11_canRun : MethodName := ⟨RX11, "canRun", "()Z"⟩
abbrev cX11_passHour : ByteArray := prog_1_method_31_code
def yX11_passHour : MethodName := ⟨RX11, "passHour", "()V"⟩
def RX12 : String := "GlassTankModel"
def TX12 : u_T := fun k => match k with
  | 0 => ("GlassTankModel", "feeds", "I", false)
  | 1 => ("GlassTankModel", "colours", "I", false)
  | 2 => ("GlassTankModel", "makeUp", "[I", true)
  | 3 => ("GlassTankModel", "kinds", "[I", true)
  | 4 => ("GlassTankModel", "doubts", "[I", true)
  | 5 => ("GlassTankModel", "prices", "[I", true)
  | 6 => ("GlassTankModel", "stocks", "[I", true)
  | 7 => ("GlassTankModel", "shares", "[I", true)
  | 8 => ("GlassTankModel", "mixed", "[I", true)
  | 9 => ("GlassTankModel", "hasMix", "Z", false)
  | 10 => ("GlassTankModel", "isMade", "Z", false)
  | 11 => ("GlassTankModel", "cells", "I", false)
  | 12 => ("GlassTankModel", "wide", "I", false)
  | 13 => ("GlassTankModel", "pull", "I", false)
  | 14 => ("GlassTankModel", "wanted", "I", false)
  | 15 => ("GlassTankModel", "lots", "[I", true)
  | 16 => ("GlassTankModel", "then", "[I", true)
  | 17 => ("GlassTankModel", "out", "[I", true)
  | 18 => ("GlassTankModel", "into", "[I", true)
  | 19 => ("GlassTankModel", "glass", "[I", true)
  | 20 => ("GlassTankModel", "leasts", "[I", true)
  | 21 => ("GlassTankModel", "mosts", "[I", true)
  | 22 => ("GlassTankModel", "changes", "[I", true)
  | 23 => ("GlassTankModel", "hours", "I", false)
  | 24 => ("GlassTankModel", "waste", "J", false)
  | 25 => ("GlassTankModel", "come", "J", false)
  | 26 => ("GlassTankModel", "hourThings", "[I", true)
  | 27 => ("GlassTankModel", "hourFeeds", "[I", true)
  | 28 => ("GlassTankModel", "hourName", "[I", true)
  | 29 => ("GlassTankModel", "hourWaste", "[I", true)
  | 30 => ("GlassTankModel", "hourGrams", "[I", true)
  | 31 => ("GlassTankModel", "weights", "[J", true)
  | 32 => ("GlassTankModel", "rests", "[J", true)
  | 33 => ("GlassTankModel", "got", "[I", true)
  | 34 => ("GlassTankModel", "trial", "[I", true)
  | 35 => ("GlassTankModel", "cheap", "[I", true)
  | 36 => ("GlassTankModel", "taken", "[I", true)
  | 37 => ("GlassTankModel", "order", "[I", true)
  | 38 => ("GlassTankModel", "ringOf", "[I", true)
  | _ => ("GlassTankModel", "ringMany", "I", false)
def tyX12 : Nat → FieldType := fun k => match k with
  | 0 => .int
  | 1 => .int
  | 2 => .array .int
  | 3 => .array .int
  | 4 => .array .int
  | 5 => .array .int
  | 6 => .array .int
  | 7 => .array .int
  | 8 => .array .int
  | 9 => .boolean
  | 10 => .boolean
  | 11 => .int
  | 12 => .int
  | 13 => .int
  | 14 => .int
  | 15 => .array .int
  | 16 => .array .int
  | 17 => .array .int
  | 18 => .array .int
  | 19 => .array .int
  | 20 => .array .int
  | 21 => .array .int
  | 22 => .array .int
  | 23 => .int
  | 24 => .long
  | 25 => .long
  | 26 => .array .int
  | 27 => .array .int
  | 28 => .array .int
  | 29 => .array .int
  | 30 => .array .int
  | 31 => .array .long
  | 32 => .array .long
  | 33 => .array .int
  | 34 => .array .int
  | 35 => .array .int
  | 36 => .array .int
  | 37 => .array .int
  | 38 => .array .int
  | _ => .int
abbrev wsX120 : List Cond := u_ws RX12 TX12 40
theorem nmX12 : ∀ a, a < 40 → ∀ b, b < 40 → a ≠ b → (TX12 a).2.1 ≠ (TX12 b).2.1 := by decide +kernel
theorem tyX12_ok : ∀ k, k < 40 → parseFieldDescriptor (TX12 k).2.2.1 = some (tyX12 k) := by decide +kernel
abbrev cX12_init : ByteArray := prog_14_method_1_code
def yX12_init : MethodName := ⟨RX12, "<init>", "()V"⟩
abbrev cX12_in : ByteArray := prog_14_method_3_code
def yX12_in : MethodName := ⟨RX12, "in", "(III)Z"⟩
abbrev cX12_isFeed : ByteArray := prog_14_method_4_code
def yX12_isFeed : MethodName := ⟨RX12, "isFeed", "(I)Z"⟩
abbrev cX12_isColour : ByteArray := prog_14_method_5_code
def yX12_isColour : MethodName := ⟨RX12, "isColour", "(I)Z"⟩
abbrev cX12_feed : ByteArray := prog_14_method_6_code
def yX12_feed : MethodName := ⟨RX12, "feed", "(IIIIIII)I"⟩
abbrev cX12_stock : ByteArray := prog_14_method_7_code
def yX12_stock : MethodName := ⟨RX12, "stock", "(II)I"⟩
abbrev cX12_of : ByteArray := prog_14_method_8_code
def yX12_of : MethodName := ⟨RX12, "of", "(II)I"⟩
abbrev cX12_shareOut : ByteArray := prog_14_method_9_code
def yX12_shareOut : MethodName := ⟨RX12, "shareOut", "(II)V"⟩
abbrev cX12_byThings : ByteArray := prog_14_method_10_code
def yX12_byThings : MethodName := ⟨RX12, "byThings", "(II[II)V"⟩
abbrev cX12_tank : ByteArray := prog_14_method_11_code
def yX12_tank : MethodName := ⟨RX12, "tank", "(IIII)I"⟩
abbrev cX12_pull : ByteArray := prog_14_method_12_code
def yX12_pull : MethodName := ⟨RX12, "pull", "(I)I"⟩
abbrev cX12_cell : ByteArray := prog_14_method_13_code
def yX12_cell : MethodName := ⟨RX12, "cell", "(III)I"⟩
abbrev cX12_share : ByteArray := prog_14_method_14_code
def yX12_share : MethodName := ⟨RX12, "share", "(II)I"⟩
abbrev cX12_mix : ByteArray := prog_14_method_15_code
def yX12_mix : MethodName := ⟨RX12, "mix", "()I"⟩
abbrev cX12_colour : ByteArray := prog_14_method_16_code
def yX12_colour : MethodName := ⟨RX12, "colour", "()I"⟩
abbrev cX12_span : ByteArray := prog_14_method_17_code
def yX12_span : MethodName := ⟨RX12, "span", "(IIII)I"⟩
abbrev cX12_isSure : ByteArray := prog_14_method_18_code
def yX12_isSure : MethodName := ⟨RX12, "isSure", "(I[I)Z"⟩
abbrev cX12_sure : ByteArray := prog_14_method_19_code
def yX12_sure : MethodName := ⟨RX12, "sure", "(I)I"⟩
abbrev cX12_cheapest : ByteArray := prog_14_method_20_code
def yX12_cheapest : MethodName := ⟨RX12, "cheapest", "(I)I"⟩
abbrev cX12_want : ByteArray := prog_14_method_21_code
def yX12_want : MethodName := ⟨RX12, "want", "(I)I"⟩
abbrev cX12_comes : ByteArray := prog_14_method_22_code
def yX12_comes : MethodName := ⟨RX12, "comes", "(II)V"⟩
abbrev cX12_goes : ByteArray := prog_14_method_23_code
def yX12_goes : MethodName := ⟨RX12, "goes", "([I)V"⟩
abbrev cX12_glassOf : ByteArray := prog_14_method_24_code
def yX12_glassOf : MethodName := ⟨RX12, "glassOf", "(I)I"⟩
abbrev cX12_isOf : ByteArray := prog_14_method_25_code
def yX12_isOf : MethodName := ⟨RX12, "isOf", "(I)Z"⟩
abbrev cX12_nameOf : ByteArray := prog_14_method_26_code
def yX12_nameOf : MethodName := ⟨RX12, "nameOf", "()I"⟩
abbrev cX12_goesBy : ByteArray := prog_14_method_27_code
def yX12_goesBy : MethodName := ⟨RX12, "goesBy", "()Z"⟩
abbrev cX12_hours : ByteArray := prog_14_method_28_code
def yX12_hours : MethodName := ⟨RX12, "hours", "(I)I"⟩
abbrev cX12_isHour : ByteArray := prog_14_method_29_code
def yX12_isHour : MethodName := ⟨RX12, "isHour", "(I)Z"⟩
abbrev cX12_glass : ByteArray := prog_14_method_30_code
def yX12_glass : MethodName := ⟨RX12, "glass", "(II)I"⟩
abbrev cX12_lead : ByteArray := prog_14_method_31_code
def yX12_lead : MethodName := ⟨RX12, "lead", "(II)I"⟩
abbrev cX12_first : ByteArray := prog_14_method_32_code
def yX12_first : MethodName := ⟨RX12, "first", "(IIII)I"⟩
abbrev cX12_when : ByteArray := prog_14_method_33_code
def yX12_when : MethodName := ⟨RX12, "when", "(I)I"⟩
abbrev cX12_between : ByteArray := prog_14_method_34_code
def yX12_between : MethodName := ⟨RX12, "between", "()I"⟩
abbrev cX12_dose : ByteArray := prog_14_method_35_code
def yX12_dose : MethodName := ⟨RX12, "dose", "(II)I"⟩
abbrev cX12_change : ByteArray := prog_14_method_36_code
def yX12_change : MethodName := ⟨RX12, "change", "(III)I"⟩
abbrev cX12_ring : ByteArray := prog_14_method_37_code
def yX12_ring : MethodName := ⟨RX12, "ring", "(I)I"⟩
abbrev cX12_turns : ByteArray := prog_14_method_38_code
def yX12_turns : MethodName := ⟨RX12, "turns", "(I)Z"⟩
abbrev cX12_next : ByteArray := prog_14_method_39_code
def yX12_next : MethodName := ⟨RX12, "next", "(I)I"⟩
abbrev cX12_told : ByteArray := prog_14_method_40_code
def yX12_told : MethodName := ⟨RX12, "told", "(I)I"⟩
def RJ9 : String := "java/lang/Math"
def TJ9 : u_T := fun k => match k with
  | _ => ("", "", "", false)
def tyJ9 : Nat → FieldType := fun k => match k with
  | _ => .int
abbrev wsJ90 : List Cond := u_ws RJ9 TJ9 0
theorem nmJ9 : ∀ a, a < 0 → ∀ b, b < 0 → a ≠ b → (TJ9 a).2.1 ≠ (TJ9 b).2.1 := by decide +kernel
theorem tyJ9_ok : ∀ k, k < 0 → parseFieldDescriptor (TJ9 k).2.2.1 = some (tyJ9 k) := by decide +kernel
abbrev cJ9_max_7cf53 : ByteArray := prog_15_method_65_code
def yJ9_max_7cf53 : MethodName := ⟨RJ9, "max", "(II)I"⟩
abbrev cJ9_min_7cf53 : ByteArray := prog_15_method_69_code
def yJ9_min_7cf53 : MethodName := ⟨RJ9, "min", "(II)I"⟩
def RJ10 : String := "java/lang/System"
def TJ10 : u_T := fun k => match k with
  | _ => ("", "", "", false)
def tyJ10 : Nat → FieldType := fun k => match k with
  | _ => .int
abbrev wsJ100 : List Cond := u_ws RJ10 TJ10 0
theorem nmJ10 : ∀ a, a < 0 → ∀ b, b < 0 → a ≠ b → (TJ10 a).2.1 ≠ (TJ10 b).2.1 := by decide +kernel
theorem tyJ10_ok : ∀ k, k < 0 → parseFieldDescriptor (TJ10 k).2.2.1 = some (tyJ10 k) := by decide +kernel
def RL : String := "GlassTankLaw"
abbrev cL_law : ByteArray := code
def yL_law : MethodName := ⟨RL, "law", "([I)Z"⟩
